/-! HISTORIES: what fits, by its own words -/
def soH (lk : Nat → Nat → Int32) (T : Nat → Int32) (i : Nat) : Nat → Int32
  | 0 => 0
  | j + 1 => soH lk T i j + (if lk i j = 0 then 0 else T j)
theorem soH_cg {lk : Nat → Nat → Int32} {T U : Nat → Int32} {i : Nat} : ∀ {j : Nat}, (∀ q, q < j → T q = U q) → soH lk T i j = soH lk U i j := by
  intro j
  induction j with
  | zero => intro _; rfl
  | succ j ih =>
    intro h
    show soH lk T i j + (if lk i j = 0 then 0 else T j) = soH lk U i j + (if lk i j = 0 then 0 else U j)
    rw [ih (fun q hq => h q (by omega)), h j (by omega)]
def upH (T : Nat → Int32) (p : Nat) : Nat → Int32 := fun i => if i = p then T i + 1 else T i
def rnH (lk : Nat → Nat → Int32) (m : Nat) (v : Int32) (P O : Nat → Nat) : Nat → Nat → (Nat → Int32) → Option (Nat → Int32)
  | 0, _, T => some T
  | r + 1, q, T => if (if soH lk T (P q) m < v then (0 : Int32) else 1) = nI (O q) then rnH lk m v P O r (q + 1) (upH T (P q)) else none
def t0H (m c : Nat) : Nat → Int32 := fun i => nI (c / 4 ^ (m - 1 - i) % 4)
def fH (lk : Nat → Nat → Int32) (m : Nat) (v : Int32) (P O : Nat → Nat) (N c : Nat) : Option (Nat → Int32) := rnH lk m v P O N 0 (t0H m c)
def sm1 : Option (Nat → Int32) → Int32
  | none => 0
  | some _ => 1
def cntH (F : Nat → Option (Nat → Int32)) : Nat → Int32
  | 0 => 0
  | c + 1 => cntH F c + sm1 (F c)
def fstH (F : Nat → Option (Nat → Int32)) : Nat → Int32
  | 0 => -2
  | c + 1 => if sm1 (F c) = 0 then fstH F c else if cntH F c = 0 then nI c else fstH F c
def nx1 (lk : Nat → Nat → Int32) (m : Nat) (v : Int32) (i : Nat) : Option (Nat → Int32) → Int32
  | none => 0
  | some T => if soH lk T i m < v then 0 else 1
def nxtH (lk : Nat → Nat → Int32) (m : Nat) (v : Int32) (F : Nat → Option (Nat → Int32)) (i : Nat) : Nat → Int32
  | 0 => 0
  | c + 1 => nxtH lk m v F i c + nx1 lk m v i (F c)
def telH (g : Nat → Int32) : Nat → Nat → Nat → Nat
  | 0, _, b => b
  | r + 1, i, b => if g b ≤ g i then telH g r (i + 1) b else telH g r (i + 1) i
abbrev FzH (m row : Nat) (X : Option (Nat → Int32)) (v : Int32) (M : qM) : Prop := (v = 1 ∧ ∃ T, X = some T ∧ ∀ i, i < m → M row i = T i) ∨ (v = 0 ∧ X = none)
theorem hshr : ∀ c, c < 256 → ∀ e, e < 4 → (nI c >>> (nI (2 * e) &&& 31)) &&& (3 : Int32) = nI (c / 4 ^ e % 4) := by decide +kernel
/-! the class's side -/
abbrev HJ (m N : Nat) (ks P O : Nat → Nat) (M : qM) : Prop := (M 70 8 = nI m ∧ M 70 9 = nI N) ∧ (∀ i, i < m → M 71 i = nI (ks i)) ∧ ∀ q, q < N → M 73 q = nI (P q) ∧ M 74 q = nI (O q)
abbrev HL (m : Nat) (ks : Nat → Nat) (lk : Nat → Nat → Int32) (M : qM) : Prop := ∀ i j, i < m → j < m → (bitI (M 72 i) (ks j) ↔ lk i j ≠ 0)
theorem c_old4 {n m N i : Nat} (hm : m ≤ 4) (hi : i < m) {ks P O : Nat → Nat} {lk : Nat → Nat → Int32} {T : Nat → Int32} {M : qM} (hJ : HJ m N ks P O M) (hL : HL m ks lk M) (hT : ∀ j, j < m → M 75 j = T j) : ∀ (f j : Nat), j ≤ m → qP (f_X8_old_4 n f (nI i) (soH lk T i j) (nI j) M) (fun w m' => w = soH lk T i m ∧ m' = M) := by
  intro f
  induction f with
  | zero => intro j _; exact P_none
  | succ f ih =>
    intro j hj
    show qP (b_X8_old_4 n (f_X8_old_4 n f) (nI i) (soH lk T i j) (nI j) M) _
    unfold b_X8_old_4
    have tj' : (nI j).toInt = (j : Int) := nI_toInt (by omega)
    have ej : (nI j).toNatClampNeg = j := by rw [tnc, tj']; rfl
    have ei : (nI i).toNatClampNeg = i := by rw [tnc, nI_toInt (by omega)]; rfl
    have tm' : (M 70 8).toInt = (m : Int) := by rw [hJ.1.1, nI_toInt (by omega)]
    refine P_le tm' tj' (fun c => P_ret ⟨by rw [show j = m by omega], rfl⟩) (fun c => P_qg (fun _ _ => P_qg (fun _ _ => ?_)))
    have hjm : j < m := by omega
    rw [ei, ej, hJ.2.1 j hjm]
    have go : ∀ z : Int32, z = (if lk i j = 0 then 0 else T j) → qP (f_X8_old_42 n (f_X8_old_4 n f) (nI i) (nI j) (soH lk T i j) z M) (fun w m' => w = soH lk T i m ∧ m' = M) := by
      intro z hz
      unfold f_X8_old_42
      refine P_ql rfl (fun x1 hx1 => P_ql (i_add tj' l_1 (by omega) (by omega)) (fun x2 hx2 => ?_))
      have e1 : x1 = soH lk T i (j + 1) := by
        rw [Int32.toInt_inj.mp hx1, hz]
        rfl
      rw [e1, nI_i (a := x2) (k := j + 1) (by rw [hx2]; omega)]
      exact ih (j + 1) (by omega)
    refine P_if (fun cb => P_qg (fun _ _ => go _ ?_)) (fun cb => go _ ?_)
    · rw [if_neg ((hL i j hi hjm).mp cb)]
      exact hT j hjm
    · rw [if_pos (Classical.byContradiction (fun z => cb ((hL i j hi hjm).mpr z)))]
theorem c_old {n m N i : Nat} (hm : m ≤ 4) (hi : i < m) {ks P O : Nat → Nat} {lk : Nat → Nat → Int32} {T : Nat → Int32} {M : qM} (hJ : HJ m N ks P O M) (hL : HL m ks lk M) (hT : ∀ j, j < m → M 75 j = T j) : qP (f_X8_old n (nI i) M) (fun w m' => w = soH lk T i m ∧ m' = M) := by
  unfold f_X8_old
  exact c_old4 hm hi hJ hL hT n 0 (Nat.zero_le _)
theorem HJ_cg {m N : Nat} {ks P O : Nat → Nat} {M M' : qM} (h : HJ m N ks P O M) (e8 : M' 70 8 = M 70 8) (e9 : M' 70 9 = M 70 9) (e71 : M' 71 = M 71) (e73 : M' 73 = M 73) (e74 : M' 74 = M 74) : HJ m N ks P O M' := by
  unfold HJ
  rw [e8, e9, e71, e73, e74]
  exact h
theorem c_fits38 {n m N : Nat} (hm : m ≤ 4) (hN : N ≤ 10) {ks P O : Nat → Nat} (hP : ∀ q, q < N → P q < m) {lk : Nat → Nat → Int32} {v : Int32} {M0 : qM} (hJ : HJ m N ks P O M0) (hL : HL m ks lk M0) : ∀ (f r q : Nat) (T : Nat → Int32) (M : qM), q + r = N → (∀ c, c ≠ 75 → M c = M0 c) → (∀ j, j < m → M 75 j = T j) → qP (f_X8_fits_38 n f v (nI q) M) (fun w m' => FzH m 75 (rnH lk m v P O r q T) w m' ∧ ∀ c, c ≠ 75 → m' c = M0 c) := by
  intro f
  induction f with
  | zero => intro r q T M _ _ _; exact P_none
  | succ f ih =>
    intro r q T M hq hf hT
    show qP (b_X8_fits_38 n (f_X8_fits_38 n f) v (nI q) M) _
    unfold b_X8_fits_38
    have tq' : (nI q).toInt = (q : Int) := nI_toInt (by omega)
    have eq' : (nI q).toNatClampNeg = q := by rw [tnc, tq']; rfl
    have hJ' : HJ m N ks P O M := HJ_cg hJ (by rw [hf 70 (by decide)]) (by rw [hf 70 (by decide)]) (hf 71 (by decide)) (hf 73 (by decide)) (hf 74 (by decide))
    have hL' : HL m ks lk M := fun i j hi hj => by rw [hf 72 (by decide)]; exact hL i j hi hj
    have tN : (M 70 9).toInt = (N : Int) := by rw [hJ'.1.2, nI_toInt (by omega)]
    refine P_le tN tq' (fun c => ?_) (fun c => P_qg (fun _ _ => ?_))
    · rw [show r = 0 by omega]
      exact P_ret ⟨Or.inl ⟨rfl, T, rfl, hT⟩, hf⟩
    · have hqN : q < N := by omega
      obtain ⟨r', rfl⟩ : ∃ r', r = r' + 1 := ⟨r - 1, by omega⟩
      have hp := hP q hqN
      rw [eq', (hJ'.2.2 q hqN).1]
      refine P_qc (c_old hm hp hJ' hL' hT) ?_
      rintro r1 m2 ⟨rfl, rfl⟩
      have go : ∀ z : Int32, z = (if soH lk T (P q) m < v then (0 : Int32) else 1) → qP (f_X8_fits_65 n (f_X8_fits_38 n f) v (nI q) z m2) (fun w m' => FzH m 75 (rnH lk m v P O (r' + 1) q T) w m' ∧ ∀ c, c ≠ 75 → m' c = M0 c) := by
        intro z hz
        unfold f_X8_fits_65
        refine P_qg (fun _ _ => ?_)
        rw [eq', (hJ'.2.2 q hqN).2]
        refine P_if (fun cz => P_qg (fun _ _ => ?_)) (fun cz => P_ret ⟨Or.inr ⟨rfl, ?_⟩, hf⟩)
        · rw [(hJ'.2.2 q hqN).1]
          have tp' : (nI (P q)).toInt = (P q : Int) := nI_toInt (by omega)
          have ep' : (nI (P q)).toNatClampNeg = P q := by rw [tnc, tp']; rfl
          refine P_ql tp' (fun x1 hx1 => P_qg (fun _ _ => P_qg (fun _ _ => ?_)))
          rw [nI_i hx1, ep']
          refine P_m (fun m3 a1 a2 a3 => P_ql (i_add tq' l_1 (by omega) (by omega)) (fun x3 hx3 => ?_))
          rw [nI_i (a := x3) (k := q + 1) (by rw [hx3]; omega)]
          have e : rnH lk m v P O (r' + 1) q T = rnH lk m v P O r' (q + 1) (upH T (P q)) := by
            show (if (if soH lk T (P q) m < v then (0 : Int32) else 1) = nI (O q) then _ else _) = _
            rw [if_pos (by rw [← hz]; exact cz)]
          rw [e]
          refine ih r' (q + 1) (upH T (P q)) m3 (by omega) (fun c hc => by rw [a3 c hc, hf c hc]) (fun j hj => ?_)
          unfold upH
          by_cases c5 : j = P q
          · rw [if_pos c5, c5, a1, hT _ hp]
          · rw [if_neg c5, a2 j c5, hT j hj]
        · show (if (if soH lk T (P q) m < v then (0 : Int32) else 1) = nI (O q) then _ else none) = none
          rw [if_neg (by rw [← hz]; exact cz)]
      exact P_if (fun c5 => go 0 (by rw [if_pos c5])) (fun c5 => go 1 (by rw [if_neg c5]))
theorem c_fits2 {n m N h : Nat} (hm : m ≤ 4) (hm1 : 1 ≤ m) (hN : N ≤ 10) (hh : h < 256) {ks P O : Nat → Nat} (hP : ∀ q, q < N → P q < m) {lk : Nat → Nat → Int32} {v : Int32} {M0 : qM} (hJ : HJ m N ks P O M0) (hL : HL m ks lk M0) : ∀ (f i : Nat) (M : qM), i ≤ m → (∀ c, c ≠ 75 → M c = M0 c) → (∀ j, j < i → M 75 j = t0H m h j) → qP (f_X8_fits_2 n f (nI h) v (nI i) M) (fun w m' => FzH m 75 (fH lk m v P O N h) w m' ∧ ∀ c, c ≠ 75 → m' c = M0 c) := by
  intro f
  induction f with
  | zero => intro i M _ _ _; exact P_none
  | succ f ih =>
    intro i M hi hf hT
    show qP (b_X8_fits_2 n (f_X8_fits_2 n f) (nI h) v (nI i) M) _
    unfold b_X8_fits_2
    have ti : (nI i).toInt = (i : Int) := nI_toInt (by omega)
    have ei : (nI i).toNatClampNeg = i := by rw [tnc, ti]; rfl
    have e8 : M 70 8 = nI m := by rw [hf 70 (by decide)]; exact hJ.1.1
    have tm' : (nI m).toInt = (m : Int) := nI_toInt (by omega)
    rw [e8]
    refine P_le tm' ti (fun c => ?_) (fun c => P_qg (fun _ _ => ?_))
    · exact c_fits38 hm hN hP hJ hL n N 0 (t0H m h) M (by omega) hf (fun j hj => hT j (by omega))
    · have es : (2 : Int32) * ((nI m - (1 : Int32)) - nI i) = nI (2 * (m - 1 - i)) := nI_i (by
        rw [i_mul l_2 (i_sub (i_sub tm' l_1 (by omega) (by omega)) ti (by omega) (by omega)) (by omega) (by omega)]; omega)
      rw [ei, es, hshr h hh (m - 1 - i) (by omega)]
      refine P_m (fun m1 a1 a2 a3 => P_ql (i_add ti l_1 (by omega) (by omega)) (fun x2 hx2 => ?_))
      rw [nI_i (a := x2) (k := i + 1) (by rw [hx2]; omega)]
      refine ih (i + 1) m1 (by omega) (fun c hc => by rw [a3 c hc, hf c hc]) (fun j hj => ?_)
      by_cases c5 : j = i
      · rw [c5, a1]; rfl
      · rw [a2 j c5]; exact hT j (by omega)
theorem c_fits {n m N h : Nat} (hm : m ≤ 4) (hm1 : 1 ≤ m) (hN : N ≤ 10) (hh : h < 256) {ks P O : Nat → Nat} (hP : ∀ q, q < N → P q < m) {lk : Nat → Nat → Int32} {v : Int32} {M : qM} (hJ : HJ m N ks P O M) (hL : HL m ks lk M) : qP (f_X8_fits n (nI h) v M) (fun w m' => FzH m 75 (fH lk m v P O N h) w m' ∧ ∀ c, c ≠ 75 → m' c = M c) := by
  unfold f_X8_fits
  exact c_fits2 hm hm1 hN hh hP hJ hL n 0 M (Nat.zero_le _) (fun _ _ => rfl) (fun j hj => absurd hj (by omega))
abbrev GS (m N : Nat) (ks P O : Nat → Nat) (lk : Nat → Nat → Int32) (v : Int32) (c : Nat) (M : qM) : Prop := HJ m N ks P O M ∧ HL m ks lk M ∧ M 70 10 = cntH (fH lk m v P O N) c ∧ M 70 11 = fstH (fH lk m v P O N) c ∧ ∀ i, i < m → M 76 i = nxtH lk m v (fH lk m v P O N) i c
theorem c_go110 {n j m N h : Nat} (hm : m ≤ 4) (hh : h < 256) {ks P O : Nat → Nat} {lk : Nat → Nat → Int32} {v : Int32} {K57 : Int32 → Int32 → qM → qR} {Q : Int32 → qM → Prop} {T : Nat → Int32} {M0 : qM} (hJ : HJ m N ks P O M0) (hL : HL m ks lk M0) (hT : ∀ i, i < m → M0 75 i = T i) (hN0 : ∀ i, i < m → M0 76 i = nxtH lk m v (fH lk m v P O N) i h) (hF : fH lk m v P O N h = some T) (hK : ∀ M : qM, (∀ c, c ≠ 76 → M c = M0 c) → (∀ i, i < m → M 76 i = nxtH lk m v (fH lk m v P O N) i (h + 1)) → qP (K57 v (nI (h + 1)) M) Q) : ∀ (f i : Nat) (M : qM), i ≤ m → (∀ c, c ≠ 76 → M c = M0 c) → (∀ q, q < i → M 76 q = nxtH lk m v (fH lk m v P O N) q (h + 1)) → (∀ q, i ≤ q → M 76 q = M0 76 q) → qP (f_X8_goThrough_110 n j K57 f v (nI h) (nI i) M) Q := by
  intro f
  induction f with
  | zero => intro i M _ _ _ _; exact P_none
  | succ f ih =>
    intro i M hi hf hlo hhi
    show qP (b_X8_goThrough_110 n j K57 (f_X8_goThrough_110 n j K57 f) v (nI h) (nI i) M) _
    unfold b_X8_goThrough_110
    have ti : (nI i).toInt = (i : Int) := nI_toInt (by omega)
    have th : (nI h).toInt = (h : Int) := nI_toInt (by omega)
    have ei : (nI i).toNatClampNeg = i := by rw [tnc, ti]; rfl
    have tm' : (M 70 8).toInt = (m : Int) := by rw [hf 70 (by decide), hJ.1.1, nI_toInt (by omega)]
    have hJ' : HJ m N ks P O M := HJ_cg hJ (by rw [hf 70 (by decide)]) (by rw [hf 70 (by decide)]) (hf 71 (by decide)) (hf 73 (by decide)) (hf 74 (by decide))
    have hL' : HL m ks lk M := fun i j hi hj => by rw [hf 72 (by decide)]; exact hL i j hi hj
    refine P_le tm' ti (fun c => P_ql (i_add th l_1 (by omega) (by omega)) (fun x hx => ?_)) (fun c => P_qg (fun _ _ => ?_))
    · rw [nI_i (a := x) (k := h + 1) (by rw [hx]; omega)]
      exact hK M hf (fun q hq => hlo q (by omega))
    · have him : i < m := by omega
      refine P_qc (c_old hm him hJ' hL' (T := T) (fun j hj => by rw [hf 75 (by decide)]; exact hT j hj)) ?_
      rintro r2 m3 ⟨rfl, rfl⟩
      rw [ei]
      have go : ∀ z : Int32, z = (if soH lk T i m < v then (0 : Int32) else 1) → qP (f_X8_goThrough_142 n j K57 (f_X8_goThrough_110 n j K57 f) v (nI h) (nI i) (nI i) (m3 76 i) z m3) Q := by
        intro z hz
        unfold f_X8_goThrough_142
        refine P_qg (fun _ _ => ?_)
        rw [ei]
        refine P_m (fun m4 a1 a2 a3 => P_ql (i_add ti l_1 (by omega) (by omega)) (fun x hx => ?_))
        rw [nI_i (a := x) (k := i + 1) (by rw [hx]; omega)]
        refine ih (i + 1) m4 (by omega) (fun c hc => by rw [a3 c hc, hf c hc]) (fun q hq => ?_) (fun q hq => ?_)
        · by_cases c5 : q = i
          · rw [c5, a1, hhi i (Nat.le_refl _), hN0 i him, hz]
            show _ = nxtH lk m v (fH lk m v P O N) i h + nx1 lk m v i (fH lk m v P O N h)
            rw [hF]
            rfl
          · rw [a2 q c5]; exact hlo q (by omega)
        · rw [a2 q (by omega)]; exact hhi q (by omega)
      exact P_if (fun c5 => go 0 (by rw [if_pos c5])) (fun c5 => go 1 (by rw [if_neg c5]))
theorem c_go57 {n j m N : Nat} (hm : m ≤ 4) (hm1 : 1 ≤ m) (hN : N ≤ 10) {ks P O : Nat → Nat} (hP : ∀ q, q < N → P q < m) {lk : Nat → Nat → Int32} {v : Int32} : ∀ (f h : Nat) (M : qM), h ≤ 4 ^ m → GS m N ks P O lk v h M → qP (f_X8_goThrough_57 n j f v (nI h) M) (fun _ m' => GS m N ks P O lk v (4 ^ m) m') := by
  intro f
  induction f with
  | zero => intro h M _ _; exact P_none
  | succ f ih =>
    intro h M hh hS
    show qP (b_X8_goThrough_57 n j (f_X8_goThrough_57 n j f) v (nI h) M) _
    unfold b_X8_goThrough_57
    obtain ⟨hJ, hL, h10, h11, h76⟩ := hS
    have p4 : 4 ^ m ≤ 256 := Nat.le_trans (Nat.pow_le_pow_right (by decide) hm) (by decide)
    have e4 : (1 : Int32) <<< (((2 : Int32) * nI m) &&& 31) = nI (4 ^ m) := (by decide +kernel : ∀ m, m < 5 → (1 : Int32) <<< (((2 : Int32) * nI m) &&& 31) = nI (4 ^ m)) m (by omega)
    have th : (nI h).toInt = (h : Int) := nI_toInt (by omega)
    rw [hJ.1.1, e4]
    refine P_le (nI_toInt (by omega)) th (fun c => ?_) (fun c => ?_)
    · rw [show h = 4 ^ m by omega] at h10 h11 h76
      exact P_ret ⟨hJ, hL, h10, h11, h76⟩
    · refine P_qc (c_fits (h := h) hm hm1 hN (by omega) hP hJ hL) ?_
      rintro r1 m2 ⟨hz, o2⟩
      have hJ2 : HJ m N ks P O m2 := HJ_cg hJ (by rw [o2 70 (by decide)]) (by rw [o2 70 (by decide)]) (o2 71 (by decide)) (o2 73 (by decide)) (o2 74 (by decide))
      have hL2 : HL m ks lk m2 := fun i j hi hj => by rw [o2 72 (by decide)]; exact hL i j hi hj
      rcases hz with ⟨rfl, T, hF, hT⟩ | ⟨rfl, hF⟩
      · refine P_if (fun z => absurd z (by decide)) (fun _ => ?_)
        have go : ∀ s1 : Int32, s1 = fstH (fH lk m v P O N) (h + 1) → qP (f_X8_goThrough_94 n j (f_X8_goThrough_57 n j f) v (nI h) s1 m2) (fun _ m' => GS m N ks P O lk v (4 ^ m) m') := by
          intro s1 hs
          unfold f_X8_goThrough_94
          refine P_m (fun m3 a1 a2 a3 => P_m (fun m4 b1 b2 b3 => ?_))
          have o4 : ∀ c, c ≠ 70 → m4 c = m2 c := fun c hc => by rw [b3 c hc, a3 c hc]
          have hJ4 : HJ m N ks P O m4 := HJ_cg hJ2 (by rw [b2 8 (by decide), a2 8 (by decide)]) (by rw [b2 9 (by decide), a2 9 (by decide)]) (o4 71 (by decide)) (o4 73 (by decide)) (o4 74 (by decide))
          have hL4 : HL m ks lk m4 := fun i j hi hj => by rw [o4 72 (by decide)]; exact hL2 i j hi hj
          refine c_go110 hm (by omega) hJ4 hL4 (T := T) (fun i hi => by rw [o4 75 (by decide)]; exact hT i hi) (fun i hi => by rw [o4 76 (by decide), o2 76 (by decide)]; exact h76 i hi) hF (fun M' f1 f2 => ?_) n 0 m4 (Nat.zero_le _) (fun _ _ => rfl) (fun q hq => absurd hq (by omega)) (fun _ _ => rfl)
          refine ih (h + 1) M' (by omega) ⟨HJ_cg hJ4 (by rw [f1 70 (by decide)]) (by rw [f1 70 (by decide)]) (f1 71 (by decide)) (f1 73 (by decide)) (f1 74 (by decide)), fun i j hi hj => by rw [f1 72 (by decide)]; exact hL4 i j hi hj, ?_, ?_, f2⟩
          · rw [f1 70 (by decide), b1, a2 10 (by decide), o2 70 (by decide), h10]
            show _ = cntH (fH lk m v P O N) h + sm1 (fH lk m v P O N h)
            rw [hF]
            rfl
          · rw [f1 70 (by decide), b2 11 (by decide), a1, hs]
        have hfs : fstH (fH lk m v P O N) (h + 1) = (if cntH (fH lk m v P O N) h = 0 then nI h else fstH (fH lk m v P O N) h) := by
          show (if sm1 (fH lk m v P O N h) = 0 then _ else _) = _
          rw [hF, if_neg (show ¬ sm1 (some T) = 0 from (by decide : ¬ (1 : Int32) = 0))]
        rw [o2 70 (by decide), h10, h11]
        exact P_if (fun z => go _ (by rw [hfs, if_pos z])) (fun z => go _ (by rw [hfs, if_neg z]))
      · refine P_if (fun _ => P_ql (i_add th l_1 (by omega) (by omega)) (fun x hx => ?_)) (fun z => absurd rfl z)
        rw [nI_i (a := x) (k := h + 1) (by rw [hx]; omega)]
        refine ih (h + 1) m2 (by omega) ⟨hJ2, hL2, ?_, ?_, fun i hi => ?_⟩
        · rw [o2 70 (by decide), h10]
          show _ = cntH (fH lk m v P O N) h + sm1 (fH lk m v P O N h)
          rw [hF]
          exact (Int32.add_zero _).symm
        · rw [o2 70 (by decide), h11]
          show _ = (if sm1 (fH lk m v P O N h) = 0 then _ else _)
          rw [hF, if_pos (show sm1 none = 0 by rfl)]
        · rw [o2 76 (by decide), h76 i hi]
          show _ = nxtH lk m v (fH lk m v P O N) i h + nx1 lk m v i (fH lk m v P O N h)
          rw [hF]
          exact (Int32.add_zero _).symm
theorem c_go21 {n : Nat} (hn : 200000 ≤ n) {j : Nat} (hj : q_isLaw j) {C : List Int} {K : List Kl} (hK : Kg (cdl C) C.length K) {m N : Nat} (hm : m ≤ 4) (hm1 : 1 ≤ m) (hN : N ≤ 10) {ks P O : Nat → Nat} (hks : ∀ i, i < m → ks i < 12) (hP : ∀ q, q < N → P q < m) {H X : Nat → Int32} (hX : MK X) {told d v : Int32} {lk : Nat → Nat → Int32} (hlk : ∀ a b, a < m → b < m → lk a b = lkv C K n H X d (ks a) (ks b)) (htold : ∀ i, i < m → bitI told (ks i)) : ∀ (f i : Nat) (M : qM), i ≤ m → G M → LJ j M C K → M 4 = H → M 5 = X → M 3 3 = told → HJ m N ks P O M → M 70 10 = 0 → M 70 11 = -2 → (∀ q, q < m → M 76 q = 0) → (∀ a b, a < i → b < m → (bitI (M 72 a) (ks b) ↔ lk a b ≠ 0)) → qP (f_X8_goThrough_21 n j f v d (nI i) M) (fun _ m' => GS m N ks P O lk v (4 ^ m) m') := by
  intro f
  induction f with
  | zero => intro i M _ _ _ _ _ _ _ _ _ _ _; exact P_none
  | succ f ih =>
    intro i M hi hG hL h4 h5 h3 hJ h10 h11 h76 hlo
    show qP (b_X8_goThrough_21 n j (f_X8_goThrough_21 n j f) v d (nI i) M) _
    unfold b_X8_goThrough_21
    have ti : (nI i).toInt = (i : Int) := nI_toInt (by omega)
    have ei : (nI i).toNatClampNeg = i := by rw [tnc, ti]; rfl
    have tm' : (M 70 8).toInt = (m : Int) := by rw [hJ.1.1, nI_toInt (by omega)]
    refine P_le tm' ti (fun c => ?_) (fun c => P_qg (fun _ _ => ?_))
    · exact c_go57 hm hm1 hN hP n 0 M (Nat.zero_le _) ⟨hJ, fun a b ha hb => hlo a b (by omega) hb, h10, h11, h76⟩
    · have him : i < m := by omega
      have hki := hks i him
      rw [ei, hJ.2.1 i him]
      refine P_qc (P_and (c_alikes hn hj hK hki d M hG hL (by rw [h5]; exact hX)) (P_T (t_X1_alikes hn hj (nI (ks i)) d M hG (by rw [nI_toInt (by omega)]; omega)))) ?_
      rintro r1 m2 ⟨hr, g2, s2⟩
      have o2 : ∀ c, c ≠ 34 → c ≠ 35 → c ≠ 36 → m2 c = M c := fun c q1 q2 q3 => funext (fun s => s2 c s (al2 (by omega) (al2 (by omega) al0)))
      refine P_qg (fun _ _ => P_g g2 (rn_72 _ _) (nw_72 _) ?_)
      intro m3 a1 a2 a3 g3
      have o3 : ∀ c, c ≠ 34 → c ≠ 35 → c ≠ 36 → c ≠ 72 → m3 c = M c := fun c q1 q2 q3 q4 => by rw [a3 c q4, o2 c q1 q2 q3]
      refine P_ql (i_add ti l_1 (by omega) (by omega)) (fun x hx => ?_)
      rw [nI_i (a := x) (k := i + 1) (by rw [hx]; omega)]
      rw [h4, h5, h3] at hr
      refine ih (i + 1) m3 (by omega) g3 (LJ_cg hL (fun q hq => ?_)) (by rw [o3 4 (by decide) (by decide) (by decide) (by decide)]; exact h4) (by rw [o3 5 (by decide) (by decide) (by decide) (by decide)]; exact h5) (by rw [o3 3 (by decide) (by decide) (by decide) (by decide)]; exact h3) (HJ_cg hJ (by rw [o3 70 (by decide) (by decide) (by decide) (by decide)]) (by rw [o3 70 (by decide) (by decide) (by decide) (by decide)]) (o3 71 (by decide) (by decide) (by decide) (by decide)) (o3 73 (by decide) (by decide) (by decide) (by decide)) (o3 74 (by decide) (by decide) (by decide) (by decide))) (by rw [o3 70 (by decide) (by decide) (by decide) (by decide)]; exact h10) (by rw [o3 70 (by decide) (by decide) (by decide) (by decide)]; exact h11) (fun q hq => by rw [o3 76 (by decide) (by decide) (by decide) (by decide)]; exact h76 q hq) (fun a b ha hb => ?_)
      · rcases hj with rfl | rfl <;> exact o3 _ (by omega) (by omega) (by omega) (by omega)
      · by_cases c5 : a = i
        · rw [c5, a1, hr (ks b) (hks b hb), hlk i b him hb]
          constructor
          · rintro (z | z)
            · rw [z]
              unfold lkv
              rw [if_pos rfl]
              decide
            · exact z.2
          · intro z; exact Or.inr ⟨htold b hb, z⟩
        · rw [a2 a c5, o2 72 (by decide) (by decide) (by decide)]
          exact hlo a b (by omega) hb
theorem c_goT {n : Nat} (hn : 200000 ≤ n) {j : Nat} (hj : q_isLaw j) {C : List Int} {K : List Kl} (hK : Kg (cdl C) C.length K) {m N : Nat} (hm : m ≤ 4) (hm1 : 1 ≤ m) (hN : N ≤ 10) {ks P O : Nat → Nat} (hks : ∀ i, i < m → ks i < 12) (hP : ∀ q, q < N → P q < m) (d v : Int32) (M : qM) {lk : Nat → Nat → Int32} (hlk : ∀ a b, a < m → b < m → lk a b = lkv C K n (M 4) (M 5) d (ks a) (ks b)) (hX : MK (M 5)) (htold : ∀ i, i < m → bitI (M 3 3) (ks i)) (hG : G M) (hL : LJ j M C K) (hJ : HJ m N ks P O M) : qP (f_X8_goThrough n j v d M) (fun _ m' => GS m N ks P O lk v (4 ^ m) m') := by
  unfold f_X8_goThrough f_J7_fill_53178
  refine P_g hG (rn_70_10 _) (nw_70 _) ?_
  intro m1 a1 a2 a3 g1
  refine P_g g1 (rn_70_11 _) (nw_70 _) ?_
  intro m2 b1 b2 b3 g2
  refine P_qc (P_and (P_ql rfl (fun x1 hx1 => c_fill (len := 4) (by decide) 0 n 0 x1 m2 (by rw [l_0]; omega) (by rw [hx1]; decide))) (P_T (t_J7_fill_53178_c76_4 hn (0 : Int32) m2 g2 (by decide)))) ?_
  rintro _ m3 ⟨⟨e1, e2⟩, _, g3, _⟩
  have o3 : ∀ c, c ≠ 70 → c ≠ 76 → m3 c = M c := fun c q1 q2 => by rw [e1 c q2, b3 c q1, a3 c q1]
  have q70 : ∀ s, s ≠ 10 → s ≠ 11 → m3 70 s = M 70 s := fun s h1 h2 => by rw [e1 70 (by decide), b2 s h2, a2 s h1]
  refine c_go21 hn hj hK hm hm1 hN hks hP hX hlk htold n 0 m3 (Nat.zero_le _) g3 (LJ_cg hL (fun q hq => ?_)) (o3 4 (by decide) (by decide)) (o3 5 (by decide) (by decide)) (by rw [o3 3 (by decide) (by decide)]) (HJ_cg hJ (q70 8 (by decide) (by decide)) (q70 9 (by decide) (by decide)) (o3 71 (by decide) (by decide)) (o3 73 (by decide) (by decide)) (o3 74 (by decide) (by decide))) (by rw [e1 70 (by decide), b2 10 (by decide), a1]) (by rw [e1 70 (by decide), b1]) (fun q hq => (e2 q).2 (by rw [l_0]; omega) (by omega)) (fun a b ha _ => absurd ha (by omega))
  rcases hj with rfl | rfl <;> exact o3 _ (by omega) (by omega)
theorem c_tell4 {n m N : Nat} (hm : m ≤ 4) {ks P O : Nat → Nat} {M : qM} (hJ : HJ m N ks P O M) : ∀ (f r i b : Nat), (i + r = m ∨ (m < i ∧ r = 0)) → b < m → i ≤ 5 → qP (f_X8_tellingPlace_4 n f (nI b) (nI i) M) (fun w _ => w = nI (telH (fun q => qmax (M 76 q) (M 70 10 - M 76 q)) r i b)) := by
  intro f
  induction f with
  | zero => intro r i b _ _ _; exact P_none
  | succ f ih =>
    intro r i b hi hb h5
    show qP (b_X8_tellingPlace_4 n (f_X8_tellingPlace_4 n f) (nI b) (nI i) M) _
    unfold b_X8_tellingPlace_4
    have ti : (nI i).toInt = (i : Int) := nI_toInt (by omega)
    have ei : (nI i).toNatClampNeg = i := by rw [tnc, ti]; rfl
    have eb : (nI b).toNatClampNeg = b := by rw [tnc, nI_toInt (by omega)]; rfl
    have tm' : (M 70 8).toInt = (m : Int) := by rw [hJ.1.1, nI_toInt (by omega)]
    refine P_le tm' ti (fun c => ?_) (fun c => ?_)
    · rw [show r = 0 by omega]
      exact P_ret rfl
    · obtain ⟨r', rfl⟩ : ∃ r', r = r' + 1 := ⟨r - 1, by omega⟩
      unfold f_X8_greaterPart
      refine P_qc (Q := fun w m' => w = qmax (M 76 i) (M 70 10 - M 76 i) ∧ m' = M) (P_qg (fun _ _ => P_qg (fun _ _ => P_ret ⟨by rw [ei], rfl⟩))) ?_
      rintro r1 m2 ⟨rfl, rfl⟩
      refine P_qc (Q := fun w m' => w = qmax (m2 76 b) (m2 70 10 - m2 76 b) ∧ m' = m2) (P_qg (fun _ _ => P_qg (fun _ _ => P_ret ⟨by rw [eb], rfl⟩))) ?_
      rintro r3 m4 ⟨rfl, rfl⟩
      show qP _ (fun w _ => w = nI (if qmax (m4 76 b) (m4 70 10 - m4 76 b) ≤ qmax (m4 76 i) (m4 70 10 - m4 76 i) then telH (fun q => qmax (m4 76 q) (m4 70 10 - m4 76 q)) r' (i + 1) b else telH (fun q => qmax (m4 76 q) (m4 70 10 - m4 76 q)) r' (i + 1) i))
      refine P_if (fun z => P_ql (i_add ti l_1 (by omega) (by omega)) (fun x hx => ?_)) (fun z => P_ql (i_add ti l_1 (by omega) (by omega)) (fun x hx => ?_))
      · rw [nI_i (a := x) (k := i + 1) (by rw [hx]; omega), if_pos z]
        exact ih r' (i + 1) b (by omega) hb (by omega)
      · rw [nI_i (a := x) (k := i + 1) (by rw [hx]; omega), if_neg z]
        exact ih r' (i + 1) i (by omega) (by omega) (by omega)
/-! the model's side of histories -/
abbrev HMo (m : Nat) (lk : Nat → Nat → Int32) (M : qM) : Prop := M 77 61 = nI m ∧ ∀ i j, i < m → j < m → (bitI (M 117 i) j ↔ lk i j ≠ 0)
abbrev HMt (m N : Nat) (P O : Nat → Nat) (M : qM) : Prop := ∀ q, q < N → M 84 (m + 2 * q) = nI (P q) ∧ M 84 (m + 2 * q + 1) = nI (O q)
theorem d_counts5 {n m i : Nat} (hm : m ≤ 4) (hi : i < m) {lk : Nat → Nat → Int32} {T : Nat → Int32} {v : Int32} {M : qM} (hM : HMo m lk M) (hT : ∀ j, j < m → M 118 j = T j) : ∀ (f j : Nat), j ≤ m → qP (f_X12_pastCounts_5 n f (nI i) v (soH lk T i j) (nI j) M) (fun w m' => w = (if soH lk T i m < v then 0 else 1) ∧ m' = M) := by
  intro f
  induction f with
  | zero => intro j _; exact P_none
  | succ f ih =>
    intro j hj
    show qP (b_X12_pastCounts_5 n (f_X12_pastCounts_5 n f) (nI i) v (soH lk T i j) (nI j) M) _
    unfold b_X12_pastCounts_5
    have tj' : (nI j).toInt = (j : Int) := nI_toInt (by omega)
    have ej : (nI j).toNatClampNeg = j := by rw [tnc, tj']; rfl
    have ei : (nI i).toNatClampNeg = i := by rw [tnc, nI_toInt (by omega)]; rfl
    have tm' : (M 77 61).toInt = (m : Int) := by rw [hM.1, nI_toInt (by omega)]
    refine P_le tm' tj' (fun c => ?_) (fun c => P_qg (fun _ _ => ?_))
    · rw [show j = m by omega]
      exact P_if (fun z => P_ret ⟨by rw [if_pos z], rfl⟩) (fun z => P_ret ⟨by rw [if_neg z], rfl⟩)
    · have hjm : j < m := by omega
      rw [ei, d_h0, qc_v]
      by_cases cb : bitI (M 117 i) j
      · have hl := (hM.2 i j hi hjm).mp cb
        rw [if_pos cb]
        refine P_if (fun z => absurd z (by decide)) (fun _ => P_qg (fun _ _ => ?_))
        rw [ej]
        refine P_ql rfl (fun x1 hx1 => P_ql (i_add tj' l_1 (by omega) (by omega)) (fun x2 hx2 => ?_))
        have e1 : x1 = soH lk T i (j + 1) := by
          rw [Int32.toInt_inj.mp hx1, hT j hjm]
          show _ = soH lk T i j + (if lk i j = 0 then 0 else T j)
          rw [if_neg hl]
        rw [e1, nI_i (a := x2) (k := j + 1) (by rw [hx2]; omega)]
        exact ih (j + 1) (by omega)
      · have hl : lk i j = 0 := Classical.byContradiction (fun z => cb ((hM.2 i j hi hjm).mpr z))
        rw [if_neg cb]
        refine P_if (fun _ => P_ql (i_add tj' l_1 (by omega) (by omega)) (fun x2 hx2 => ?_)) (fun z => absurd rfl z)
        have e1 : soH lk T i j = soH lk T i (j + 1) := by
          show _ = soH lk T i j + (if lk i j = 0 then 0 else T j)
          rw [if_pos hl, Int32.add_zero]
        rw [e1, nI_i (a := x2) (k := j + 1) (by rw [hx2]; omega)]
        exact ih (j + 1) (by omega)
theorem d_counts {n m i : Nat} (hm : m ≤ 4) (hi : i < m) {lk : Nat → Nat → Int32} {T : Nat → Int32} {v : Int32} {M : qM} (hM : HMo m lk M) (hT : ∀ j, j < m → M 118 j = T j) : qP (f_X12_pastCounts n (nI i) v M) (fun w m' => w = (if soH lk T i m < v then 0 else 1) ∧ m' = M) := by
  unfold f_X12_pastCounts
  exact d_counts5 hm hi hM hT n 0 (Nat.zero_le _)
theorem d_begins9 {n m h : Nat} (hm : m ≤ 4) {M0 : qM} : ∀ (f r left : Nat) (a3 : Int32) (M : qM), r ≤ m → a3.toInt = (r : Int) - 1 → left = h / 4 ^ (m - r) → left < 256 → (∀ c, c ≠ 118 → M c = M0 c) → (∀ j, r ≤ j → j < m → M 118 j = t0H m h j) → qP (f_X12_begins_9 n f (nI left) a3 M) (fun _ m' => (∀ j, j < m → m' 118 j = t0H m h j) ∧ ∀ c, c ≠ 118 → m' c = M0 c) := by
  intro f
  induction f with
  | zero => intro r left a3 M _ _ _ _ _ _; exact P_none
  | succ f ih =>
    intro r left a3 M hr h3 hl hl2 hf hT
    show qP (b_X12_begins_9 n (f_X12_begins_9 n f) (nI left) a3 M) _
    unfold b_X12_begins_9
    have tl : (nI left).toInt = (left : Int) := nI_toInt (by omega)
    refine P_lt h3 l_0 (fun c => P_ret ⟨fun j hj => hT j (by omega) hj, hf⟩) (fun c => P_qg (fun _ _ => ?_))
    obtain ⟨i, rfl⟩ : ∃ i, r = i + 1 := ⟨r - 1, by omega⟩
    have ei : a3.toNatClampNeg = i := by rw [tnc, h3]; omega
    have e3 : a3 = nI i := nI_i (by omega)
    rw [ei]
    have em : nI left - nI left / (4 : Int32) * (4 : Int32) = nI (left % 4) := nI_i (by rw [i_rem tl l_4 (by omega) (by decide)]; omega)
    have ed : (nI left / (4 : Int32)).toInt = ((left / 4 : Nat) : Int) := by rw [i_div tl l_4 (by omega) (by decide)]; omega
    rw [em]
    refine P_m (fun m1 a1 a2 a3' => P_ql ed (fun x2 hx2 => P_ql (i_add h3 l_m1 (by omega) (by omega)) (fun x3 hx3 => ?_)))
    rw [nI_i hx2]
    refine ih i (left / 4) x3 m1 (by omega) (by omega) ?_ (by omega) (fun c hc => by rw [a3' c hc, hf c hc]) (fun j h1 h2 => ?_)
    · rw [hl, show m - i = (m - (i + 1)) + 1 by omega, Nat.pow_succ, Nat.div_div_eq_div_mul]
    · by_cases c5 : j = i
      · rw [c5, a1, hl]
        show _ = nI (h / 4 ^ (m - 1 - i) % 4)
        rw [show m - 1 - i = m - (i + 1) by omega]
      · rw [a2 j c5]; exact hT j (by omega) h2
theorem d_begins {n m h : Nat} (hm : m ≤ 4) (hm1 : 1 ≤ m) (hh : h < 256) (M : qM) (h61 : M 77 61 = nI m) : qP (f_X12_begins n (nI h) M) (fun _ m' => (∀ j, j < m → m' 118 j = t0H m h j) ∧ ∀ c, c ≠ 118 → m' c = M c) := by
  unfold f_X12_begins
  rw [h61]
  refine P_ql (i_sub (nI_toInt (by omega)) l_1 (by omega) (by omega)) (fun x1 hx1 => ?_)
  exact d_begins9 hm n m h x1 M (Nat.le_refl _) hx1 (by rw [Nat.sub_self]; simp) hh (fun _ _ => rfl) (fun j h1 h2 => absurd h1 (by omega))
theorem d_goes8 {n m N : Nat} (hm : m ≤ 4) (hN : N ≤ 10) {P O : Nat → Nat} (hP : ∀ q, q < N → P q < m) (hO : ∀ q, q < N → O q < 2) {lk : Nat → Nat → Int32} {v : Int32} {M0 : qM} (hM : HMo m lk M0) (hMt : HMt m N P O M0) : ∀ (f r q : Nat) (T : Nat → Int32) (M : qM), q + r = N → (∀ c, c ≠ 118 → M c = M0 c) → (∀ j, j < m → M 118 j = T j) → qP (f_X12_goesWith_8 n f (nI N) v (nI q) M) (fun w m' => FzH m 118 (rnH lk m v P O r q T) w m' ∧ ∀ c, c ≠ 118 → m' c = M0 c) := by
  intro f
  induction f with
  | zero => intro r q T M _ _ _; exact P_none
  | succ f ih =>
    intro r q T M hq hf hT
    show qP (b_X12_goesWith_8 n (f_X12_goesWith_8 n f) (nI N) v (nI q) M) _
    unfold b_X12_goesWith_8
    have tq' : (nI q).toInt = (q : Int) := nI_toInt (by omega)
    have tN : (nI N).toInt = (N : Int) := nI_toInt (by omega)
    have e61 : M 77 61 = nI m := by rw [hf 77 (by decide)]; exact hM.1
    have hM' : HMo m lk M := ⟨e61, fun i j hi hj => by rw [hf 117 (by decide)]; exact hM.2 i j hi hj⟩
    have ti1 : (nI m + (2 : Int32) * nI q).toInt = ((m + 2 * q : Nat) : Int) ∨ ¬ q ≤ 10 := by
      by_cases c : q ≤ 10
      · exact Or.inl (by rw [i_add (nI_toInt (by omega)) (i_mul l_2 tq' (by omega) (by omega)) (by omega) (by omega)]; omega)
      · exact Or.inr c
    refine P_le tN tq' (fun c => ?_) (fun c => P_qg (fun _ _ => ?_))
    · rw [show r = 0 by omega]
      exact P_ret ⟨Or.inl ⟨rfl, T, rfl, hT⟩, hf⟩
    · have hqN : q < N := by omega
      obtain ⟨r', rfl⟩ : ∃ r', r = r' + 1 := ⟨r - 1, by omega⟩
      have t1 := ti1.resolve_right (by omega)
      have t2 : (nI m + (2 : Int32) * nI q + (1 : Int32)).toInt = ((m + 2 * q + 1 : Nat) : Int) := by rw [i_add t1 l_1 (by omega) (by omega)]; omega
      have n1 : (nI m + (2 : Int32) * nI q).toNatClampNeg = m + 2 * q := by rw [tnc, t1]; rfl
      have n2 : (nI m + (2 : Int32) * nI q + (1 : Int32)).toNatClampNeg = m + 2 * q + 1 := by rw [tnc, t2]; rfl
      have hp := hP q hqN
      have ho := hO q hqN
      have e84 : M 84 = M0 84 := hf 84 (by decide)
      rw [e61, n1, e84, (hMt q hqN).1]
      refine P_ql (nI_toInt (n := P q) (by omega)) (fun x1 hx1 => ?_)
      rw [nI_i hx1]
      refine P_qc (d_counts hm hp hM' hT) ?_
      rintro r2 m3 ⟨hr2, rfl⟩
      rw [e61, n2, e84, (hMt q hqN).2]
      refine P_qg (fun _ _ => ?_)
      have ep' : (nI (P q)).toNatClampNeg = P q := by rw [tnc, nI_toInt (by omega)]; rfl
      have go : ∀ z : Int32, z = nI (O q) → qP (f_X12_goesWith_62 n (f_X12_goesWith_8 n f) (nI N) v (nI q) (nI (P q)) r2 z m3) (fun w m' => FzH m 118 (rnH lk m v P O (r' + 1) q T) w m' ∧ ∀ c, c ≠ 118 → m' c = M0 c) := by
        intro z hz
        unfold f_X12_goesWith_62
        refine P_if (fun cz => P_qg (fun _ _ => P_qg (fun _ _ => ?_))) (fun cz => P_ret ⟨Or.inr ⟨rfl, ?_⟩, hf⟩)
        · rw [ep']
          refine P_m (fun m4 a1 a2 a3 => P_ql (i_add tq' l_1 (by omega) (by omega)) (fun x3 hx3 => ?_))
          rw [nI_i (a := x3) (k := q + 1) (by rw [hx3]; omega)]
          have e : rnH lk m v P O (r' + 1) q T = rnH lk m v P O r' (q + 1) (upH T (P q)) := by
            show (if (if soH lk T (P q) m < v then (0 : Int32) else 1) = nI (O q) then _ else _) = _
            rw [if_pos (by rw [← hr2, ← hz]; exact cz)]
          rw [e]
          refine ih r' (q + 1) (upH T (P q)) m4 (by omega) (fun c hc => by rw [a3 c hc, hf c hc]) (fun j hj => ?_)
          unfold upH
          by_cases c5 : j = P q
          · rw [if_pos c5, c5, a1, hT _ hp]
          · rw [if_neg c5, a2 j c5, hT j hj]
        · show (if (if soH lk T (P q) m < v then (0 : Int32) else 1) = nI (O q) then _ else none) = none
          rw [if_neg (by rw [← hr2, ← hz]; exact cz)]
      rcases (show O q = 0 ∨ O q = 1 by omega) with eo | eo
      · rw [eo] at go ⊢
        exact P_if (fun z => absurd z (by decide)) (fun _ => go 0 rfl)
      · rw [eo] at go ⊢
        exact P_if (fun _ => go 1 rfl) (fun z => absurd rfl z)
theorem d_goes {n m N h : Nat} (hm : m ≤ 4) (hm1 : 1 ≤ m) (hN : N ≤ 10) (hh : h < 256) {P O : Nat → Nat} (hP : ∀ q, q < N → P q < m) (hO : ∀ q, q < N → O q < 2) {lk : Nat → Nat → Int32} {v : Int32} {M : qM} (hM : HMo m lk M) (hMt : HMt m N P O M) : qP (f_X12_goesWith n (nI h) (nI N) v M) (fun w m' => FzH m 118 (fH lk m v P O N h) w m' ∧ ∀ c, c ≠ 118 → m' c = M c) := by
  unfold f_X12_goesWith
  refine P_qc (d_begins hm hm1 hh M hM.1) ?_
  rintro _ m1 ⟨a1, a2⟩
  refine P_mono (d_goes8 hm hN hP hO (M0 := m1) ⟨by rw [a2 77 (by decide)]; exact hM.1, fun i j hi hj => by rw [a2 117 (by decide)]; exact hM.2 i j hi hj⟩ (fun q hq => by rw [a2 84 (by decide)]; exact hMt q hq) n N 0 (t0H m h) m1 (by omega) (fun _ _ => rfl) a1) (fun w m' h => ⟨h.1, fun c hc => by rw [h.2 c hc, a2 c hc]⟩)
theorem d_max {n : Nat} {a b : Int32} {M : qM} : f_X12_max n a b M = some (qmax a b, M) := by
  unfold f_X12_max qmax
  by_cases c : a < b
  · have c2 : a ≤ b := by rw [Int32.lt_iff_toInt_lt] at c; rw [Int32.le_iff_toInt_le]; omega
    rw [if_pos c]
    first | rw [if_pos c2] | rw [if_neg (show ¬ b < a by rw [Int32.lt_iff_toInt_lt] at c ⊢; omega)]
  · rw [if_neg c]
    by_cases c2 : a ≤ b
    · have e : a = b := Int32.toInt_inj.mp (by rw [Int32.lt_iff_toInt_lt] at c; rw [Int32.le_iff_toInt_le] at c2; omega)
      subst e
      simp
    · first | rw [if_neg c2] | rw [if_pos (show b < a by rw [Int32.le_iff_toInt_le] at c2; rw [Int32.lt_iff_toInt_lt]; omega)]
abbrev HMf (m N : Nat) (P O : Nat → Nat) (lk : Nat → Nat → Int32) (v : Int32) (M : qM) : Prop := ∀ c, c < 4 ^ m → M 119 c = sm1 (fH lk m v P O N c)
theorem d_gr9 {n m N i : Nat} (hm : m ≤ 4) (hm1 : 1 ≤ m) (hN : N ≤ 10) (hi : i < m) {P O : Nat → Nat} (hP : ∀ q, q < N → P q < m) (hO : ∀ q, q < N → O q < 2) {lk : Nat → Nat → Int32} {v : Int32} {M0 : qM} (hM : HMo m lk M0) (hMt : HMt m N P O M0) (hMf : HMf m N P O lk v M0) : ∀ (f h : Nat) (M : qM), h ≤ 4 ^ m → (∀ c, c ≠ 118 → M c = M0 c) → qP (f_X12_greaterBy_9 n f (nI i) (nI (4 ^ m)) (nI N) v (nxtH lk m v (fH lk m v P O N) i h) (cntH (fH lk m v P O N) h) (nI h) M) (fun w m' => w = qmax (nxtH lk m v (fH lk m v P O N) i (4 ^ m)) (cntH (fH lk m v P O N) (4 ^ m) - nxtH lk m v (fH lk m v P O N) i (4 ^ m)) ∧ ∀ c, c ≠ 118 → m' c = M0 c) := by
  intro f
  induction f with
  | zero => intro h M _ _; exact P_none
  | succ f ih =>
    intro h M hh hf
    show qP (b_X12_greaterBy_9 n (f_X12_greaterBy_9 n f) (nI i) (nI (4 ^ m)) (nI N) v (nxtH lk m v (fH lk m v P O N) i h) (cntH (fH lk m v P O N) h) (nI h) M) _
    unfold b_X12_greaterBy_9
    have p4 : 4 ^ m ≤ 256 := Nat.le_trans (Nat.pow_le_pow_right (by decide) hm) (by decide)
    have th : (nI h).toInt = (h : Int) := nI_toInt (by omega)
    have eh : (nI h).toNatClampNeg = h := by rw [tnc, th]; rfl
    refine P_le (nI_toInt (by omega)) th (fun c => ?_) (fun c => P_qg (fun _ _ => ?_))
    · rw [show h = 4 ^ m by omega, d_max, qc_v]
      exact P_ret ⟨rfl, hf⟩
    · have hM' : HMo m lk M := ⟨by rw [hf 77 (by decide)]; exact hM.1, fun i j hi hj => by rw [hf 117 (by decide)]; exact hM.2 i j hi hj⟩
      have hMt' : HMt m N P O M := fun q hq => by rw [hf 84 (by decide)]; exact hMt q hq
      rw [eh, hf 119 (by decide), hMf h (by omega)]
      have eC : cntH (fH lk m v P O N) (h + 1) = cntH (fH lk m v P O N) h + sm1 (fH lk m v P O N h) := rfl
      have eX : nxtH lk m v (fH lk m v P O N) i (h + 1) = nxtH lk m v (fH lk m v P O N) i h + nx1 lk m v i (fH lk m v P O N h) := rfl
      cases hF : fH lk m v P O N h with
      | none =>
        rw [hF] at eC eX
        refine P_if (fun _ => P_ql (i_add th l_1 (by omega) (by omega)) (fun x hx => ?_)) (fun z => absurd rfl z)
        rw [nI_i (a := x) (k := h + 1) (by rw [hx]; omega)]
        have e1 : cntH (fH lk m v P O N) h = cntH (fH lk m v P O N) (h + 1) := by rw [eC]; exact (Int32.add_zero _).symm
        have e2 : nxtH lk m v (fH lk m v P O N) i h = nxtH lk m v (fH lk m v P O N) i (h + 1) := by rw [eX]; exact (Int32.add_zero _).symm
        rw [e1, e2]
        exact ih (h + 1) M (by omega) hf
      | some T =>
        rw [hF] at eC eX
        refine P_if (fun z => absurd (show (1 : Int32) = 0 from z) (by decide)) (fun _ => P_qc (d_goes (h := h) hm hm1 hN (by omega) hP hO hM' hMt') ?_)
        rintro r3 m4 ⟨hz, o4⟩
        rw [hF] at hz
        have hT : ∀ j, j < m → m4 118 j = T j := by
          rcases hz with ⟨_, T', e, h'⟩ | ⟨_, e⟩
          · injection e with e
            rw [e]; exact h'
          · cases e
        refine P_ql rfl (fun x5 hx5 => ?_)
        have e5 : x5 = cntH (fH lk m v P O N) (h + 1) := by rw [Int32.toInt_inj.mp hx5, eC]; rfl
        refine P_qc (d_counts (T := T) hm hi (M := m4) ⟨by rw [o4 77 (by decide)]; exact hM'.1, fun i j hi hj => by rw [o4 117 (by decide)]; exact hM'.2 i j hi hj⟩ hT) ?_
        rintro r6 m7 ⟨hr6, rfl⟩
        have go : ∀ z : Int32, z = r6 → qP (f_X12_greaterBy_61 n (f_X12_greaterBy_9 n f) (nI i) (nI (4 ^ m)) (nI N) v x5 (nI h) (nxtH lk m v (fH lk m v P O N) i h) z m7) (fun w m' => w = qmax (nxtH lk m v (fH lk m v P O N) i (4 ^ m)) (cntH (fH lk m v P O N) (4 ^ m) - nxtH lk m v (fH lk m v P O N) i (4 ^ m)) ∧ ∀ c, c ≠ 118 → m' c = M0 c) := by
          intro z hz
          unfold f_X12_greaterBy_61
          refine P_ql rfl (fun x1 hx1 => P_ql (i_add th l_1 (by omega) (by omega)) (fun x hx => ?_))
          have e1 : x1 = nxtH lk m v (fH lk m v P O N) i (h + 1) := by rw [Int32.toInt_inj.mp hx1, eX, hz, hr6]; rfl
          rw [nI_i (a := x) (k := h + 1) (by rw [hx]; omega), e1, e5]
          exact ih (h + 1) m7 (by omega) (fun c hc => by rw [o4 c hc, hf c hc])
        refine P_if (fun z => go 0 z.symm) (fun z => go 1 ?_)
        rw [hr6] at z ⊢
        by_cases c6 : soH lk T i m < v
        · rw [if_pos c6] at z; exact absurd rfl z
        · rw [if_neg c6]
theorem d_gr {n m N i : Nat} (hm : m ≤ 4) (hm1 : 1 ≤ m) (hN : N ≤ 10) (hi : i < m) {P O : Nat → Nat} (hP : ∀ q, q < N → P q < m) (hO : ∀ q, q < N → O q < 2) {lk : Nat → Nat → Int32} {v : Int32} {M : qM} (hM : HMo m lk M) (hMt : HMt m N P O M) (hMf : HMf m N P O lk v M) : qP (f_X12_greaterBy n (nI i) (nI (4 ^ m)) (nI N) v M) (fun w m' => w = qmax (nxtH lk m v (fH lk m v P O N) i (4 ^ m)) (cntH (fH lk m v P O N) (4 ^ m) - nxtH lk m v (fH lk m v P O N) i (4 ^ m)) ∧ ∀ c, c ≠ 118 → m' c = M c) := by
  unfold f_X12_greaterBy
  exact d_gr9 hm hm1 hN hi hP hO hM hMt hMf n 0 M (Nat.zero_le _) (fun _ _ => rfl)
theorem d_tellH {n m N : Nat} (hm : m ≤ 4) (hm1 : 1 ≤ m) (hN : N ≤ 10) {P O : Nat → Nat} (hP : ∀ q, q < N → P q < m) (hO : ∀ q, q < N → O q < 2) {lk : Nat → Nat → Int32} {v : Int32} {M0 : qM} (hM : HMo m lk M0) (hMt : HMt m N P O M0) (hMf : HMf m N P O lk v M0) : ∀ (f r i b : Nat) (M : qM), (i + r = m ∨ (m < i ∧ r = 0)) → b < m → i ≤ 5 → (∀ c, c ≠ 118 → M c = M0 c) → qP (f_X12_histories_184 n f (nI m) (nI N) v (nI (4 ^ m)) (nI b) (nI i) M) (fun w _ => w = nI (telH (fun q => qmax (nxtH lk m v (fH lk m v P O N) q (4 ^ m)) (cntH (fH lk m v P O N) (4 ^ m) - nxtH lk m v (fH lk m v P O N) q (4 ^ m))) r i b)) := by
  intro f
  induction f with
  | zero => intro r i b M _ _ _ _; exact P_none
  | succ f ih =>
    intro r i b M hi hb h5 hf
    show qP (b_X12_histories_184 n (f_X12_histories_184 n f) (nI m) (nI N) v (nI (4 ^ m)) (nI b) (nI i) M) _
    unfold b_X12_histories_184
    have ti : (nI i).toInt = (i : Int) := nI_toInt (by omega)
    refine P_le (nI_toInt (by omega)) ti (fun c => ?_) (fun c => ?_)
    · rw [show r = 0 by omega]
      exact P_ret rfl
    · obtain ⟨r', rfl⟩ : ∃ r', r = r' + 1 := ⟨r - 1, by omega⟩
      have st : ∀ M : qM, (∀ c, c ≠ 118 → M c = M0 c) → HMo m lk M ∧ HMt m N P O M ∧ HMf m N P O lk v M := fun M hf => ⟨⟨by rw [hf 77 (by decide)]; exact hM.1, fun i j hi hj => by rw [hf 117 (by decide)]; exact hM.2 i j hi hj⟩, fun q hq => by rw [hf 84 (by decide)]; exact hMt q hq, fun c hc => by rw [hf 119 (by decide)]; exact hMf c hc⟩
      obtain ⟨s1, s2, s3⟩ := st M hf
      refine P_qc (d_gr (i := i) hm hm1 hN (by omega) hP hO s1 s2 s3) ?_
      rintro r1 m2 ⟨rfl, o2⟩
      have hf2 : ∀ c, c ≠ 118 → m2 c = M0 c := fun c hc => by rw [o2 c hc, hf c hc]
      obtain ⟨u1, u2, u3⟩ := st m2 hf2
      refine P_qc (d_gr (i := b) hm hm1 hN hb hP hO u1 u2 u3) ?_
      rintro r3 m4 ⟨rfl, o4⟩
      have hf4 : ∀ c, c ≠ 118 → m4 c = M0 c := fun c hc => by rw [o4 c hc, hf2 c hc]
      show qP _ (fun w _ => w = nI (if qmax (nxtH lk m v (fH lk m v P O N) b (4 ^ m)) (cntH (fH lk m v P O N) (4 ^ m) - nxtH lk m v (fH lk m v P O N) b (4 ^ m)) ≤ qmax (nxtH lk m v (fH lk m v P O N) i (4 ^ m)) (cntH (fH lk m v P O N) (4 ^ m) - nxtH lk m v (fH lk m v P O N) i (4 ^ m)) then telH (fun q => qmax (nxtH lk m v (fH lk m v P O N) q (4 ^ m)) (cntH (fH lk m v P O N) (4 ^ m) - nxtH lk m v (fH lk m v P O N) q (4 ^ m))) r' (i + 1) b else telH (fun q => qmax (nxtH lk m v (fH lk m v P O N) q (4 ^ m)) (cntH (fH lk m v P O N) (4 ^ m) - nxtH lk m v (fH lk m v P O N) q (4 ^ m))) r' (i + 1) i))
      refine P_if (fun z => P_ql (i_add ti l_1 (by omega) (by omega)) (fun x hx => ?_)) (fun z => P_ql (i_add ti l_1 (by omega) (by omega)) (fun x hx => ?_))
      · rw [nI_i (a := x) (k := i + 1) (by rw [hx]; omega), if_pos z]
        exact ih r' (i + 1) b m4 (by omega) hb (by omega) hf4
      · rw [nI_i (a := x) (k := i + 1) (by rw [hx]; omega), if_neg z]
        exact ih r' (i + 1) i m4 (by omega) (by omega) (by omega) hf4
/-! histories: what is told -/
def kH (R : Nat → Int32) (i : Nat) : Nat := (R i).toInt.toNat
def pH (R : Nat → Int32) (m q : Nat) : Nat := (R (m + 2 * q)).toInt.toNat
def oH (R : Nat → Int32) (m q : Nat) : Nat := (R (m + 2 * q + 1)).toInt.toNat
def gkH (told : Int32) (R : Nat → Int32) (i : Nat) : Prop := kH R i < 12 ∧ R i = nI (kH R i) ∧ bitI told (kH R i)
def gtH (R : Nat → Int32) (m q : Nat) : Prop := (pH R m q < m ∧ R (m + 2 * q) = nI (pH R m q)) ∧ (oH R m q < 2 ∧ R (m + 2 * q + 1) = nI (oH R m q))
def goodH (told : Int32) (R : Nat → Int32) (m N : Nat) : Prop := (∀ i, i < m → gkH told R i) ∧ (∀ i j, i < m → j < i → kH R j ≠ kH R i) ∧ ∀ q, q < N → gtH R m q
theorem byte_e {R S : Int32} (e : R = S &&& (255 : Int32)) (h : -128 ≤ S.toInt ∧ S.toInt ≤ 127) : (0 ≤ S.toInt → R = S) ∧ (R.toInt < 128 → S = R) := by
  by_cases c : 0 ≤ S.toInt
  · obtain ⟨k, hk, rfl⟩ := nI_of (x := S) (by rw [Int32.lt_iff_toInt_lt, l_0]; omega)
    rw [nI_toInt hk] at h
    have e2 : R = nI k := by rw [e]; exact (by decide +kernel : ∀ k, k < 128 → nI k &&& (255 : Int32) = nI k) k (by omega)
    exact ⟨fun _ => e2, fun _ => e2.symm⟩
  · refine ⟨fun z => absurd z c, fun z => ?_⟩
    exfalso
    have e3 : S = -(nI (-S.toInt).toNat) := Int32.toInt_inj.mp (by rw [i_neg (nI_toInt (by omega)) (by omega) (by omega)]; omega)
    have e4 := (by decide +kernel : ∀ k, k < 129 → 0 < k → 128 ≤ ((-(nI k)) &&& (255 : Int32)).toInt) (-S.toInt).toNat (by omega) (by omega)
    rw [← e3, ← e] at e4
    omega
theorem small_t {k : Nat} {R : Int32} (h : R = nI k) (hk : k < 128) : R.toInt = (k : Int) := by rw [h, nI_toInt (by omega)]
theorem good_cg {told : Int32} {R S : Nat → Int32} {m N : Nat} (h : goodH told R m N) (e : ∀ i, i < m + 2 * N → R i = S i) : goodH told S m N ∧ (∀ i, i < m → kH S i = kH R i) ∧ ∀ q, q < N → pH S m q = pH R m q ∧ oH S m q = oH R m q := by
  have e1 : ∀ i, i < m → kH S i = kH R i := fun i hi => by unfold kH; rw [e i (by omega)]
  have e2 : ∀ q, q < N → pH S m q = pH R m q ∧ oH S m q = oH R m q := fun q hq => by unfold pH oH; rw [e (m + 2 * q) (by omega), e (m + 2 * q + 1) (by omega)]; exact ⟨rfl, rfl⟩
  obtain ⟨h1, h2, h3⟩ := h
  refine ⟨⟨fun i hi => ?_, fun i j hi hj => ?_, fun q hq => ?_⟩, e1, e2⟩
  · have := h1 i hi
    unfold gkH at this ⊢
    rw [e1 i hi, ← e i (by omega)]; exact this
  · rw [e1 i hi, e1 j (by omega)]; exact h2 i j hi hj
  · have := h3 q hq
    unfold gtH at this ⊢
    rw [(e2 q hq).1, (e2 q hq).2, ← e (m + 2 * q) (by omega), ← e (m + 2 * q + 1) (by omega)]; exact this
theorem good_idx {told : Int32} {R : Nat → Int32} {m N : Nat} (hm : m ≤ 4) (h : goodH told R m N) : ∀ i, i < m + 2 * N → ∃ k, k < 128 ∧ R i = nI k := by
  intro i hi
  by_cases c : i < m
  · exact ⟨kH R i, by have := (h.1 i c).1; omega, (h.1 i c).2.1⟩
  · obtain ⟨q, hq⟩ : ∃ q, i = m + 2 * q ∨ i = m + 2 * q + 1 := ⟨(i - m) / 2, by omega⟩
    rcases hq with rfl | rfl
    · have := h.2.2 q (by omega)
      exact ⟨pH R m q, by have := this.1.1; omega, this.1.2⟩
    · have := h.2.2 q (by omega)
      exact ⟨oH R m q, by have := this.2.1; omega, this.2.2⟩
theorem good_RS {told : Int32} {R S : Nat → Int32} {m N : Nat} (hm : m ≤ 4) (hS : ∀ i, -128 ≤ (S i).toInt ∧ (S i).toInt ≤ 127) (e : ∀ i, i < m + 2 * N → R i = S i &&& (255 : Int32)) : (goodH told R m N → ∀ i, i < m + 2 * N → R i = S i) ∧ (goodH told S m N → ∀ i, i < m + 2 * N → S i = R i) := by
  constructor
  · intro h i hi
    obtain ⟨k, hk, q⟩ := good_idx hm h i hi
    exact ((byte_e (e i hi) (hS i)).2 (by rw [small_t q hk]; omega)).symm
  · intro h i hi
    obtain ⟨k, hk, q⟩ := good_idx hm h i hi
    exact ((byte_e (e i hi) (hS i)).1 (by rw [small_t q hk]; omega)).symm
/-! the class reads -/
abbrev FrH (M0 M : qM) : Prop := ∀ c, c ≠ 70 → c ≠ 71 → c ≠ 73 → c ≠ 74 → M c = M0 c
abbrev RdH (told : Int32) (R : Nat → Int32) (m N : Nat) (M0 : qM) (w : Int32) (M : qM) : Prop := ((w = 1 ∧ goodH told R m N ∧ HJ m N (kH R) (pH R m) (oH R m) M) ∨ (w = 0 ∧ ¬ goodH told R m N)) ∧ FrH M0 M
theorem c_rd105 {n m N : Nat} (hm : m ≤ 4) (hN : N ≤ 10) {told : Int32} {R : Nat → Int32} {M0 : qM} (h2 : M0 2 = R) (hs : ((m + 2 * N : Nat) : Int) ≤ (M0 1 1).toInt) (hgk : ∀ i, i < m → gkH told R i) (hd : ∀ i j, i < m → j < i → kH R j ≠ kH R i) : ∀ (f q : Nat) (M : qM), q ≤ N → FrH M0 M → (M 70 8 = nI m ∧ M 70 9 = nI N) → (∀ i, i < m → M 71 i = R i) → (∀ s, s < q → gtH R m s ∧ M 73 s = R (m + 2 * s) ∧ M 74 s = R (m + 2 * s + 1)) → qP (f_X8_read_105 n f (nI q) M) (RdH told R m N M0) := by
  intro f
  induction f with
  | zero => intro q M _ _ _ _ _; exact P_none
  | succ f ih =>
    intro q M hq hf h70 h71 hlo
    show qP (b_X8_read_105 n (f_X8_read_105 n f) (nI q) M) _
    unfold b_X8_read_105
    have tq' : (nI q).toInt = (q : Int) := nI_toInt (by omega)
    have eq' : (nI q).toNatClampNeg = q := by rw [tnc, tq']; rfl
    have tm' : (nI m).toInt = (m : Int) := nI_toInt (by omega)
    have tN : (M 70 9).toInt = (N : Int) := by rw [h70.2, nI_toInt (by omega)]
    refine P_le tN tq' (fun c => P_ret ⟨Or.inl ⟨rfl, ⟨hgk, hd, fun s hs => (hlo s (by omega)).1⟩, h70, fun i hi => ?_, fun s hs => ?_⟩, hf⟩) (fun c => ?_)
    · rw [h71 i hi]; exact (hgk i hi).2.1
    · have := hlo s (by omega)
      rw [this.2.1, this.2.2]
      exact ⟨this.1.1.2, this.1.2.2⟩
    · have hqN : q < N := by omega
      have t1 : (nI m + (2 : Int32) * nI q).toInt = ((m + 2 * q : Nat) : Int) := by rw [i_add tm' (i_mul l_2 tq' (by omega) (by omega)) (by omega) (by omega)]; omega
      have t2 : (nI m + (2 : Int32) * nI q + (1 : Int32)).toInt = ((m + 2 * q + 1 : Nat) : Int) := by rw [i_add t1 l_1 (by omega) (by omega)]; omega
      have e1 : M 1 = M0 1 := hf 1 (by decide) (by decide) (by decide) (by decide)
      have e2 : M 2 = M0 2 := hf 2 (by decide) (by decide) (by decide) (by decide)
      rw [h70.1, c_at9 t1 M (by rw [e1]; omega) (by omega), qc_v]
      refine P_qg (fun _ _ => ?_)
      rw [eq']
      refine P_m (fun m3 a1 a2 a3 => ?_)
      rw [a3 70 (by decide), h70.1, c_at9 t2 m3 (by rw [a3 1 (by decide), e1]; omega) (by omega), qc_v]
      refine P_qg (fun _ _ => P_m (fun m6 b1 b2 b3 => P_qg (fun _ _ => ?_)))
      have o6 : ∀ c, c ≠ 73 → c ≠ 74 → m6 c = M c := fun c q1 q2 => by rw [b3 c q2, a3 c q1]
      have x73 : m6 73 q = R (m + 2 * q) := by rw [b3 73 (by decide), a1, e2, h2]
      have x74 : m6 74 q = R (m + 2 * q + 1) := by rw [b1, a3 2 (by decide), e2, h2]
      have f6 : FrH M0 m6 := fun c q0 q1 q2 q3 => by rw [o6 c q2 q3]; exact hf c q0 q1 q2 q3
      have bad : ¬ gtH R m q → RdH told R m N M0 0 m6 := fun z => ⟨Or.inr ⟨rfl, fun g => z (g.2.2 q hqN)⟩, f6⟩
      rw [x73, x74, o6 70 (by decide) (by decide), h70.1]
      refine P_lt rfl l_0 (fun z => P_ret (bad (fun g => ?_))) (fun z1 => P_qg (fun _ _ => ?_))
      · have := g.1.2
        rw [this, nI_toInt (by have := g.1.1; omega)] at z; omega
      refine P_le tm' rfl (fun z => P_ret (bad (fun g => ?_))) (fun z2 => P_qg (fun _ _ => ?_))
      · have := g.1.2
        have g1 := g.1.1
        rw [this, nI_toInt (by omega)] at z; omega
      refine P_lt rfl l_0 (fun z => P_ret (bad (fun g => ?_))) (fun z3 => P_qg (fun _ _ => ?_))
      · have := g.2.2
        rw [this, nI_toInt (by have := g.2.1; omega)] at z; omega
      refine P_le rfl l_1 (fun z4 => P_ql (i_add tq' l_1 (by omega) (by omega)) (fun x hx => ?_)) (fun z => P_ret (bad (fun g => ?_)))
      · rw [nI_i (a := x) (k := q + 1) (by rw [hx]; omega)]
        have hg : gtH R m q := ⟨⟨by unfold pH; omega, nI_i (by unfold pH; omega)⟩, ⟨by unfold oH; omega, nI_i (by unfold oH; omega)⟩⟩
        refine ih (q + 1) m6 (by omega) f6 (by rw [o6 70 (by decide) (by decide)]; exact h70) (fun i hi => by rw [o6 71 (by decide) (by decide)]; exact h71 i hi) (fun s hs => ?_)
        by_cases c5 : s = q
        · rw [c5]; exact ⟨hg, x73, x74⟩
        · have := hlo s (by omega)
          exact ⟨this.1, by rw [b3 73 (by decide), a2 s c5]; exact this.2.1, by rw [b2 s c5, a3 74 (by decide)]; exact this.2.2⟩
      · have := g.2.2
        have g1 := g.2.1
        rw [this, nI_toInt (by omega)] at z; omega
theorem c_rd25 {n m N : Nat} (hm : m ≤ 4) (hN : N ≤ 10) {told : Int32} {R : Nat → Int32} {M0 : qM} (h2 : M0 2 = R) (h33 : M0 3 3 = told) (hs : ((m + 2 * N : Nat) : Int) ≤ (M0 1 1).toInt) : ∀ (f i s : Nat) (M : qM), i ≤ m → s < 4096 → FrH M0 M → (M 70 8 = nI m ∧ M 70 9 = nI N) → (∀ j, j < i → gkH told R j ∧ M 71 j = R j) → (∀ a b, a < i → b < a → kH R b ≠ kH R a) → (∀ q, q < 12 → (bitI (nI s) q ↔ ∃ j, j < i ∧ kH R j = q)) → qP (f_X8_read_25 n f (nI s) (nI i) M) (RdH told R m N M0) := by
  intro f
  induction f with
  | zero => intro i s M _ _ _ _ _ _ _; exact P_none
  | succ f ih =>
    intro i s M hi hs4 hf h70 hlo hd hsn
    show qP (b_X8_read_25 n (f_X8_read_25 n f) (nI s) (nI i) M) _
    unfold b_X8_read_25
    have ti : (nI i).toInt = (i : Int) := nI_toInt (by omega)
    have ei : (nI i).toNatClampNeg = i := by rw [tnc, ti]; rfl
    have tm' : (M 70 8).toInt = (m : Int) := by rw [h70.1, nI_toInt (by omega)]
    refine P_le tm' ti (fun c => ?_) (fun c => ?_)
    · have e : i = m := by omega
      subst e
      exact c_rd105 hm hN h2 hs (fun j hj => (hlo j hj).1) hd n 0 M (Nat.zero_le _) hf h70 (fun j hj => (hlo j hj).2) (fun q hq => absurd hq (by omega))
    · have him : i < m := by omega
      have e1 : M 1 = M0 1 := hf 1 (by decide) (by decide) (by decide) (by decide)
      have e2 : M 2 = M0 2 := hf 2 (by decide) (by decide) (by decide) (by decide)
      rw [c_at9 ti M (by rw [e1]; omega) (by omega), qc_v]
      refine P_qg (fun _ _ => ?_)
      rw [ei]
      refine P_m (fun m3 a1 a2 a3 => P_qg (fun _ _ => ?_))
      have f3 : FrH M0 m3 := fun c q0 q1 q2 q3 => by rw [a3 c q1]; exact hf c q0 q1 q2 q3
      have x71 : m3 71 i = R i := by rw [a1, e2, h2]
      have x33 : m3 3 3 = told := by rw [f3 3 (by decide) (by decide) (by decide) (by decide)]; exact h33
      have bad : ¬ goodH told R m N → RdH told R m N M0 0 m3 := fun z => ⟨Or.inr ⟨rfl, z⟩, f3⟩
      rw [x71]
      by_cases c5 : 0 ≤ (R i).toInt ∧ (R i).toInt < 12
      · have hk : kH R i < 12 := by unfold kH; omega
        have eR : R i = nI (kH R i) := nI_i (by unfold kH; omega)
        have kk := c_kn (n := n) hk m3
        rw [x33] at kk
        rw [(congrArg (fun z => f_X2_knows n z m3) eR).trans kk, qc_v]
        by_cases ct : bitI told (kH R i)
        · rw [if_pos ct]
          refine P_if (fun z => absurd z (by decide)) (fun _ => P_qg (fun _ _ => ?_))
          rw [x71, eR]
          refine P_if (fun cb => P_ret (bad (fun g => ?_))) (fun cb => P_qg (fun _ _ => ?_))
          · obtain ⟨j, hj, ej⟩ := (hsn (kH R i) hk).mp cb
            exact g.2.1 i j him hj ej
          · obtain ⟨_, c', hc', ec⟩ := bit_or (i := 0) hs4 (by decide) hk
            have bo : ∀ q, q < 12 → (bitI (nI c') q ↔ (q = kH R i ∨ bitI (nI s) q)) := fun q hq => by rw [← ec]; exact (bit_or hs4 hq hk).1
            rw [ec]
            refine P_ql rfl (fun x6 hx6 => P_ql (i_add ti l_1 (by omega) (by omega)) (fun x7 hx7 => ?_))
            rw [Int32.toInt_inj.mp hx6, nI_i (a := x7) (k := i + 1) (by rw [hx7]; omega)]
            refine ih (i + 1) c' m3 (by omega) hc' f3 (by rw [a3 70 (by decide)]; exact h70) (fun j hj => ?_) (fun a b ha hb => ?_) (fun q hq => ?_)
            · by_cases e : j = i
              · rw [e]; exact ⟨⟨hk, eR, ct⟩, x71⟩
              · rw [a2 j e]; exact hlo j (by omega)
            · by_cases e : a = i
              · rw [e]
                intro z
                exact cb ((hsn (kH R i) hk).mpr ⟨b, by omega, z⟩)
              · exact hd a b (by omega) hb
            · rw [bo q hq, hsn q hq]
              constructor
              · rintro (z | ⟨j, hj, ej⟩)
                · exact ⟨i, by omega, z.symm⟩
                · exact ⟨j, by omega, ej⟩
              · rintro ⟨j, hj, ej⟩
                by_cases e : j = i
                · rw [e] at ej; exact Or.inl ej.symm
                · exact Or.inr ⟨j, by omega, ej⟩
        · rw [if_neg ct]
          exact P_if (fun _ => P_ret (bad (fun g => ct (g.1 i him).2.2))) (fun z => absurd rfl z)
      · rw [(kn_out m3 c5).1, qc_v]
        refine P_if (fun _ => P_ret (bad (fun g => c5 ?_))) (fun z => absurd rfl z)
        have g1 := (g.1 i him).1
        rw [(g.1 i him).2.1, nI_toInt (by omega)]; omega
theorem c_rd {n m N : Nat} (hm : m ≤ 4) (hN : N ≤ 10) (M : qM) (hs : ((m + 2 * N : Nat) : Int) ≤ (M 1 1).toInt) : qP (f_X8_read n (nI m) (nI N) M) (RdH (M 3 3) (M 2) m N M) := by
  unfold f_X8_read
  have q4 : qmin (nI m) (4 : Int32) = nI m := by
    have := i_min (a := nI m) (b := 4) (nI_toInt (by omega)) l_4
    exact nI_i (by omega)
  have q10 : qmin (nI N) (10 : Int32) = nI N := by
    have := i_min (a := nI N) (b := 10) (nI_toInt (by omega)) l_10
    exact nI_i (by omega)
  rw [q4, q10]
  refine P_m (fun m1 a1 a2 a3 => P_m (fun m2 b1 b2 b3 => ?_))
  have o2 : ∀ c, c ≠ 70 → m2 c = M c := fun c hc => by rw [b3 c hc, a3 c hc]
  refine P_mono (c_rd25 hm hN (M0 := m2) (told := M 3 3) (R := M 2) (o2 2 (by decide)) (by rw [o2 3 (by decide)]) (by rw [o2 1 (by decide)]; exact hs) n 0 0 m2 (Nat.zero_le _) (by decide) (fun _ _ _ _ _ => rfl) ⟨by rw [b2 8 (by decide)]; exact a1, b1⟩ (fun j hj => absurd hj (by omega)) (fun a b ha _ => absurd ha (by omega)) (fun q hq => ⟨fun z => absurd z (bit_0 hq), fun ⟨j, hj, _⟩ => absurd hj (by omega)⟩)) (fun w m' h => ⟨h.1, fun c q0 q1 q2 q3 => by rw [h.2 c q0 q1 q2 q3, o2 c q0]⟩)
/-! the model reads -/
abbrev FmH (M0 M : qM) : Prop := (∀ c, c ≠ 77 → c ≠ 96 → c ≠ 97 → c ≠ 116 → c ≠ 117 → M c = M0 c) ∧ ∀ s, s ≠ 61 → M 77 s = M0 77 s
abbrev RmH (told : Int32) (S : Nat → Int32) (m N : Nat) (lk : Nat → Nat → Int32) (M0 : qM) (w : Int32) (M : qM) : Prop := ((w = 1 ∧ goodH told S m N ∧ HMo m lk M) ∨ (w = 0 ∧ ¬ goodH told S m N)) ∧ FmH M0 M
abbrev lkH (C : List Int) (K : List Kl) (n : Nat) (M0 : qM) (S : Nat → Int32) : Nat → Nat → Int32 := fun a b => lkv C K n (M0 81) (M0 82) (M0 78 313) (kH S a) (kH S b)
theorem FmH_tr {M0 M1 M2 : qM} (h : FmH M0 M1) (k : FmH M1 M2) : FmH M0 M2 := ⟨fun c a b d e f => by rw [k.1 c a b d e f, h.1 c a b d e f], fun s hs => by rw [k.2 s hs, h.2 s hs]⟩
theorem d_tp150 {n : Nat} (hn : 200000 ≤ n) {C : List Int} {K : List Kl} (hK : Kg (cdl C) C.length K) (h240 : C.length ≤ 240) {m i : Nat} (hm : m ≤ 4) (him : i < m) {S : Nat → Int32} (hks : ∀ j, j < m → kH S j < 12 ∧ S j = nI (kH S j)) {M0 : qM} {K135 : Int32 → Int32 → qM → qR} {Q : Int32 → qM → Prop} : ∀ (f j b : Nat) (M : qM), j ≤ m → b < 4096 → G M → LM M C K → FmH M0 M → (∀ a, a < m → M 116 a = S a) → M 117 i = nI b → (∀ q, q < j → (bitI (nI b) q ↔ lkH C K n M0 S i q ≠ 0)) → (∀ q, j ≤ q → q < 12 → ¬ bitI (nI b) q) → (∀ M' : qM, G M' → LM M' C K → FmH M0 M' → (∀ a, a < m → M' 116 a = S a) → (∀ q, q ≠ i → M' 117 q = M 117 q) → (∀ q, q < m → (bitI (M' 117 i) q ↔ lkH C K n M0 S i q ≠ 0)) → M' 77 61 = M 77 61 → qP (K135 (nI m) (nI (i + 1)) M') Q) → qP (f_X12_takesPast_150 n K135 f (nI m) (nI i) (nI j) M) Q := by
  intro f
  induction f with
  | zero => intro j b M _ _ _ _ _ _ _ _ _ _; exact P_none
  | succ f ih =>
    intro j b M hj hb hG hL hf h116 h117 hlo hhi hK2
    show qP (b_X12_takesPast_150 n K135 (f_X12_takesPast_150 n K135 f) (nI m) (nI i) (nI j) M) _
    unfold b_X12_takesPast_150
    have tj' : (nI j).toInt = (j : Int) := nI_toInt (by omega)
    have ej : (nI j).toNatClampNeg = j := by rw [tnc, tj']; rfl
    have ti : (nI i).toInt = (i : Int) := nI_toInt (by omega)
    have ei : (nI i).toNatClampNeg = i := by rw [tnc, ti]; rfl
    refine P_le (nI_toInt (by omega)) tj' (fun c => P_ql (i_add ti l_1 (by omega) (by omega)) (fun x hx => ?_)) (fun c => P_qg (fun _ _ => P_qg (fun _ _ => ?_)))
    · rw [nI_i (a := x) (k := i + 1) (by rw [hx]; omega)]
      exact hK2 M hG hL hf h116 (fun _ _ => rfl) (fun q hq => by rw [h117]; exact hlo q (by omega)) rfl
    · have hjm : j < m := by omega
      obtain ⟨ki, si⟩ := hks i him
      obtain ⟨kj, sj⟩ := hks j hjm
      rw [ei, ej, h116 i him, h116 j hjm, si, sj]
      refine P_qc (P_and (d_isLike hn hK h240 (k := kH S i) (i := kH S j) (by omega) kj M hG hL) (P_T (t_X12_isLike hn (nI (kH S i)) (nI (kH S j)) M hG (by rw [nI_toInt (by omega)]; omega) (by rw [nI_toInt (by omega)]; omega)))) ?_
      rintro r2 m3 ⟨hr, _, g3, s3⟩
      have o3 : ∀ c, c ≠ 96 → c ≠ 97 → m3 c = M c := fun c q1 q2 => funext (fun s_ => s3 c s_ (out3 q1 q2))
      have l3 : LM m3 C K := LM_cg hL (fun c q1 q2 => o3 c (by omega) (by omega)) (by rw [o3 77 (by decide) (by decide)])
      have f3 : FmH M0 m3 := FmH_tr hf ⟨fun c a b d e f => o3 c b d, fun s _ => by rw [o3 77 (by decide) (by decide)]⟩
      rw [hf.1 81 (by decide) (by decide) (by decide) (by decide) (by decide), hf.1 82 (by decide) (by decide) (by decide) (by decide) (by decide), hf.1 78 (by decide) (by decide) (by decide) (by decide) (by decide)] at hr
      have hr' : r2 = lkH C K n M0 S i j := hr
      refine P_if (fun z => P_ql (i_add tj' l_1 (by omega) (by omega)) (fun x hx => ?_)) (fun z => P_qg (fun _ _ => P_qg (fun _ _ => ?_)))
      · rw [nI_i (a := x) (k := j + 1) (by rw [hx]; omega)]
        refine ih (j + 1) b m3 (by omega) hb g3 l3 f3 (fun a ha => by rw [o3 116 (by decide) (by decide)]; exact h116 a ha) (by rw [o3 117 (by decide) (by decide)]; exact h117) (fun q hq => ?_) (fun q h1 h2 => hhi q (by omega) h2) (fun M' a1 a2 a3 a4 a5 a6 a7 => hK2 M' a1 a2 a3 a4 (fun q hq => by rw [a5 q hq, o3 117 (by decide) (by decide)]) a6 (by rw [a7, o3 77 (by decide) (by decide)]))
        by_cases e : q = j
        · rw [e]
          exact ⟨fun w => absurd w (hhi j (Nat.le_refl _) (by omega)), fun w => absurd (by rw [← hr']; exact z) w⟩
        · exact hlo q (by omega)
      · rw [o3 117 (by decide) (by decide), h117]
        obtain ⟨_, c', hc', ec⟩ := bit_or (i := 0) hb (by decide) (show j < 12 by omega)
        have bo : ∀ q, q < 12 → (bitI (nI c') q ↔ (q = j ∨ bitI (nI b) q)) := fun q hq => by rw [← ec]; exact (bit_or hb hq (by omega)).1
        rw [ec]
        refine P_g g3 (rn_117 _ _) (nw_117 _) ?_
        intro m5 b1 b2 b3 g5
        refine P_ql (i_add tj' l_1 (by omega) (by omega)) (fun x hx => ?_)
        rw [nI_i (a := x) (k := j + 1) (by rw [hx]; omega)]
        refine ih (j + 1) c' m5 (by omega) hc' g5 (LM_cg l3 (fun c q1 q2 => b3 c (by omega)) (by rw [b3 77 (by decide)])) (FmH_tr f3 ⟨fun c a b d e f => b3 c f, fun s _ => by rw [b3 77 (by decide)]⟩) (fun a ha => by rw [b3 116 (by decide), o3 116 (by decide) (by decide)]; exact h116 a ha) b1 (fun q hq => ?_) (fun q h1 h2 => ?_) (fun M' a1 a2 a3 a4 a5 a6 a7 => hK2 M' a1 a2 a3 a4 (fun q hq => by rw [a5 q hq, b2 q hq, o3 117 (by decide) (by decide)]) a6 (by rw [a7, b3 77 (by decide), o3 77 (by decide) (by decide)]))
        · rw [bo q (by omega)]
          by_cases e : q = j
          · rw [e]
            exact ⟨fun _ => by rw [← hr']; exact z, fun _ => Or.inl rfl⟩
          · rw [← hlo q (by omega)]
            exact ⟨fun w => w.resolve_left e, fun w => Or.inr w⟩
        · rw [bo q h2]
          rintro (w | w)
          · omega
          · exact hhi q (by omega) h2 w
theorem d_tp135 {n : Nat} (hn : 200000 ≤ n) {C : List Int} {K : List Kl} (hK : Kg (cdl C) C.length K) (h240 : C.length ≤ 240) {m N : Nat} (hm : m ≤ 4) {told : Int32} {S : Nat → Int32} (hg : goodH told S m N) {M0 : qM} : ∀ (f i : Nat) (M : qM), i ≤ m → G M → LM M C K → FmH M0 M → M 77 61 = nI m → (∀ a, a < m → M 116 a = S a) → (∀ a b, a < i → b < m → (bitI (M 117 a) b ↔ lkH C K n M0 S a b ≠ 0)) → qP (f_X12_takesPast_135 n f (nI m) (nI i) M) (RmH told S m N (lkH C K n M0 S) M0) := by
  intro f
  induction f with
  | zero => intro i M _ _ _ _ _ _ _; exact P_none
  | succ f ih =>
    intro i M hi hG hL hf h61 h116 hlo
    show qP (b_X12_takesPast_135 n (f_X12_takesPast_135 n f) (nI m) (nI i) M) _
    unfold b_X12_takesPast_135
    have ti : (nI i).toInt = (i : Int) := nI_toInt (by omega)
    have ei : (nI i).toNatClampNeg = i := by rw [tnc, ti]; rfl
    refine P_le (nI_toInt (by omega)) ti (fun c => P_ret ⟨Or.inl ⟨rfl, hg, h61, fun a b ha hb => hlo a b (by omega) hb⟩, hf⟩) (fun c => P_qg (fun _ _ => ?_))
    have him : i < m := by omega
    rw [ei]
    refine P_g hG (rn_117 _ _) (nw_117 _) ?_
    intro m1 a1 a2 a3 g1
    refine d_tp150 hn hK h240 hm him (S := S) (fun j hj => ⟨(hg.1 j hj).1, (hg.1 j hj).2.1⟩) (M0 := M0) n 0 0 m1 (Nat.zero_le _) (by decide) g1 (LM_cg hL (fun c q1 q2 => a3 c (by omega)) (by rw [a3 77 (by decide)])) (FmH_tr hf ⟨fun c _ _ _ _ f => a3 c f, fun s _ => by rw [a3 77 (by decide)]⟩) (fun a ha => by rw [a3 116 (by decide)]; exact h116 a ha) a1 (fun q hq => absurd hq (by omega)) (fun q _ h2 => bit_0 h2) (fun M' b1 b2 b3 b4 b5 b6 b7 => ?_)
    refine ih (i + 1) M' (by omega) b1 b2 b3 (by rw [b7, a3 77 (by decide)]; exact h61) b4 (fun a b ha hb => ?_)
    by_cases e : a = i
    · rw [e]; exact b6 b hb
    · rw [b5 a e, a2 a e]; exact hlo a b (by omega) hb
theorem d_tp80 {n : Nat} (hn : 200000 ≤ n) {C : List Int} {K : List Kl} (hK : Kg (cdl C) C.length K) (h240 : C.length ≤ 240) {m N : Nat} (hm : m ≤ 4) (hN : N ≤ 10) {told : Int32} {S : Nat → Int32} (hgk : ∀ i, i < m → gkH told S i) (hd : ∀ i j, i < m → j < i → kH S j ≠ kH S i) {M0 M : qM} (hG : G M) (hL : LM M C K) (hf : FmH M0 M) (h61 : M 77 61 = nI m) (h116 : ∀ a, a < m → M 116 a = S a) (h84 : M 84 = S) : ∀ (f q : Nat), q ≤ N → (∀ s, s < q → gtH S m s) → qP (f_X12_takesPast_80 n f (nI m) (nI N) (nI q) M) (RmH told S m N (lkH C K n M0 S) M0) := by
  intro f
  induction f with
  | zero => intro q _ _; exact P_none
  | succ f ih =>
    intro q hq hlo
    show qP (b_X12_takesPast_80 n (f_X12_takesPast_80 n f) (nI m) (nI N) (nI q) M) _
    unfold b_X12_takesPast_80
    have tq' : (nI q).toInt = (q : Int) := nI_toInt (by omega)
    have tm' : (nI m).toInt = (m : Int) := nI_toInt (by omega)
    refine P_le (nI_toInt (by omega)) tq' (fun c => ?_) (fun c => P_qg (fun _ _ => ?_))
    · exact d_tp135 hn hK h240 hm ⟨hgk, hd, fun s hs => hlo s (by omega)⟩ n 0 M (Nat.zero_le _) hG hL hf h61 h116 (fun a b ha _ => absurd ha (by omega))
    · have hqN : q < N := by omega
      have t1 : (nI m + (2 : Int32) * nI q).toInt = ((m + 2 * q : Nat) : Int) := by rw [i_add tm' (i_mul l_2 tq' (by omega) (by omega)) (by omega) (by omega)]; omega
      have t2 : (nI m + (2 : Int32) * nI q + (1 : Int32)).toInt = ((m + 2 * q + 1 : Nat) : Int) := by rw [i_add t1 l_1 (by omega) (by omega)]; omega
      have n1 : (nI m + (2 : Int32) * nI q).toNatClampNeg = m + 2 * q := by rw [tnc, t1]; rfl
      have n2 : (nI m + (2 : Int32) * nI q + (1 : Int32)).toNatClampNeg = m + 2 * q + 1 := by rw [tnc, t2]; rfl
      have tm1 : (nI m - (1 : Int32)).toInt = (m : Int) - 1 := i_sub tm' l_1 (by omega) (by omega)
      have bad : ¬ gtH S m q → RmH told S m N (lkH C K n M0 S) M0 0 M := fun z => ⟨Or.inr ⟨rfl, fun g => z (g.2.2 q hqN)⟩, hf⟩
      rw [n1, h84]
      by_cases c1 : 0 ≤ (S (m + 2 * q)).toInt ∧ (S (m + 2 * q)).toInt ≤ (m : Int) - 1
      · rw [in_y rfl l_0 tm1 c1, qc_v]
        refine P_if (fun z => absurd z (by decide)) (fun _ => P_qg (fun _ _ => ?_))
        rw [n2, h84]
        by_cases c2 : 0 ≤ (S (m + 2 * q + 1)).toInt ∧ (S (m + 2 * q + 1)).toInt ≤ 1
        · rw [in_y rfl l_0 l_1 c2, qc_v]
          refine P_if (fun z => absurd z (by decide)) (fun _ => P_ql (i_add tq' l_1 (by omega) (by omega)) (fun x hx => ?_))
          rw [nI_i (a := x) (k := q + 1) (by rw [hx]; omega)]
          refine ih (q + 1) (by omega) (fun s hs => ?_)
          by_cases e : s = q
          · rw [e]
            exact ⟨⟨by unfold pH; omega, nI_i (by unfold pH; omega)⟩, ⟨by unfold oH; omega, nI_i (by unfold oH; omega)⟩⟩
          · exact hlo s (by omega)
        · rw [in_n rfl l_0 l_1 c2, qc_v]
          refine P_if (fun _ => P_ret (bad (fun g => c2 ?_))) (fun z => absurd rfl z)
          have g1 := g.2.1
          rw [g.2.2, nI_toInt (by omega)]; omega
      · rw [in_n rfl l_0 tm1 c1, qc_v]
        refine P_if (fun _ => P_ret (bad (fun g => c1 ?_))) (fun z => absurd rfl z)
        have g1 := g.1.1
        rw [g.1.2, nI_toInt (by omega)]; omega
theorem d_tp42 {n m N i : Nat} (hm : m ≤ 4) (him : i < m) {told : Int32} {S : Nat → Int32} {lk : Nat → Nat → Int32} {M0 M : qM} (hf : FmH M0 M) (h116 : ∀ a, a ≤ i → M 116 a = S a) (hgk : ∀ j, j ≤ i → gkH told S j) {K7 : Int32 → Int32 → Int32 → qM → qR} (hK7 : (∀ j, j < i → kH S j ≠ kH S i) → qP (K7 (nI m) (nI N) (nI (i + 1)) M) (RmH told S m N lk M0)) : ∀ (f j : Nat), j ≤ i → (∀ q, q < j → kH S q ≠ kH S i) → qP (f_X12_takesPast_42 n K7 f (nI m) (nI N) (nI i) (nI j) M) (RmH told S m N lk M0) := by
  intro f
  induction f with
  | zero => intro j _ _; exact P_none
  | succ f ih =>
    intro j hj hlo
    show qP (b_X12_takesPast_42 n K7 (f_X12_takesPast_42 n K7 f) (nI m) (nI N) (nI i) (nI j) M) _
    unfold b_X12_takesPast_42
    have tj' : (nI j).toInt = (j : Int) := nI_toInt (by omega)
    have ej : (nI j).toNatClampNeg = j := by rw [tnc, tj']; rfl
    have ti : (nI i).toInt = (i : Int) := nI_toInt (by omega)
    have ei : (nI i).toNatClampNeg = i := by rw [tnc, ti]; rfl
    refine P_le ti tj' (fun c => P_ql (i_add ti l_1 (by omega) (by omega)) (fun x hx => ?_)) (fun c => P_qg (fun _ _ => P_qg (fun _ _ => ?_)))
    · rw [nI_i (a := x) (k := i + 1) (by rw [hx]; omega)]
      exact hK7 (fun q hq => hlo q (by omega))
    · rw [ei, ej, h116 j hj, h116 i (Nat.le_refl _)]
      refine P_if (fun z => P_ret ⟨Or.inr ⟨rfl, fun g => g.2.1 i j him (by omega) ?_⟩, hf⟩) (fun z => P_ql (i_add tj' l_1 (by omega) (by omega)) (fun x hx => ?_))
      · unfold kH; rw [z]
      · rw [nI_i (a := x) (k := j + 1) (by rw [hx]; omega)]
        refine ih (j + 1) (by omega) (fun q hq => ?_)
        by_cases e : q = j
        · rw [e]
          intro w
          exact z (by rw [(hgk j hj).2.1, (hgk i (Nat.le_refl _)).2.1, w])
        · exact hlo q (by omega)
theorem d_tp7 {n : Nat} (hn : 200000 ≤ n) {C : List Int} {K : List Kl} (hK : Kg (cdl C) C.length K) (h240 : C.length ≤ 240) {m N : Nat} (hm : m ≤ 4) (hN : N ≤ 10) {told : Int32} {S : Nat → Int32} {M0 : qM} (h84 : M0 84 = S) (h6 : M0 77 6 = told) : ∀ (f i : Nat) (M : qM), i ≤ m → G M → LM M C K → FmH M0 M → M 77 61 = nI m → (∀ a, a < i → gkH told S a ∧ M 116 a = S a) → (∀ a b, a < i → b < a → kH S b ≠ kH S a) → qP (f_X12_takesPast_7 n f (nI m) (nI N) (nI i) M) (RmH told S m N (lkH C K n M0 S) M0) := by
  intro f
  induction f with
  | zero => intro i M _ _ _ _ _ _ _; exact P_none
  | succ f ih =>
    intro i M hi hG hL hf h61 hlo hd
    show qP (b_X12_takesPast_7 n (f_X12_takesPast_7 n f) (nI m) (nI N) (nI i) M) _
    unfold b_X12_takesPast_7
    have ti : (nI i).toInt = (i : Int) := nI_toInt (by omega)
    have ei : (nI i).toNatClampNeg = i := by rw [tnc, ti]; rfl
    have e84 : M 84 = S := by rw [hf.1 84 (by decide) (by decide) (by decide) (by decide) (by decide)]; exact h84
    refine P_le (nI_toInt (by omega)) ti (fun c => ?_) (fun c => P_qg (fun _ _ => P_qg (fun _ _ => ?_)))
    · have e : i = m := by omega
      subst e
      exact d_tp80 hn hK h240 hm hN (fun j hj => (hlo j hj).1) hd hG hL hf h61 (fun j hj => (hlo j hj).2) e84 n 0 (Nat.zero_le _) (fun s hs => absurd hs (by omega))
    · have him : i < m := by omega
      rw [ei, e84]
      have hb : Rin 116 i (S i) := by rw [← e84]; exact hG.1 84 i
      refine P_g hG hb (nw_116 _) ?_
      intro m1 a1 a2 a3 g1
      refine P_qg (fun _ _ => ?_)
      have f1 : FmH M0 m1 := FmH_tr hf ⟨fun c _ _ _ e _ => a3 c e, fun s _ => by rw [a3 77 (by decide)]⟩
      have l1 : LM m1 C K := LM_cg hL (fun c q1 q2 => a3 c (by omega)) (by rw [a3 77 (by decide)])
      have x6 : m1 77 6 = told := by rw [f1.2 6 (by decide)]; exact h6
      have bad : ¬ goodH told S m N → RmH told S m N (lkH C K n M0 S) M0 0 m1 := fun z => ⟨Or.inr ⟨rfl, z⟩, f1⟩
      rw [a1]
      by_cases c5 : 0 ≤ (S i).toInt ∧ (S i).toInt < 12
      · have hk : kH S i < 12 := by unfold kH; omega
        have eR : S i = nI (kH S i) := nI_i (by unfold kH; omega)
        have kk := d_kn (n := n) hk m1
        rw [x6] at kk
        rw [(congrArg (fun z => f_X12_isKind n z m1) eR).trans kk, qc_v]
        by_cases ct : bitI told (kH S i)
        · rw [if_pos ct]
          refine P_if (fun z => absurd z (by decide)) (fun _ => ?_)
          refine d_tp42 hm him f1 (S := S) (fun a ha => ?_) (fun j hj => ?_) (fun hne => ?_) n 0 (Nat.zero_le _) (fun q hq => absurd hq (by omega))
          · by_cases e : a = i
            · rw [e]; exact a1
            · rw [a2 a e]; exact (hlo a (by omega)).2
          · by_cases e : j = i
            · rw [e]; exact ⟨hk, eR, ct⟩
            · exact (hlo j (by omega)).1
          · refine ih (i + 1) m1 (by omega) g1 l1 f1 (by rw [a3 77 (by decide)]; exact h61) (fun a ha => ?_) (fun a b ha hb => ?_)
            · by_cases e : a = i
              · rw [e]; exact ⟨⟨hk, eR, ct⟩, a1⟩
              · rw [a2 a e]; exact hlo a (by omega)
            · by_cases e : a = i
              · rw [e]; exact hne b (by omega)
              · exact hd a b (by omega) hb
        · rw [if_neg ct]
          exact P_if (fun _ => P_ret (bad (fun g => ct (g.1 i him).2.2))) (fun z => absurd rfl z)
      · rw [(kn_out m1 c5).2, qc_v]
        refine P_if (fun _ => P_ret (bad (fun g => c5 ?_))) (fun z => absurd rfl z)
        have g1 := (g.1 i him).1
        rw [(g.1 i him).2.1, nI_toInt (by omega)]; omega
theorem d_tp {n : Nat} (hn : 200000 ≤ n) {C : List Int} {K : List Kl} (hK : Kg (cdl C) C.length K) (h240 : C.length ≤ 240) {m N : Nat} (hm : m ≤ 4) (hN : N ≤ 10) (M : qM) (hG : G M) (hL : LM M C K) : qP (f_X12_takesPast n (nI m) (nI N) M) (RmH (M 77 6) (M 84) m N (lkH C K n M (M 84)) M) := by
  unfold f_X12_takesPast
  have hr : Rin 77 61 (nI m) := by
    show 0 ≤ (nI m).toInt ∧ (nI m).toInt ≤ 4
    rw [nI_toInt (by omega)]; omega
  refine P_g hG hr (by unfold nW; decide) ?_
  intro m1 a1 a2 a3 g1
  exact d_tp7 hn hK h240 hm hN (M0 := M) rfl rfl n 0 m1 (Nat.zero_le _) g1 (LM_cg hL (fun c q1 q2 => a3 c (by omega)) (a2 17 (by decide))) ⟨fun c q _ _ _ _ => a3 c q, fun s hs => a2 s hs⟩ a1 (fun a ha => absurd ha (by omega)) (fun a b ha _ => absurd ha (by omega))
/-! histories: both sides -/
theorem telH_cg {g g' : Nat → Int32} {m : Nat} (h : ∀ q, q < m → g q = g' q) : ∀ (r i b : Nat), b < m → (i + r = m ∨ r = 0) → telH g r i b = telH g' r i b := by
  intro r
  induction r with
  | zero => intro i b _ _; rfl
  | succ r ih =>
    intro i b hb hi
    show (if g b ≤ g i then telH g r (i + 1) b else telH g r (i + 1) i) = (if g' b ≤ g' i then telH g' r (i + 1) b else telH g' r (i + 1) i)
    rw [h b hb, h i (by omega), ih (i + 1) b hb (by omega), ih (i + 1) i (by omega) (by omega)]
abbrev gpH (lk : Nat → Nat → Int32) (m : Nat) (v : Int32) (F : Nat → Option (Nat → Int32)) : Nat → Int32 := fun q => qmax (nxtH lk m v F q (4 ^ m)) (cntH F (4 ^ m) - nxtH lk m v F q (4 ^ m))
def ansH (lk : Nat → Nat → Int32) (m : Nat) (v : Int32) (F : Nat → Option (Nat → Int32)) (a4 : Int32) : Int32 := if a4 = 0 then cntH F (4 ^ m) else if a4 = 1 then fstH F (4 ^ m) else nI (telH (gpH lk m v F) (m - 1) 1 0)
theorem c_hist {n : Nat} (hn : 200000 ≤ n) {j : Nat} (hj : q_isLaw j) {C : List Int} {K : List Kl} (hK : Kg (cdl C) C.length K) {m N : Nat} (hm : m ≤ 4) (hm1 : 1 ≤ m) (hN : N ≤ 10) (v a4 : Int32) (hv : 0 ≤ v.toInt ∧ v.toInt ≤ 9) (h4 : 0 ≤ a4.toInt ∧ a4.toInt ≤ 2) (M : qM) (hG : G M) (hL : LJ j M C K) (hX : MK (M 5)) (hs : ((m + 2 * N : Nat) : Int) ≤ (M 1 1).toInt) {S : Nat → Int32} (hS : ∀ i, -128 ≤ (S i).toInt ∧ (S i).toInt ≤ 127) (e : ∀ i, i < m + 2 * N → M 2 i = S i &&& (255 : Int32)) {lk : Nat → Nat → Int32} (hlk : goodH (M 3 3) S m N → ∀ a b, a < m → b < m → lk a b = lkv C K n (M 4) (M 5) (M 7 9) (kH S a) (kH S b)) : qP (f_X11_histories n j (nI m) (nI N) v a4 M) (fun w _ => (goodH (M 3 3) S m N ∧ w = ansH lk m v (fH lk m v (pH S m) (oH S m) N) a4) ∨ (¬ goodH (M 3 3) S m N ∧ w = -3)) := by
  have tm' : (nI m).toInt = (m : Int) := nI_toInt (by omega)
  have tN : (nI N).toInt = (N : Int) := nI_toInt (by omega)
  unfold f_X11_histories
  rw [if_neg (show ¬ nI m < (1 : Int32) by rw [Int32.lt_iff_toInt_lt, tm', l_1]; omega), if_neg (show ¬ (4 : Int32) < nI m by rw [Int32.lt_iff_toInt_lt, tm', l_4]; omega), if_neg (show ¬ nI N < (0 : Int32) by rw [Int32.lt_iff_toInt_lt, tN, l_0]; omega), if_neg (show ¬ (10 : Int32) < nI N by rw [Int32.lt_iff_toInt_lt, tN, l_10]; omega), if_neg (show ¬ v < (0 : Int32) by rw [Int32.lt_iff_toInt_lt, l_0]; omega), if_pos (show v ≤ (9 : Int32) by rw [Int32.le_iff_toInt_le, l_9]; omega), if_neg (show ¬ a4 < (0 : Int32) by rw [Int32.lt_iff_toInt_lt, l_0]; omega), if_neg (show ¬ (2 : Int32) < a4 by rw [Int32.lt_iff_toInt_lt, l_2]; omega), if_pos (show nI m + (2 : Int32) * nI N ≤ M 1 1 by rw [Int32.le_iff_toInt_le, i_add tm' (i_mul l_2 tN (by omega) (by omega)) (by omega) (by omega)]; omega)]
  have hRS := good_RS (told := M 3 3) hm hS e
  refine P_qc (P_and (c_rd hm hN M hs) (P_T (t_X8_read hn (nI m) (nI N) M hG (by omega) (by omega)))) ?_
  rintro r1 m2 ⟨⟨hr, fr⟩, hp2⟩
  have g2 : G m2 := by first | exact hp2.2.1 | exact hp2.1 | exact hp2.2.2.1
  unfold f_X9_clear
  refine P_qc (Q := fun _ m3 => (∀ c, c ≠ 1 → m3 c = m2 c) ∧ G m3) (P_g g2 (show 0 ≤ (0 : Int32).toInt ∧ (0 : Int32).toInt ≤ 260 by decide) (nw_1 _) (fun m3 _ _ a3 g3 => P_ret ⟨a3, g3⟩)) ?_
  rintro _ m3 ⟨o3, g3⟩
  have f3 : ∀ c, c ≠ 1 → c ≠ 70 → c ≠ 71 → c ≠ 73 → c ≠ 74 → m3 c = M c := fun c q1 q2 q3 q4 q5 => by rw [o3 c q1, fr c q2 q3 q4 q5]
  rcases hr with ⟨rfl, hg, hJ⟩ | ⟨rfl, hg⟩
  · have gc := good_cg hg (fun i hi => hRS.1 hg i hi)
    obtain ⟨gS, ek, ep⟩ := gc
    refine P_if (fun z => absurd z (by decide)) (fun _ => ?_)
    have hJ3 : HJ m N (kH S) (pH S m) (oH S m) m3 := by
      refine ⟨⟨by rw [o3 70 (by decide)]; exact hJ.1.1, by rw [o3 70 (by decide)]; exact hJ.1.2⟩, fun i hi => ?_, fun q hq => ?_⟩
      · rw [o3 71 (by decide), hJ.2.1 i hi, ek i hi]
      · rw [o3 73 (by decide), o3 74 (by decide), (hJ.2.2 q hq).1, (hJ.2.2 q hq).2, (ep q hq).1, (ep q hq).2]
        exact ⟨rfl, rfl⟩
    have q3 : m3 3 = M 3 := f3 3 (by decide) (by decide) (by decide) (by decide) (by decide)
    have q4 : m3 4 = M 4 := f3 4 (by decide) (by decide) (by decide) (by decide) (by decide)
    have q5 : m3 5 = M 5 := f3 5 (by decide) (by decide) (by decide) (by decide) (by decide)
    have q7 : m3 7 = M 7 := f3 7 (by decide) (by decide) (by decide) (by decide) (by decide)
    refine P_qc (c_goT hn hj hK hm hm1 hN (ks := kH S) (P := pH S m) (O := oH S m) (fun i hi => (gS.1 i hi).1) (fun q hq => (gS.2.2 q hq).1.1) (m3 7 9) v m3 (lk := lk) (by rw [q4, q5, q7]; exact hlk gS) (by rw [q5]; exact hX) (fun i hi => by rw [q3]; exact (gS.1 i hi).2.2) g3 (LJ_cg hL (fun q hq => ?_)) hJ3) ?_
    · rcases hj with rfl | rfl <;> exact f3 _ (by omega) (by omega) (by omega) (by omega) (by omega)
    rintro _ m4 ⟨s1, s2, s3, s4, s5⟩
    refine P_if (fun c => P_ret (Or.inl ⟨gS, ?_⟩)) (fun c => P_if (fun c2 => P_ret (Or.inl ⟨gS, ?_⟩)) (fun c2 => ?_))
    · unfold ansH; rw [if_pos c]; exact s3
    · unfold ansH; rw [if_neg c, if_pos c2]; exact s4
    · unfold f_X8_tellingPlace
      refine P_qc (c_tell4 hm s1 n (m - 1) 1 0 (by omega) (by omega) (by omega)) ?_
      intro w m5 hw
      refine P_ret (Or.inl ⟨gS, ?_⟩)
      unfold ansH
      rw [if_neg c, if_neg c2, hw]
      rw [telH_cg (m := m) (g' := gpH lk m v (fH lk m v (pH S m) (oH S m) N)) (fun q hq => ?_) (m - 1) 1 0 (by omega) (by omega)]
      show qmax (m4 76 q) (m4 70 10 - m4 76 q) = _
      rw [s5 q hq, s3]
  · refine P_if (fun _ => P_ret (Or.inr ⟨fun g => hg ?_, rfl⟩)) (fun z => absurd rfl z)
    exact (good_cg g (fun i hi => hRS.2 g i hi)).1
theorem d_h87 {n m N : Nat} (hm : m ≤ 4) (hm1 : 1 ≤ m) (hN : N ≤ 10) {P O : Nat → Nat} (hP : ∀ q, q < N → P q < m) (hO : ∀ q, q < N → O q < 2) {lk : Nat → Nat → Int32} {v a4 : Int32} (h4 : 0 ≤ a4.toInt ∧ a4.toInt ≤ 2) : ∀ (f h : Nat) (M : qM), h ≤ 4 ^ m → HMo m lk M → HMt m N P O M → (∀ c, c < h → M 119 c = sm1 (fH lk m v P O N c)) → qP (f_X12_histories_87 n f (nI m) (nI N) v a4 (nI (4 ^ m)) (cntH (fH lk m v P O N) h) (fstH (fH lk m v P O N) h) (nI h) M) (fun w _ => w = ansH lk m v (fH lk m v P O N) a4) := by
  intro f
  induction f with
  | zero => intro h M _ _ _ _; exact P_none
  | succ f ih =>
    intro h M hh hM hMt hlo
    show qP (b_X12_histories_87 n (f_X12_histories_87 n f) (nI m) (nI N) v a4 (nI (4 ^ m)) (cntH (fH lk m v P O N) h) (fstH (fH lk m v P O N) h) (nI h) M) _
    unfold b_X12_histories_87
    have p4 : 4 ^ m ≤ 256 := Nat.le_trans (Nat.pow_le_pow_right (by decide) hm) (by decide)
    have th : (nI h).toInt = (h : Int) := nI_toInt (by omega)
    have eh : (nI h).toNatClampNeg = h := by rw [tnc, th]; rfl
    refine P_le (nI_toInt (by omega)) th (fun c => ?_) (fun c => ?_)
    · have e : h = 4 ^ m := by omega
      subst e
      refine P_le l_2 rfl (fun c2 => ?_) (fun c2 => P_if (fun c3 => P_ret ?_) (fun c3 => P_ret ?_))
      · refine P_mono (d_tellH hm hm1 hN hP hO hM hMt (fun c hc => hlo c hc) n (m - 1) 1 0 M (by omega) (by omega) (by omega) (fun _ _ => rfl)) (fun w _ hw => ?_)
        unfold ansH
        rw [if_neg (fun z => by rw [z, l_0] at c2; omega), if_neg (fun z => by rw [z, l_1] at c2; omega)]
        exact hw
      · unfold ansH; rw [if_pos c3]
      · unfold ansH
        rw [if_neg c3, if_pos]
        have : a4.toInt ≠ 0 := fun z => c3 (Int32.toInt_inj.mp (by rw [z]; rfl))
        exact Int32.toInt_inj.mp (by rw [l_1]; omega)
    · refine P_qc (d_goes (h := h) hm hm1 hN (by omega) hP hO hM hMt) ?_
      rintro r1 m2 ⟨hz, o2⟩
      have hr1 : r1 = sm1 (fH lk m v P O N h) := by
        rcases hz with ⟨rfl, T, e, _⟩ | ⟨rfl, e⟩
        · rw [e]; rfl
        · rw [e]; rfl
      have hnar : vp_nar .boolean r1 = sm1 (fH lk m v P O N h) := by
        rw [hr1]
        cases fH lk m v P O N h with
        | none => rfl
        | some T => exact (by decide +kernel : vp_nar .boolean (1 : Int32) = 1)
      refine P_qg (fun _ _ => ?_)
      rw [eh, hnar]
      refine P_m (fun m3 a1 a2 a3 => P_qg (fun _ _ => ?_))
      have hM3 : HMo m lk m3 := ⟨by rw [a3 77 (by decide), o2 77 (by decide)]; exact hM.1, fun i j hi hj => by rw [a3 117 (by decide), o2 117 (by decide)]; exact hM.2 i j hi hj⟩
      have hMt3 : HMt m N P O m3 := fun q hq => by rw [a3 84 (by decide), o2 84 (by decide)]; exact hMt q hq
      have hlo3 : ∀ c, c < h + 1 → m3 119 c = sm1 (fH lk m v P O N c) := fun c hc => by
        by_cases e : c = h
        · rw [e]; exact a1
        · rw [a2 c e, o2 119 (by decide)]; exact hlo c (by omega)
      have fin : ∀ z y : Int32, z = sm1 (fH lk m v P O N h) → y = fstH (fH lk m v P O N) (h + 1) → qP (f_X12_histories_150 n (f_X12_histories_87 n f) (nI m) (nI N) v a4 (nI (4 ^ m)) y (nI h) (cntH (fH lk m v P O N) h) z m3) (fun w _ => w = ansH lk m v (fH lk m v P O N) a4) := by
        intro z y hz hy
        unfold f_X12_histories_150
        refine P_ql rfl (fun x1 hx1 => P_ql (i_add th l_1 (by omega) (by omega)) (fun x2 hx2 => ?_))
        have e1 : x1 = cntH (fH lk m v P O N) (h + 1) := by rw [Int32.toInt_inj.mp hx1, hz]; rfl
        rw [e1, hy, nI_i (a := x2) (k := h + 1) (by rw [hx2]; omega)]
        exact ih (h + 1) m3 (by omega) hM3 hMt3 hlo3
      have go : ∀ y : Int32, y = fstH (fH lk m v P O N) (h + 1) → qP (f_X12_histories_131 n (f_X12_histories_87 n f) (nI m) (nI N) v a4 (nI (4 ^ m)) (cntH (fH lk m v P O N) h) (nI h) y m3) (fun w _ => w = ansH lk m v (fH lk m v P O N) a4) := by
        intro y hy
        unfold f_X12_histories_131
        refine P_qg (fun _ _ => ?_)
        rw [eh, a1]
        refine P_if (fun z => fin 0 y z.symm hy) (fun z => fin 1 y ?_ hy)
        cases hF : fH lk m v P O N h with
        | none => rw [hF] at z; exact absurd rfl z
        | some T => exact (by decide +kernel : vp_nar .boolean (1 : Int32) = 1)
      have efs : fstH (fH lk m v P O N) (h + 1) = (if sm1 (fH lk m v P O N h) = 0 then fstH (fH lk m v P O N) h else if cntH (fH lk m v P O N) h = 0 then nI h else fstH (fH lk m v P O N) h) := rfl
      rw [a1]
      unfold f_X12_histories_129
      refine P_if (fun z => go _ (by rw [efs, if_pos z])) (fun z => P_if (fun z2 => go _ (by rw [efs, if_neg z, if_pos z2])) (fun z2 => go _ (by rw [efs, if_neg z, if_neg z2])))
theorem d_hist {n : Nat} (hn : 200000 ≤ n) {C : List Int} {K : List Kl} (hK : Kg (cdl C) C.length K) (h240 : C.length ≤ 240) {m N : Nat} (hm : m ≤ 4) (hm1 : 1 ≤ m) (hN : N ≤ 10) (v a4 : Int32) (hv : 0 ≤ v.toInt ∧ v.toInt ≤ 9) (h4 : 0 ≤ a4.toInt ∧ a4.toInt ≤ 2) (M : qM) (hG : G M) (hL : LM M C K) (hs : ((m + 2 * N : Nat) : Int) ≤ (M 77 8).toInt) : qP (f_X12_histories n (nI m) (nI N) v a4 M) (fun w _ => (goodH (M 77 6) (M 84) m N ∧ w = ansH (lkH C K n M (M 84)) m v (fH (lkH C K n M (M 84)) m v (pH (M 84) m) (oH (M 84) m) N) a4) ∨ (¬ goodH (M 77 6) (M 84) m N ∧ w = -3)) := by
  have tm' : (nI m).toInt = (m : Int) := nI_toInt (by omega)
  have tN : (nI N).toInt = (N : Int) := nI_toInt (by omega)
  have z1 : ¬ (1 : Int32) = 0 := by decide
  unfold f_X12_histories
  rw [in_y tm' l_1 l_4 (by omega), qc_v, if_neg z1, in_y tN l_0 l_10 (by omega), qc_v, if_neg z1, in_y rfl l_0 l_9 hv, qc_v, if_neg z1, in_y rfl l_0 l_2 h4, qc_v, if_neg z1, if_pos (show nI m + (2 : Int32) * nI N ≤ M 77 8 by rw [Int32.le_iff_toInt_le, i_add tm' (i_mul l_2 tN (by omega) (by omega)) (by omega) (by omega)]; omega)]
  refine P_g hG (show 0 ≤ (0 : Int32).toInt ∧ (0 : Int32).toInt ≤ 260 by decide) (by unfold nW; decide) ?_
  intro m1 a1 a2 a3 g1
  have l1 : LM m1 C K := LM_cg hL (fun c q1 q2 => a3 c (by omega)) (a2 17 (by decide))
  have e84 : m1 84 = M 84 := a3 84 (by decide)
  have e6 : m1 77 6 = M 77 6 := a2 6 (by decide)
  have elk : lkH C K n m1 (M 84) = lkH C K n M (M 84) := by
    unfold lkH
    rw [a3 81 (by decide), a3 82 (by decide), a3 78 (by decide)]
  have key := d_tp hn hK h240 hm hN m1 g1 l1
  rw [e84, e6, elk] at key
  refine P_qc key ?_
  rintro r m2 ⟨hr, fr⟩
  rcases hr with ⟨rfl, hg, hM⟩ | ⟨rfl, hg⟩
  · refine P_if (fun z => absurd z (by decide)) (fun _ => ?_)
    have e4 : (1 : Int32) <<< (((2 : Int32) * nI m) &&& 31) = nI (4 ^ m) := (by decide +kernel : ∀ m, m < 5 → (1 : Int32) <<< (((2 : Int32) * nI m) &&& 31) = nI (4 ^ m)) m (by omega)
    rw [e4]
    refine P_ql rfl (fun x hx => ?_)
    rw [Int32.toInt_inj.mp hx]
    have hMt : HMt m N (pH (M 84) m) (oH (M 84) m) m2 := fun q hq => by
      rw [fr.1 84 (by decide) (by decide) (by decide) (by decide) (by decide), e84]
      exact ⟨(hg.2.2 q hq).1.2, (hg.2.2 q hq).2.2⟩
    exact P_mono (d_h87 hm hm1 hN (fun q hq => (hg.2.2 q hq).1.1) (fun q hq => (hg.2.2 q hq).2.1) h4 n 0 m2 (Nat.zero_le _) hM hMt (fun c hc => absurd hc (by omega))) (fun w _ hw => Or.inl ⟨hg, hw⟩)
  · exact P_if (fun _ => P_ret (Or.inr ⟨hg, rfl⟩)) (fun z => absurd rfl z)
theorem c_hist0 {n j : Nat} {a1 a2 a3 a4 : Int32} {M : qM} (h : ¬ ((1 ≤ a1.toInt ∧ a1.toInt ≤ 4) ∧ (0 ≤ a2.toInt ∧ a2.toInt ≤ 10) ∧ (0 ≤ a3.toInt ∧ a3.toInt ≤ 9) ∧ (0 ≤ a4.toInt ∧ a4.toInt ≤ 2) ∧ a1.toInt + 2 * a2.toInt ≤ (M 1 1).toInt)) : qP (f_X11_histories n j a1 a2 a3 a4 M) (fun w _ => w = -1) := by
  unfold f_X11_histories
  refine P_lt rfl l_1 (fun _ => P_ret rfl) (fun c1 => P_lt l_4 rfl (fun _ => P_ret rfl) (fun c2 => P_lt rfl l_0 (fun _ => P_ret rfl) (fun c3 => P_lt l_10 rfl (fun _ => P_ret rfl) (fun c4 => P_lt rfl l_0 (fun _ => P_ret rfl) (fun c5 => P_le rfl l_9 (fun c6 => P_lt rfl l_0 (fun _ => P_ret rfl) (fun c7 => P_lt l_2 rfl (fun _ => P_ret rfl) (fun c8 => ?_))) (fun _ => P_ret rfl))))))
  have e : (a1 + (2 : Int32) * a2).toInt = a1.toInt + 2 * a2.toInt := i_add rfl (i_mul l_2 rfl (by omega) (by omega)) (by omega) (by omega)
  exact P_le e rfl (fun c9 => absurd ⟨⟨c1, c2⟩, ⟨c3, c4⟩, ⟨c5, c6⟩, ⟨c7, c8⟩, c9⟩ h) (fun _ => P_ret rfl)
theorem d_hist0 {n : Nat} {a1 a2 a3 a4 : Int32} {M : qM} (h : ¬ ((1 ≤ a1.toInt ∧ a1.toInt ≤ 4) ∧ (0 ≤ a2.toInt ∧ a2.toInt ≤ 10) ∧ (0 ≤ a3.toInt ∧ a3.toInt ≤ 9) ∧ (0 ≤ a4.toInt ∧ a4.toInt ≤ 2) ∧ a1.toInt + 2 * a2.toInt ≤ (M 77 8).toInt)) : qP (f_X12_histories n a1 a2 a3 a4 M) (fun w _ => w = -1) := by
  have z1 : ¬ (1 : Int32) = 0 := by decide
  have z0 : (0 : Int32) = 0 := rfl
  unfold f_X12_histories
  by_cases c1 : 1 ≤ a1.toInt ∧ a1.toInt ≤ 4
  · rw [in_y rfl l_1 l_4 c1, qc_v, if_neg z1]
    by_cases c2 : 0 ≤ a2.toInt ∧ a2.toInt ≤ 10
    · rw [in_y rfl l_0 l_10 c2, qc_v, if_neg z1]
      by_cases c3 : 0 ≤ a3.toInt ∧ a3.toInt ≤ 9
      · rw [in_y rfl l_0 l_9 c3, qc_v, if_neg z1]
        by_cases c4 : 0 ≤ a4.toInt ∧ a4.toInt ≤ 2
        · rw [in_y rfl l_0 l_2 c4, qc_v, if_neg z1]
          have e : (a1 + (2 : Int32) * a2).toInt = a1.toInt + 2 * a2.toInt := i_add rfl (i_mul l_2 rfl (by omega) (by omega)) (by omega) (by omega)
          exact P_le e rfl (fun c9 => absurd ⟨c1, c2, c3, c4, c9⟩ h) (fun _ => P_ret rfl)
        · rw [in_n rfl l_0 l_2 c4, qc_v, if_pos z0]; exact P_ret rfl
      · rw [in_n rfl l_0 l_9 c3, qc_v, if_pos z0]; exact P_ret rfl
    · rw [in_n rfl l_0 l_10 c2, qc_v, if_pos z0]; exact P_ret rfl
  · rw [in_n rfl l_1 l_4 c1, qc_v, if_pos z0]; exact P_ret rfl
theorem histories_ag {n : Nat} (hn : 200000 ≤ n) {j : Nat} (hj : q_isLaw j) {a1 a2 a3 a4 v1 v2 : Int32} {M m1 m2 : qM} (hG : G M) (hG1 : G m1) (hD : KD M M) (hL : LR j M M) (hday : M 7 9 = M 78 313) (e77 : ∀ c, 77 ≤ c → m1 c = M c) (hTR : TR M) (hs : (M 1 1).toInt = (M 77 8).toInt) (e1 : f_X11_histories n j a1 a2 a3 a4 M = some (v1, m1)) (e2 : f_X12_histories n a1 a2 a3 a4 m1 = some (v2, m2)) : v1 = v2 := by
  obtain ⟨C, K, hJ, hM, hK, h240⟩ := hL
  have hM1 : LM m1 C K := LM_cg hM (fun c q1 q2 => e77 c (by omega)) (by rw [e77 77 (by decide)])
  by_cases h : (1 ≤ a1.toInt ∧ a1.toInt ≤ 4) ∧ (0 ≤ a2.toInt ∧ a2.toInt ≤ 10) ∧ (0 ≤ a3.toInt ∧ a3.toInt ≤ 9) ∧ (0 ≤ a4.toInt ∧ a4.toInt ≤ 2) ∧ a1.toInt + 2 * a2.toInt ≤ (M 1 1).toInt
  · obtain ⟨c1, c2, c3, c4, c5⟩ := h
    obtain ⟨m, hm1, hm, rfl⟩ : ∃ m : Nat, 1 ≤ m ∧ m ≤ 4 ∧ a1 = nI m := ⟨a1.toInt.toNat, by omega, by omega, nI_i (by omega)⟩
    obtain ⟨N, hN, rfl⟩ : ∃ N : Nat, N ≤ 10 ∧ a2 = nI N := ⟨a2.toInt.toNat, by omega, nI_i (by omega)⟩
    rw [nI_toInt (by omega), nI_toInt (by omega)] at c5
    have key1 := c_hist hn hj hK hm hm1 hN a3 a4 c3 c4 M hG hJ hD.2.1 (by omega) (S := M 84) (fun i => hG.1 84 i) (fun i hi => Int32.toInt_inj.mp (hTR i (by omega))) (lk := lkH C K n M (M 84)) (fun gS a b ha hb => by
      show lkv C K n (M 81) (M 82) (M 78 313) (kH (M 84) a) (kH (M 84) b) = _
      rw [hday]
      have ka := (gS.1 a ha).1
      have kb := (gS.1 b hb).1
      exact (lkv_cg (hD.2.2 _ ka).1 (hD.2.2 _ ka).2.1 (hD.2.2 _ kb).2.1).symm) v1 m1 e1
    have key2 := d_hist hn hK h240 hm hm1 hN a3 a4 c3 c4 m1 hG1 hM1 (by rw [e77 77 (by decide)]; omega) v2 m2 e2
    have elk : lkH C K n m1 (m1 84) = lkH C K n M (M 84) := by
      unfold lkH
      rw [e77 81 (by decide), e77 82 (by decide), e77 78 (by decide), e77 84 (by decide)]
    rw [elk, e77 84 (by decide), e77 77 (by decide), ← hD.1] at key2
    rcases key1 with ⟨g1, q1⟩ | ⟨g1, q1⟩ <;> rcases key2 with ⟨g2, q2⟩ | ⟨g2, q2⟩
    · rw [q1, q2]
    · exact absurd g1 g2
    · exact absurd g2 g1
    · rw [q1, q2]
  · rw [c_hist0 h v1 m1 e1, d_hist0 (by rw [e77 77 (by decide), ← hs]; exact h) v2 m2 e2]
