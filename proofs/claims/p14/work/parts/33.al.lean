/-! TWO RUNS beside each other: what holds if both come to an end -/
def q2 (E1 E2 : qR) (Q : Int32 → qM → Int32 → qM → Prop) : Prop := ∀ v1 m1 v2 m2, E1 = some (v1, m1) → E2 = some (v2, m2) → Q v1 m1 v2 m2
theorem q2_ret {v1 v2 : Int32} {m1 m2 : qM} {Q : Int32 → qM → Int32 → qM → Prop} (h : Q v1 m1 v2 m2) : q2 (some (v1, m1)) (some (v2, m2)) Q := by
  intro a b c d e1 e2
  cases e1
  cases e2
  exact h
theorem q2_n1 {E : qR} {Q : Int32 → qM → Int32 → qM → Prop} : q2 none E Q := fun _ _ _ _ e _ => by cases e
theorem q2_n2 {E : qR} {Q : Int32 → qM → Int32 → qM → Prop} : q2 E none Q := fun _ _ _ _ _ e => by cases e
theorem q2_mono {E1 E2 : qR} {P Q : Int32 → qM → Int32 → qM → Prop} (h : q2 E1 E2 P) (k : ∀ v1 m1 v2 m2, P v1 m1 v2 m2 → Q v1 m1 v2 m2) : q2 E1 E2 Q := fun a b c d e1 e2 => k a b c d (h a b c d e1 e2)
theorem q2_i1 {c : Prop} [Decidable c] {A B E : qR} {Q : Int32 → qM → Int32 → qM → Prop} (h1 : c → q2 A E Q) (h2 : ¬ c → q2 B E Q) : q2 (if c then A else B) E Q := by
  by_cases q : c
  · rw [if_pos q]; exact h1 q
  · rw [if_neg q]; exact h2 q
theorem q2_i2 {c : Prop} [Decidable c] {A B E : qR} {Q : Int32 → qM → Int32 → qM → Prop} (h1 : c → q2 E A Q) (h2 : ¬ c → q2 E B Q) : q2 E (if c then A else B) Q := by
  by_cases q : c
  · rw [if_pos q]; exact h1 q
  · rw [if_neg q]; exact h2 q
/-- both ask the same -/
theorem q2_i {c d : Prop} [Decidable c] [Decidable d] {A B A' B' : qR} {Q : Int32 → qM → Int32 → qM → Prop} (hcd : c ↔ d) (h1 : c → q2 A A' Q) (h2 : ¬ c → q2 B B' Q) : q2 (if c then A else B) (if d then A' else B') Q := by
  by_cases q : c
  · rw [if_pos q, if_pos (hcd.mp q)]; exact h1 q
  · rw [if_neg q, if_neg (fun z => q (hcd.mpr z))]; exact h2 q
theorem q2_qc {F1 F2 : qR} {f1 f2 : Int32 → qM → qR} {R Q : Int32 → qM → Int32 → qM → Prop} (h : q2 F1 F2 R) (k : ∀ v1 m1 v2 m2, R v1 m1 v2 m2 → q2 (f1 v1 m1) (f2 v2 m2) Q) : q2 (qc F1 f1) (qc F2 f2) Q := by
  intro a b c d e1 e2
  cases h1 : F1 with
  | none => rw [h1] at e1; cases e1
  | some q =>
    obtain ⟨v1, m1⟩ := q
    cases h2 : F2 with
    | none => rw [h2] at e2; cases e2
    | some q' =>
      obtain ⟨v2, m2⟩ := q'
      rw [h1, qc_v] at e1
      rw [h2, qc_v] at e2
      exact k v1 m1 v2 m2 (h v1 m1 v2 m2 h1 h2) a b c d e1 e2
theorem q2_c1 {F1 E : qR} {f1 : Int32 → qM → qR} {R : Int32 → qM → Prop} {Q : Int32 → qM → Int32 → qM → Prop} (h : qP F1 R) (k : ∀ v m, R v m → q2 (f1 v m) E Q) : q2 (qc F1 f1) E Q := by
  intro a b c d e1 e2
  cases h1 : F1 with
  | none => rw [h1] at e1; cases e1
  | some q =>
    obtain ⟨v1, m1⟩ := q
    rw [h1, qc_v] at e1
    exact k v1 m1 (h v1 m1 h1) a b c d e1 e2
theorem q2_c2 {F2 E : qR} {f2 : Int32 → qM → qR} {R : Int32 → qM → Prop} {Q : Int32 → qM → Int32 → qM → Prop} (h : qP F2 R) (k : ∀ v m, R v m → q2 E (f2 v m) Q) : q2 E (qc F2 f2) Q := by
  intro a b c d e1 e2
  cases h1 : F2 with
  | none => rw [h1] at e2; cases e2
  | some q =>
    obtain ⟨v1, m1⟩ := q
    rw [h1, qc_v] at e2
    exact k v1 m1 (h v1 m1 h1) a b c d e1 e2
theorem q2_g1 {j : Int32} {n : Nat} {E E' : qR} {Q : Int32 → qM → Int32 → qM → Prop} (h : 0 ≤ j.toInt → j.toInt < (n : Int) → q2 E E' Q) : q2 (qg j n E) E' Q := by
  intro a b c d e1 e2
  have := P_qg (j := j) (n := n) (E := E) (P := fun v m => q2 (some (v, m)) E' Q) (fun h0 h1 v m e => by
    show q2 (some (v, m)) E' Q
    rw [← e]; exact h h0 h1)
  exact this a b e1 a b c d rfl e2
theorem q2_g2 {j : Int32} {n : Nat} {E E' : qR} {Q : Int32 → qM → Int32 → qM → Prop} (h : 0 ≤ j.toInt → j.toInt < (n : Int) → q2 E' E Q) : q2 E' (qg j n E) Q := by
  intro a b c d e1 e2
  have := P_qg (j := j) (n := n) (E := E) (P := fun v m => q2 E' (some (v, m)) Q) (fun h0 h1 v m e => by
    show q2 E' (some (v, m)) Q
    rw [← e]; exact h h0 h1)
  exact this c d e2 a b c d e1 rfl
theorem q2_l1 {v : Int32} {x : Int} {f : Int32 → qR} {E : qR} {Q : Int32 → qM → Int32 → qM → Prop} (hv : v.toInt = x) (h : ∀ y : Int32, y.toInt = x → q2 (f y) E Q) : q2 (ql v f) E Q := h v hv
theorem q2_l2 {v : Int32} {x : Int} {f : Int32 → qR} {E : qR} {Q : Int32 → qM → Int32 → qM → Prop} (hv : v.toInt = x) (h : ∀ y : Int32, y.toInt = x → q2 E (f y) Q) : q2 E (ql v f) Q := h v hv
theorem q2_v1 {v : Int32} {f : Int32 → qR} {E : qR} {Q : Int32 → qM → Int32 → qM → Prop} (h : q2 (f v) E Q) : q2 (ql v f) E Q := h
theorem q2_v2 {v : Int32} {f : Int32 → qR} {E : qR} {Q : Int32 → qM → Int32 → qM → Prop} (h : q2 E (f v) Q) : q2 E (ql v f) Q := h
theorem q2_m1 {M : qM} {c s : Nat} {v : Int32} {f : qM → qR} {E : qR} {Q : Int32 → qM → Int32 → qM → Prop} (h : ∀ m : qM, m = mu M c s v → m c s = v → (∀ s2, s2 ≠ s → m c s2 = M c s2) → (∀ c2, c2 ≠ c → m c2 = M c2) → q2 (f m) E Q) : q2 (qlm (mu M c s v) f) E Q := h _ rfl mu_at (fun s2 h2 => mu_ne (Or.inr h2)) (fun c2 hc2 => mu_nc hc2)
theorem q2_m2 {M : qM} {c s : Nat} {v : Int32} {f : qM → qR} {E : qR} {Q : Int32 → qM → Int32 → qM → Prop} (h : ∀ m : qM, m = mu M c s v → m c s = v → (∀ s2, s2 ≠ s → m c s2 = M c s2) → (∀ c2, c2 ≠ c → m c2 = M c2) → q2 E (f m) Q) : q2 E (qlm (mu M c s v) f) Q := h _ rfl mu_at (fun s2 h2 => mu_ne (Or.inr h2)) (fun c2 hc2 => mu_nc hc2)
/-- the town, its people and plans -/
abbrev RO (t c : Nat) (A B : qM) : Prop := A t 8 = B c 312 ∧ A t 9 = B c 313 ∧ ∀ p, p < 8 → A (t + 1) p = B c (288 + p)
abbrev RP (t c : Nat) (A B : qM) : Prop := ∀ p, p < 8 → A (t + 7) p = B c (296 + p) ∧ A (t + 8) p = B c (304 + p) ∧ ∀ q : Nat, q < 40 → (q : Int) < (A (t + 7) p).toInt → A (t + 5) (40 * p + q) = B c (314 + (40 * p + q)) ∧ A (t + 6) (40 * p + q) = B c (634 + (40 * p + q))
/-- what came of the days -/
abbrev RN (A B : qM) : Prop := A 44 4 = B 77 37 ∧ A 44 5 = B 77 38 ∧ A 44 6 = B 77 39 ∧ A 44 7 = B 77 40 ∧ A 44 8 = B 77 41 ∧ A 44 9 = B 77 42
/-- all that a try goes by -/
abbrev RE (t j : Nat) (C : List Int) (K : List Kl) (A B : qM) : Prop := (G A ∧ G B) ∧ (LJ j A C K ∧ LM B C K) ∧ KD A B ∧ RC t A B ∧ RO t 78 A B
theorem RC_cg {t : Nat} {A A' B B' : qM} (h : RC t A B) (e2 : A' (t + 2) = A (t + 2)) (e3 : A' (t + 3) = A (t + 3)) (e4 : A' (t + 4) = A (t + 4)) (e : ∀ i, i < 288 → B' 78 i = B 78 i) : RC t A' B' := by
  refine ⟨fun i hi => ?_, fun i hi => ?_⟩
  · rw [e2, e3, e i (by omega), e (96 + i) (by omega)]; exact h.1 i hi
  · rw [e4, e (192 + i) (by omega)]; exact h.2 i hi
theorem RP_cg {t : Nat} {A A' B B' : qM} (h : RP t 78 A B) (e5 : A' (t + 5) = A (t + 5)) (e6 : A' (t + 6) = A (t + 6)) (e7 : A' (t + 7) = A (t + 7)) (e8 : A' (t + 8) = A (t + 8)) (e : ∀ i, 296 ≤ i → i < 312 ∨ 314 ≤ i → B' 78 i = B 78 i) : RP t 78 A' B' := by
  intro p hp
  obtain ⟨h1, h2, h3⟩ := h p hp
  refine ⟨by rw [e7, e _ (by omega) (by omega)]; exact h1, by rw [e8, e _ (by omega) (by omega)]; exact h2, fun q hq hq2 => ?_⟩
  rw [e7] at hq2
  rw [e5, e6, e _ (by omega) (by omega), e _ (by omega) (by omega)]
  exact h3 q hq hq2
theorem KD_2 {A A' B B' : qM} (h : KD A B) (e : ∀ c, 3 ≤ c → c ≤ 6 → A' c = A c) (e1 : B' 77 6 = B 77 6) (e2 : ∀ c, 81 ≤ c → c ≤ 83 → B' c = B c) : KD A' B' := by
  obtain ⟨h1, h2, h3⟩ := h
  refine ⟨by rw [e 3 (by decide) (by decide), e1]; exact h1, by rw [e 5 (by decide) (by decide)]; exact h2, fun q hq => ?_⟩
  rw [e 4 (by decide) (by decide), e 5 (by decide) (by decide), e 6 (by decide) (by decide), e2 81 (by decide) (by decide), e2 82 (by decide) (by decide), e2 83 (by decide) (by decide)]
  exact h3 q hq
/-! a try on both sides, and what it leaves as it was -/
theorem al0 {c s : Nat} : ∀ x ∈ ([] : List Bx), ¬ inB x c s := fun x h => by cases h
theorem al2 {a b d e c s : Nat} {l : List Bx} (h : c < a ∨ b ≤ c ∨ (e ≠ 0 ∧ (s < d ∨ e ≤ s))) (k : ∀ x ∈ l, ¬ inB x c s) : ∀ x ∈ ((a, b, d, e) : Bx) :: l, ¬ inB x c s := by
  intro x hx hi
  rcases List.mem_cons.mp hx with rfl | hx
  · obtain ⟨h1, h2, h3⟩ := hi
    have h1' : a ≤ c := h1
    have h2' : c < b := h2
    have h3' : e = 0 ∨ (d ≤ s ∧ s < e) := h3
    omega
  · exact k x hx hi
theorem RO_cg {t c : Nat} {A A' B B' : qM} (h : RO t c A B) (e8 : A' t 8 = A t 8) (e9 : A' t 9 = A t 9) (e1 : A' (t + 1) = A (t + 1)) (e : ∀ i, 288 ≤ i → i < 296 ∨ i = 312 ∨ i = 313 → B' c i = B c i) : RO t c A' B' := by
  obtain ⟨h1, h2, h3⟩ := h
  refine ⟨by rw [e8, e 312 (by decide) (by decide)]; exact h1, by rw [e9, e 313 (by decide) (by decide)]; exact h2, fun p hp => ?_⟩
  rw [e1, e _ (by omega) (by omega)]
  exact h3 p hp
abbrev Fa (t : Nat) (A m : qM) : Prop := (∀ c, c ≠ t + 2 → c ≠ t + 3 → c ≠ t + 4 → c ≠ 34 → c ≠ 35 → c ≠ 36 → c ≠ 44 → m c = A c) ∧ (∀ s, s ≠ 2 → s ≠ 3 → m 44 s = A 44 s)
abbrev Fb (B m : qM) : Prop := (∀ c, c ≠ 78 → c ≠ 96 → c ≠ 97 → m c = B c) ∧ (∀ s, 288 ≤ s → m 78 s = B 78 s)
theorem fr_att {n : Nat} (hn : 200000 ≤ n) {t j p k : Nat} (ht : t = 7 ∨ t = 25) (hj : q_isLaw j) (hp : p < 8) (hk : k < 12) (w : Int32) (hw : 0 ≤ w.toInt ∧ w.toInt ≤ 8) (A : qM) (gA : G A) : qP (f_X0_attempt n t j (nI p) (nI k) w A) (fun v m => ((-2) ≤ v.toInt ∧ v.toInt ≤ 1) ∧ G m ∧ Fa t A m) := by
  have tp : (nI p).toInt = (p : Int) := nI_toInt (by omega)
  have tk : (nI k).toInt = (k : Int) := nI_toInt (by omega)
  rcases ht with rfl | rfl
  · exact P_mono (P_T (t_X0_attempt_c7 hn hj (nI p) (nI k) w A gA (by omega) (by omega) hw)) (fun v m h => ⟨h.1, h.2.1, fun c q2 q3 q4 a b d e => funext (fun s => h.2.2 c s (al2 (by omega) (al2 (by omega) (al2 (by omega) (al2 (by omega) al0))))), fun s h2 h3 => h.2.2 44 s (al2 (by omega) (al2 (by omega) (al2 (by omega) (al2 (by omega) al0))))⟩)
  · exact P_mono (P_T (t_X0_attempt_c25 hn hj (nI p) (nI k) w A gA (by omega) (by omega) hw)) (fun v m h => ⟨h.1, h.2.1, fun c q2 q3 q4 a b d e => funext (fun s => h.2.2 c s (al2 (by omega) (al2 (by omega) (al2 (by omega) (al2 (by omega) al0))))), fun s h2 h3 => h.2.2 44 s (al2 (by omega) (al2 (by omega) (al2 (by omega) (al2 (by omega) al0))))⟩)
theorem fr_now {n : Nat} (hn : 200000 ≤ n) {p k : Nat} (hp : p < 8) (hk : k < 12) (w : Int32) (hw : 0 ≤ w.toInt ∧ w.toInt ≤ 8) (B : qM) (gB : G B) : qP (f_X12_triesNow n (nI p) (nI k) w B) (fun v m => ((-2) ≤ v.toInt ∧ v.toInt ≤ 1) ∧ G m ∧ Fb B m) := by
  have tp : (nI p).toInt = (p : Int) := nI_toInt (by omega)
  have tk : (nI k).toInt = (k : Int) := nI_toInt (by omega)
  exact P_mono (P_T (t_X12_triesNow hn (nI p) (nI k) w B gB (by omega) (by omega) hw)) (fun v m h => ⟨h.1, h.2.1, fun c a b d => funext (fun s => h.2.2 c s (al2 (by omega) (al2 (by omega) al0))), fun s h2 => h.2.2 78 s (al2 (by omega) (al2 (by omega) al0))⟩)
theorem RE_cg {t j : Nat} {C : List Int} {K : List Kl} {A A' B B' : qM} (h : RE t j C K A B) (gA : G A') (gB : G B') (e0 : ∀ c, 3 ≤ c → c ≤ 6 → A' c = A c) (e1 : ∀ q, q ≤ 6 → A' (j + q) = A (j + q)) (e2 : ∀ c, c ≤ 4 → A' (t + c) = A (t + c)) (f0 : B' 77 6 = B 77 6) (f1 : B' 77 17 = B 77 17) (f2 : ∀ c, 81 ≤ c → c ≤ 95 → B' c = B c) (f3 : ∀ i, i < 296 ∨ i = 312 ∨ i = 313 → B' 78 i = B 78 i) : RE t j C K A' B' := by
  obtain ⟨_, ⟨hL, hM⟩, hD, hR, hO⟩ := h
  refine ⟨⟨gA, gB⟩, ⟨LJ_cg hL e1, LM_cg hM (fun c h1 h2 => f2 c (by omega) h2) f1⟩, KD_2 hD e0 f0 (fun c h1 h2 => f2 c h1 (by omega)), RC_cg hR (e2 2 (by decide)) (e2 3 (by decide)) (e2 4 (by decide)) (fun i hi => f3 i (by omega)), RO_cg hO ?_ ?_ (e2 1 (by decide)) (fun i h1 h2 => f3 i (by omega))⟩
  · rw [show A' t = A t from e2 0 (by decide)]
  · rw [show A' t = A t from e2 0 (by decide)]
theorem try_RE {n : Nat} (hn : 200000 ≤ n) {t j p k : Nat} (ht : t = 7 ∨ t = 25) (hj : q_isLaw j) (hp : p < 8) (hk : k < 12) {C : List Int} {K : List Kl} (hK : Kg (cdl C) C.length K) (h240 : C.length ≤ 240) (w : Int32) (hw : 0 ≤ w.toInt ∧ w.toInt ≤ 8) {A B m1 m2 : qM} {v1 v2 : Int32} (h : RE t j C K A B) (htold : bitI (A 3 3) k) (e1 : f_X0_attempt n t j (nI p) (nI k) w A = some (v1, m1)) (e2 : f_X12_triesNow n (nI p) (nI k) w B = some (v2, m2)) : v1 = v2 ∧ ((-2) ≤ v1.toInt ∧ v1.toInt ≤ 1) ∧ RE t j C K m1 m2 ∧ Fa t A m1 ∧ Fb B m2 := by
  obtain ⟨⟨gA, gB⟩, ⟨hL, hM⟩, hD, hR, hO⟩ := h
  obtain ⟨ev, hR2⟩ := try_ag hn ht hj hp hk hK h240 w hw gA gB hL hM hD hR hO.2.1 htold e1 e2
  obtain ⟨a1, a2, a3, a4⟩ := fr_att hn ht hj hp hk w hw A gA v1 m1 e1
  obtain ⟨b1, b2, b3, b4⟩ := fr_now hn hp hk w hw B gB v2 m2 e2
  have nt : ∀ c, t ≤ c → c ≤ t + 8 → c ≠ 34 ∧ c ≠ 35 ∧ c ≠ 36 ∧ c ≠ 44 := by rcases ht with rfl | rfl <;> intro c _ _ <;> omega
  have q : ∀ c, t ≤ c → c ≤ t + 8 → c ≠ t + 2 → c ≠ t + 3 → c ≠ t + 4 → m1 c = A c := fun c h1 h2 h3 h4 h5 => a3 c h3 h4 h5 (nt c h1 h2).1 (nt c h1 h2).2.1 (nt c h1 h2).2.2.1 (nt c h1 h2).2.2.2
  refine ⟨ev, a1, ⟨⟨a2, b2⟩, ⟨LJ_cg hL (fun q hq => ?_), LM_cg hM (fun c h1 h2 => b3 c (by omega) (by omega) (by omega)) (by rw [b3 77 (by decide) (by decide) (by decide)])⟩, KD_2 hD (fun c h1 h2 => ?_) (by rw [b3 77 (by decide) (by decide) (by decide)]) (fun c h1 h2 => b3 c (by omega) (by omega) (by omega)), hR2, ?_⟩, ⟨a3, a4⟩, b3, b4⟩
  · rcases hj with rfl | rfl <;> rcases ht with rfl | rfl <;> exact a3 _ (by omega) (by omega) (by omega) (by omega) (by omega) (by omega) (by omega)
  · rcases ht with rfl | rfl <;> exact a3 c (by omega) (by omega) (by omega) (by omega) (by omega) (by omega) (by omega)
  · exact RO_cg hO (by rw [q t (by omega) (by omega) (by omega) (by omega) (by omega)]) (by rw [q t (by omega) (by omega) (by omega) (by omega) (by omega)]) (q (t + 1) (by omega) (by omega) (by omega) (by omega) (by omega)) (fun i h1 _ => b4 i h1)
/-! what is noted of a try -/
theorem c_note16 {n : Nat} (a1 a2 a3 a4 : Int32) (M : qM) : qP (f_X0_noteOutcome_16 n a1 a2 a3 a4 M) (fun _ m => (∀ c, c ≠ 44 → m c = M c) ∧ (∀ s, s ≠ 7 → s ≠ 8 → s ≠ 9 → m 44 s = M 44 s) ∧ m 44 7 = (if a4 = (-2 : Int32) ∧ M 44 7 = (-2 : Int32) then a1 else M 44 7) ∧ m 44 8 = (if a4 = (-2 : Int32) ∧ M 44 7 = (-2 : Int32) then a2 else M 44 8) ∧ m 44 9 = (if a4 = (-2 : Int32) ∧ M 44 7 = (-2 : Int32) then a3 else M 44 9)) := by
  unfold f_X0_noteOutcome_16
  refine P_if (fun c1 => P_if (fun c2 => P_m (fun m1 x1 x2 x3 => P_m (fun m2 y1 y2 y3 => P_m (fun m3 z1 z2 z3 => P_ret ⟨fun c hc => by rw [z3 c hc, y3 c hc, x3 c hc], fun s h7 h8 h9 => by rw [z2 s h9, y2 s h8, x2 s h7], ?_, ?_, ?_⟩)))) (fun c2 => P_ret ⟨fun _ _ => rfl, fun _ _ _ _ => rfl, ?_, ?_, ?_⟩)) (fun c1 => P_ret ⟨fun _ _ => rfl, fun _ _ _ _ => rfl, ?_, ?_, ?_⟩)
  · rw [if_pos (And.intro c1 c2), z2 7 (by decide), y2 7 (by decide), x1]
  · rw [if_pos (And.intro c1 c2), z2 8 (by decide), y1]
  · rw [if_pos (And.intro c1 c2), z1]
  · rw [if_neg (fun z => c2 z.2)]
  · rw [if_neg (fun z => c2 z.2)]
  · rw [if_neg (fun z => c2 z.2)]
  · rw [if_neg (fun z => c1 z.1)]
  · rw [if_neg (fun z => c1 z.1)]
  · rw [if_neg (fun z => c1 z.1)]
theorem c_note {n : Nat} (a1 a2 a3 a4 : Int32) (M : qM) : qP (f_X0_noteOutcome n a1 a2 a3 a4 M) (fun _ m => (∀ c, c ≠ 44 → m c = M c) ∧ (∀ s, s ≠ 5 → s ≠ 7 → s ≠ 8 → s ≠ 9 → m 44 s = M 44 s) ∧ m 44 5 = (if a4 = (1 : Int32) then M 44 5 + 1 else M 44 5) ∧ m 44 7 = (if a4 = (-2 : Int32) ∧ M 44 7 = (-2 : Int32) then a1 else M 44 7) ∧ m 44 8 = (if a4 = (-2 : Int32) ∧ M 44 7 = (-2 : Int32) then a2 else M 44 8) ∧ m 44 9 = (if a4 = (-2 : Int32) ∧ M 44 7 = (-2 : Int32) then a3 else M 44 9)) := by
  unfold f_X0_noteOutcome
  refine P_if (fun c => P_m (fun m1 x1 x2 x3 => P_mono (c_note16 a1 a2 a3 a4 m1) (fun v m h => ?_))) (fun c => P_mono (c_note16 a1 a2 a3 a4 M) (fun v m h => ?_))
  · obtain ⟨h1, h2, h3, h4, h5⟩ := h
    rw [x2 7 (by decide)] at h3 h4 h5
    rw [x2 8 (by decide)] at h4
    rw [x2 9 (by decide)] at h5
    exact ⟨fun c hc => by rw [h1 c hc, x3 c hc], fun s h5 h7 h8 h9 => by rw [h2 s h7 h8 h9, x2 s h5], by rw [h2 5 (by decide) (by decide) (by decide), x1, if_pos c], h3, h4, h5⟩
  · obtain ⟨h1, h2, h3, h4, h5⟩ := h
    exact ⟨h1, fun s _ h7 h8 h9 => h2 s h7 h8 h9, by rw [h2 5 (by decide) (by decide) (by decide), if_neg c], h3, h4, h5⟩
theorem d_note40 {n : Nat} (a1 a2 a3 s1 s2 : Int32) (M : qM) : qP (f_X12_notesTry_40 n a1 a2 a3 s1 s2 M) (fun _ m => (∀ c, c ≠ 77 → m c = M c) ∧ (∀ s, s ≠ 38 → s ≠ 40 → s ≠ 41 → s ≠ 42 → m 77 s = M 77 s) ∧ m 77 38 = s1 + s2 ∧ m 77 40 = (if a3 = (-2 : Int32) ∧ M 77 40 = (-2 : Int32) then M 78 313 else M 77 40) ∧ m 77 41 = (if a3 = (-2 : Int32) ∧ M 77 40 = (-2 : Int32) then a1 else M 77 41) ∧ m 77 42 = (if a3 = (-2 : Int32) ∧ M 77 40 = (-2 : Int32) then a2 else M 77 42)) := by
  unfold f_X12_notesTry_40
  refine P_m (fun m0 w1 w2 w3 => P_if (fun c1 => P_if (fun c2 => P_m (fun m1 x1 x2 x3 => P_m (fun m2 y1 y2 y3 => P_m (fun m3 z1 z2 z3 => P_ret ?_)))) (fun c2 => P_ret ?_)) (fun c1 => P_ret ?_))
  · rw [w2 40 (by decide)] at c2
    refine ⟨fun c hc => by rw [z3 c hc, y3 c hc, x3 c hc, w3 c hc], fun s h0 h7 h8 h9 => by rw [z2 s h9, y2 s h8, x2 s h7, w2 s h0], by rw [z2 38 (by decide), y2 38 (by decide), x2 38 (by decide), w1], ?_, ?_, ?_⟩
    · rw [if_pos (And.intro c1 c2), z2 40 (by decide), y2 40 (by decide), x1, w3 78 (by decide)]
    · rw [if_pos (And.intro c1 c2), z2 41 (by decide), y1]
    · rw [if_pos (And.intro c1 c2), z1]
  · rw [w2 40 (by decide)] at c2
    refine ⟨fun c hc => w3 c hc, fun s h0 _ _ _ => w2 s h0, w1, ?_, ?_, ?_⟩
    · rw [if_neg (fun z => c2 z.2), w2 40 (by decide)]
    · rw [if_neg (fun z => c2 z.2), w2 41 (by decide)]
    · rw [if_neg (fun z => c2 z.2), w2 42 (by decide)]
  · refine ⟨fun c hc => w3 c hc, fun s h0 _ _ _ => w2 s h0, w1, ?_, ?_, ?_⟩
    · rw [if_neg (fun z => c1 z.1), w2 40 (by decide)]
    · rw [if_neg (fun z => c1 z.1), w2 41 (by decide)]
    · rw [if_neg (fun z => c1 z.1), w2 42 (by decide)]
theorem d_note {n k : Nat} (hk : k < 12) (a1 a3 : Int32) (M : qM) : qP (f_X12_notesTry n a1 (nI k) a3 M) (fun _ m => (∀ c, c ≠ 77 → m c = M c) ∧ (∀ s, s < 37 ∨ 42 < s → m 77 s = M 77 s) ∧ (m 77 37 = M 77 37 + 1 ∧ m 77 38 = (if a3 = (1 : Int32) then M 77 38 + 1 else M 77 38) ∧ m 77 39 = M 77 39 + M 81 k) ∧ m 77 40 = (if a3 = (-2 : Int32) ∧ M 77 40 = (-2 : Int32) then M 78 313 else M 77 40) ∧ m 77 41 = (if a3 = (-2 : Int32) ∧ M 77 40 = (-2 : Int32) then a1 else M 77 41) ∧ m 77 42 = (if a3 = (-2 : Int32) ∧ M 77 40 = (-2 : Int32) then nI k else M 77 42)) := by
  have ek : (nI k).toNatClampNeg = k := by rw [tnc, nI_toInt (by omega)]; rfl
  unfold f_X12_notesTry
  refine P_m (fun m1 x1 x2 x3 => P_qg (fun _ _ => ?_))
  rw [ek]
  refine P_m (fun m2 y1 y2 y3 => ?_)
  have fin : ∀ (s2 v : Int32) (m : qM), ((∀ c, c ≠ 77 → m c = m2 c) ∧ (∀ s, s ≠ 38 → s ≠ 40 → s ≠ 41 → s ≠ 42 → m 77 s = m2 77 s) ∧ m 77 38 = m2 77 38 + s2 ∧ m 77 40 = (if a3 = (-2 : Int32) ∧ m2 77 40 = (-2 : Int32) then m2 78 313 else m2 77 40) ∧ m 77 41 = (if a3 = (-2 : Int32) ∧ m2 77 40 = (-2 : Int32) then a1 else m2 77 41) ∧ m 77 42 = (if a3 = (-2 : Int32) ∧ m2 77 40 = (-2 : Int32) then nI k else m2 77 42)) → (M 77 38 + s2 = (if a3 = (1 : Int32) then M 77 38 + 1 else M 77 38)) → (∀ c, c ≠ 77 → m c = M c) ∧ (∀ s, s < 37 ∨ 42 < s → m 77 s = M 77 s) ∧ (m 77 37 = M 77 37 + 1 ∧ m 77 38 = (if a3 = (1 : Int32) then M 77 38 + 1 else M 77 38) ∧ m 77 39 = M 77 39 + M 81 k) ∧ m 77 40 = (if a3 = (-2 : Int32) ∧ M 77 40 = (-2 : Int32) then M 78 313 else M 77 40) ∧ m 77 41 = (if a3 = (-2 : Int32) ∧ M 77 40 = (-2 : Int32) then a1 else M 77 41) ∧ m 77 42 = (if a3 = (-2 : Int32) ∧ M 77 40 = (-2 : Int32) then nI k else M 77 42) := by
    rintro s2 v m ⟨h1, h2, h3, h4, h5, h6⟩ hs
    rw [y2 40 (by decide), x2 40 (by decide)] at h4 h5 h6
    rw [y3 78 (by decide), x3 78 (by decide)] at h4
    rw [y2 41 (by decide), x2 41 (by decide)] at h5
    rw [y2 42 (by decide), x2 42 (by decide)] at h6
    rw [y2 38 (by decide), x2 38 (by decide), hs] at h3
    refine ⟨fun c hc => by rw [h1 c hc, y3 c hc, x3 c hc], fun s hq => by rw [h2 s (by omega) (by omega) (by omega) (by omega), y2 s (by omega), x2 s (by omega)], ⟨?_, h3, ?_⟩, h4, h5, h6⟩
    · rw [h2 37 (by decide) (by decide) (by decide) (by decide), y2 37 (by decide), x1]
    · rw [h2 39 (by decide) (by decide) (by decide) (by decide), y1, x2 39 (by decide), x3 81 (by decide)]
  refine P_if (fun c => ?_) (fun c => ?_)
  · exact P_mono (d_note40 a1 (nI k) a3 (m2 77 38) 1 m2) (fun v m h => fin 1 v m h (by rw [if_pos c]))
  · exact P_mono (d_note40 a1 (nI k) a3 (m2 77 38) 0 m2) (fun v m h => fin 0 v m h (by rw [if_neg c, Int32.add_zero]))
/-! who is told, and what -/
theorem kn_2 {n : Nat} {A B : qM} (hD : KD A B) (a : Int32) : ∃ r : Int32, f_X2_knows n a A = some (r, A) ∧ f_X12_isKind n a B = some (r, B) ∧ ((r = 0 ∧ ∀ k : Nat, k < 12 → a = nI k → ¬ bitI (A 3 3) k) ∨ (r = 1 ∧ ∃ k : Nat, k < 12 ∧ a = nI k ∧ bitI (A 3 3) k)) := by
  by_cases c : 0 ≤ a.toInt ∧ a.toInt < 12
  · obtain ⟨k, hk, rfl⟩ := in12 c
    by_cases b : bitI (A 3 3) k
    · refine ⟨1, ?_, ?_, Or.inr ⟨rfl, k, hk, rfl, b⟩⟩
      · rw [c_kn hk, if_pos b]
      · rw [d_kn hk, ← hD.1, if_pos b]
    · refine ⟨0, ?_, ?_, Or.inl ⟨rfl, fun k' hk' e => ?_⟩⟩
      · rw [c_kn hk, if_neg b]
      · rw [d_kn hk, ← hD.1, if_neg b]
      · rw [← nI_inj (by omega) (by omega) e]; exact b
  · refine ⟨0, (kn_out A c).1, (kn_out B c).2, Or.inl ⟨rfl, fun k hk e => absurd ?_ c⟩⟩
    rw [e, nI_toInt (by omega)]; omega
theorem pn_2 {n t : Nat} {A B : qM} (h8 : A t 8 = B 78 312) (a : Int32) : ∃ r : Int32, f_X10_knows n t a A = some (r, A) ∧ f_X12_isPerson n a B = some (r, B) ∧ (r = 0 ∨ (r = 1 ∧ ∃ p : Nat, p < 8 ∧ a = nI p)) := by
  unfold f_X10_knows f_X12_isPerson f_X12_has0
  by_cases c1 : a < (0 : Int32)
  · exact ⟨0, by rw [if_pos c1], by rw [if_pos c1], Or.inl rfl⟩
  by_cases c2 : (8 : Int32) ≤ a
  · exact ⟨0, by rw [if_neg c1, if_pos c2], by rw [if_neg c1, if_pos c2], Or.inl rfl⟩
  by_cases c3 : ((A t 8 >>> (a &&& 31)) &&& (1 : Int32)) = (1 : Int32)
  · refine ⟨1, by rw [if_neg c1, if_neg c2, if_pos c3], ?_, Or.inr ⟨rfl, a.toInt.toNat, ?_, ?_⟩⟩
    · rw [if_neg c1, if_neg c2, ← h8, if_pos c3, qc_v, if_neg (show ¬ (1 : Int32) = 0 by decide)]
    · rw [Int32.lt_iff_toInt_lt, l_0] at c1
      rw [Int32.le_iff_toInt_le, l_8] at c2
      omega
    · rw [Int32.lt_iff_toInt_lt, l_0] at c1
      exact nI_i (by omega)
  · refine ⟨0, by rw [if_neg c1, if_neg c2, if_neg c3], ?_, Or.inl rfl⟩
    rw [if_neg c1, if_neg c2, ← h8, if_neg c3, qc_v, if_pos (show (0 : Int32) = 0 by rfl)]
/-! a day's steps on both sides -/
theorem RP_st {t p : Nat} {A A' B B' : qM} (hp : p < 8) (h : RP t 78 A B) (e5 : A' (t + 5) = A (t + 5)) (e6 : A' (t + 6) = A (t + 6)) (e7 : A' (t + 7) = A (t + 7)) (e8 : ∀ q, q ≠ p → A' (t + 8) q = A (t + 8) q) (e8p : A' (t + 8) p = A (t + 8) p + 1) (f : ∀ i, 296 ≤ i → i ≠ 304 + p → i < 312 ∨ 314 ≤ i → B' 78 i = B 78 i) (fp : B' 78 (304 + p) = B 78 (304 + p) + 1) : RP t 78 A' B' := by
  intro q hq
  obtain ⟨h1, h2, h3⟩ := h q hq
  refine ⟨by rw [e7, f _ (by omega) (by omega) (by omega)]; exact h1, ?_, fun s hs hs2 => ?_⟩
  · by_cases c : q = p
    · rw [c, e8p, fp, ← c, h2]
    · rw [e8 q c, f _ (by omega) (by omega) (by omega)]; exact h2
  · rw [e7] at hs2
    rw [e5, e6, f _ (by omega) (by omega) (by omega), f _ (by omega) (by omega) (by omega)]
    exact h3 s hs hs2
abbrev RA (t j : Nat) (C : List Int) (K : List Kl) (A B : qM) : Prop := RE t j C K A B ∧ RP t 78 A B ∧ RN A B
theorem tjne {t j : Nat} (ht : t = 7 ∨ t = 25) (hj : q_isLaw j) : (∀ q c, q ≤ 6 → c ≤ 8 → j + q ≠ t + c ∧ j + q ≠ 44) ∧ (∀ c, c ≤ 8 → t + c ≠ 44 ∧ (t + c < 34 ∨ 36 < t + c)) ∧ ∀ c d, 3 ≤ c → c ≤ 6 → c ≠ t + d ∧ c ≠ 44 := by
  rcases ht with rfl | rfl <;> rcases hj with rfl | rfl <;> exact ⟨fun q c _ _ => by omega, fun c _ => by omega, fun c d _ _ => by omega⟩
theorem G_s8 {t : Nat} (ht : t = 7 ∨ t = 25) {M : qM} (hG : G M) {p : Nat} {v : Int32} (h : 0 ≤ v.toInt ∧ v.toInt ≤ 40) : G (mu M (t + 8) p v) := by
  rcases ht with rfl | rfl
  · exact G_mu (c := 15) hG h (nw_15 _)
  · exact G_mu (c := 33) hG h (nw_33 _)
theorem G_44 {M : qM} (hG : G M) {s : Nat} {v : Int32} : G (mu M 44 s v) := G_mu hG trivial ⟨by decide, by decide, by decide, by decide, fun h => absurd h (by decide), by decide, by decide⟩
theorem G_77f {M : qM} (hG : G M) {s : Nat} {v : Int32} (h : 37 ≤ s ∧ s ≤ 42) : G (mu M 77 s v) := by
  refine G_mu hG ?_ ⟨by decide, by decide, by decide, by decide, fun _ => by omega, by decide, by decide⟩
  rcases (show s = 37 ∨ s = 38 ∨ s = 39 ∨ s = 40 ∨ s = 41 ∨ s = 42 by omega) with rfl | rfl | rfl | rfl | rfl | rfl <;> exact trivial
theorem G_s304 {M : qM} (hG : G M) {p : Nat} (hp : p < 8) {v : Int32} (h : 0 ≤ v.toInt ∧ v.toInt ≤ 40) : G (mu M 78 (304 + p) v) := by
  refine G_mu hG ?_ (nw_78 _)
  have e : rng 78 (304 + p) = some (0, 40) := by
    unfold rng
    rw [if_pos (Or.inl rfl), if_pos (by omega)]
  unfold Rin
  rw [e]
  exact h
theorem ix78 {p : Nat} (hp : p < 8) : ((304 : Int32) + nI p).toNatClampNeg = 304 + p ∧ ((296 : Int32) + nI p).toNatClampNeg = 296 + p ∧ ((288 : Int32) + nI p).toNatClampNeg = 288 + p := by
  have tp : (nI p).toInt = (p : Int) := nI_toInt (by omega)
  refine ⟨?_, ?_, ?_⟩
  · rw [tnc, i_add l_304 tp (by omega) (by omega)]; omega
  · rw [tnc, i_add l_296 tp (by omega) (by omega)]; omega
  · rw [tnc, i_add l_288 tp (by omega) (by omega)]; omega
theorem ix40 {p i : Nat} (hp : p < 8) (hi : i < 40) : (nI p * (40 : Int32) + nI i).toNatClampNeg = 40 * p + i ∧ ((314 : Int32) + ((40 : Int32) * nI p + nI i)).toNatClampNeg = 314 + (40 * p + i) ∧ ((634 : Int32) + ((40 : Int32) * nI p + nI i)).toNatClampNeg = 634 + (40 * p + i) := by
  have tp : (nI p).toInt = (p : Int) := nI_toInt (by omega)
  have ti : (nI i).toInt = (i : Int) := nI_toInt (by omega)
  have h1 : ((40 : Int32) * nI p + nI i).toInt = 40 * (p : Int) + (i : Int) := i_add (i_mul l_40 tp (by omega) (by omega)) ti (by omega) (by omega)
  refine ⟨?_, ?_, ?_⟩
  · rw [tnc, i_add (i_mul tp l_40 (by omega) (by omega)) ti (by omega) (by omega)]; omega
  · rw [tnc, i_add l_314 h1 (by omega) (by omega)]; omega
  · rw [tnc, i_add l_634 h1 (by omega) (by omega)]; omega
theorem steps_ag {n : Nat} (hn : 200000 ≤ n) {t j p : Nat} (ht : t = 7 ∨ t = 25) (hj : q_isLaw j) (hp : p < 8) {C : List Int} {K : List Kl} (hK : Kg (cdl C) C.length K) (h240 : C.length ≤ 240) : ∀ (m m' : Nat) (a3 a4 : Int32) (A B : qM), RA t j C K A B → a4 = A (t + 8) p → q2 (f_X0_doSteps_11 n t j m (nI p) a3 a4 A) (f_X12_dayOf_3 n m' (nI p) a3 B) (fun _ m1 _ m2 => RA t j C K m1 m2) := by
  intro m
  induction m with
  | zero => intro m' a3 a4 A B _ _; exact q2_n1
  | succ m ih =>
    intro m' a3 a4 A B hA h4
    rcases m' with _ | m'
    · exact q2_n2
    show q2 (b_X0_doSteps_11 n t j (f_X0_doSteps_11 n t j m) (nI p) a3 a4 A) (b_X12_dayOf_3 n (f_X12_dayOf_3 n m') (nI p) a3 B) _
    unfold b_X0_doSteps_11 b_X12_dayOf_3
    obtain ⟨hE, hP, hN⟩ := hA
    have tp : (nI p).toInt = (p : Int) := nI_toInt (by omega)
    have ep : (nI p).toNatClampNeg = p := by rw [tnc, tp]; rfl
    obtain ⟨ne1, ne2, ne3⟩ := tjne ht hj
    obtain ⟨e304, e296, _⟩ := ix78 hp
    obtain ⟨hp7, hp8, hst⟩ := hP p hp
    refine q2_g1 (fun _ _ => q2_g2 (fun _ _ => q2_g2 (fun _ _ => ?_)))
    rw [ep, e304, e296]
    refine q2_i (by rw [hp7, h4, hp8]) (fun _ => q2_ret ⟨hE, hP, hN⟩) (fun c => ?_)
    have r7 : 0 ≤ (A (t + 7) p).toInt ∧ (A (t + 7) p).toInt ≤ 40 := by rcases ht with rfl | rfl; exact hE.1.1.1 14 p; exact hE.1.1.1 32 p
    have r8 : 0 ≤ (A (t + 8) p).toInt ∧ (A (t + 8) p).toInt ≤ 40 := by rcases ht with rfl | rfl; exact hE.1.1.1 15 p; exact hE.1.1.1 33 p
    rw [Int32.le_iff_toInt_le, h4] at c
    obtain ⟨i, hi, ei⟩ : ∃ i : Nat, i < 40 ∧ A (t + 8) p = nI i := ⟨(A (t + 8) p).toInt.toNat, by omega, nI_i (by omega)⟩
    have ti : (nI i).toInt = (i : Int) := nI_toInt (by omega)
    obtain ⟨hk5, hk6⟩ := hst i hi (by rw [ei, ti] at c; omega)
    obtain ⟨x40, x314, x634⟩ := ix40 hp hi
    have e8 : B 78 (304 + p) = nI i := by rw [← hp8, ei]
    have ea4 : a4 = nI i := by rw [h4, ei]
    rw [ea4, e8]
    refine q2_g1 (fun _ _ => q2_v1 (q2_g1 (fun _ _ => q2_v1 ?_)))
    refine q2_g2 (fun _ _ => q2_v2 (q2_g2 (fun _ _ => q2_v2 (q2_g2 (fun _ _ => q2_v2 ?_)))))
    rw [x40, x314, x634, ← hk5, ← hk6]
    generalize A (t + 5) (40 * p + i) = kk
    generalize A (t + 6) (40 * p + i) = ww
    have ti1 : (nI i + 1).toInt = (i : Int) + 1 := i_add ti l_1 (by omega) (by omega)
    have skip : q2 (f_X0_doSteps_162 n t j (f_X0_doSteps_11 n t j m) (nI p) a3 (nI i) A) (f_X12_dayOf_101 n (f_X12_dayOf_3 n m') (nI p) a3 kk ww B) (fun _ m1 _ m2 => RA t j C K m1 m2) := by
      unfold f_X0_doSteps_162 f_X12_dayOf_101 f_X12_dayOf_102 f_X12_dayOf_121
      refine q2_i2 (fun _ => ?_) (fun z => absurd rfl z)
      refine q2_g1 (fun _ _ => q2_g2 (fun _ _ => q2_g2 (fun _ _ => ?_)))
      rw [ep, e304, e8]
      refine q2_m1 (fun m1 em1 x1 x2 x3 => q2_v1 (q2_m2 (fun m2 em2 y1 y2 y3 => ?_)))
      refine q2_i2 (fun _ => ?_) (fun z => absurd rfl z)
      have g1 : G m1 := by rw [em1]; exact G_s8 ht hE.1.1 (by rw [ti1]; omega)
      have g2 : G m2 := by rw [em2]; exact G_s304 hE.1.2 hp (by rw [ti1]; omega)
      refine ih m' a3 (nI i + 1) m1 m2 ⟨RE_cg hE g1 g2 (fun c h1 h2 => x3 c (ne3 c 8 h1 h2).1) (fun q hq => x3 _ (ne1 q 8 hq (by decide)).1) (fun c hc => x3 _ (by omega)) (by rw [y3 77 (by decide)]) (by rw [y3 77 (by decide)]) (fun c h1 h2 => y3 c (by omega)) (fun i hi => y2 i (by omega)), RP_st (p := p) hp hP (x3 _ (by omega)) (x3 _ (by omega)) (x3 _ (by omega)) (fun q hq => x2 q hq) (by rw [x1, ei]) (fun i h1 h2 h3 => y2 i h2) (by rw [y1, e8]), ?_⟩ x1.symm
      unfold RN
      rw [x3 44 (ne2 8 (by decide)).1.symm, y3 77 (by decide)]
      exact hN
    have go : ∀ k : Nat, k < 12 → kk = nI k → bitI (A 3 3) k → 0 ≤ ww.toInt ∧ ww.toInt ≤ 8 → q2 (f_X0_doSteps_84 n t j (f_X0_doSteps_11 n t j m) (nI p) a3 (nI i) kk ww A) (f_X12_dayOf_102 n (f_X12_dayOf_3 n m') (nI p) a3 kk ww 1 B) (fun _ m1 _ m2 => RA t j C K m1 m2) := by
      intro k hk ekk hb hw
      rw [ekk]
      have tk : (nI k).toInt = (k : Int) := nI_toInt (by omega)
      have ek : (nI k).toNatClampNeg = k := by rw [tnc, tk]; rfl
      have e4 : A 4 k = B 81 k := (hE.2.2.1.2.2 k hk).1
      unfold f_X0_doSteps_84 f_X12_dayOf_102 f_X12_dayOf_121
      refine q2_g1 (fun _ _ => q2_i2 (fun z => absurd z (by decide)) (fun _ => q2_g2 (fun _ _ => ?_)))
      rw [ek]
      refine q2_i (by rw [e4]) (fun _ => ?_) (fun _ => q2_ret ⟨hE, hP, hN⟩)
      refine q2_g1 (fun _ _ => q2_v1 (q2_g1 (fun _ _ => q2_m1 (fun mA ema xa1 xa2 xa3 => q2_m1 (fun mB emb xb1 xb2 xb3 => ?_)))))
      refine q2_g2 (fun _ _ => q2_g2 (fun _ _ => ?_))
      rw [e304, e8]
      refine q2_m2 (fun nA ena y1 y2 y3 => ?_)
      refine q2_i2 (fun z => absurd z (by decide)) (fun _ => q2_g2 (fun _ _ => q2_v2 ?_))
      have gB' : G mB := by rw [emb]; exact G_44 (by rw [ema]; exact G_44 hE.1.1)
      have gA' : G nA := by rw [ena]; exact G_s304 hE.1.2 hp (by rw [ti1]; omega)
      have oB : ∀ c, c ≠ 44 → mB c = A c := fun c hc => by rw [xb3 c hc, xa3 c hc]
      have oA : ∀ c, c ≠ 78 → nA c = B c := y3
      have hE' : RE t j C K mB nA := RE_cg hE gB' gA' (fun c h1 h2 => oB c (ne3 c 0 h1 h2).2) (fun q hq => oB _ (ne1 q 0 hq (by decide)).2) (fun c hc => oB _ (ne2 c (by omega)).1) (by rw [oA 77 (by decide)]) (by rw [oA 77 (by decide)]) (fun c h1 h2 => oA c (by omega)) (fun i hi => y2 i (by omega))
      refine q2_qc (R := fun v1 m1 v2 m2 => v1 = v2 ∧ ((-2) ≤ v1.toInt ∧ v1.toInt ≤ 1) ∧ RE t j C K m1 m2 ∧ Fa t mB m1 ∧ Fb nA m2) (fun v1 m1 v2 m2 e1 e2 => try_RE hn ht hj hp hk hK h240 ww hw hE' (by rw [oB 3 (by decide)]; exact hb) e1 e2) ?_
      rintro v1 m5 v2 m4 ⟨rfl, hv, hE5, ⟨fa, fa44⟩, fb, fb78⟩
      refine q2_c1 (P_and (c_note (mB t 9) (nI p) (nI k) v1 m5) (P_T (t_X0_noteOutcome hn (mB t 9) (nI p) (nI k) v1 m5 hE5.1.1 (by omega) (by omega) hv))) ?_
      rintro _ m6 ⟨⟨c1, c2, c3, c4, c5, c6⟩, _, g6, _⟩
      refine q2_c2 (P_and (d_note hk (nI p) v1 m4) (P_T (t_X12_notesTry hn (nI p) (nI k) v1 m4 hE5.1.2 (by omega) (by omega) hv))) ?_
      rintro _ n5 ⟨⟨d1, d2, ⟨d3, d4, d5⟩, d6, d7, d8⟩, _, h5, _⟩
      unfold f_X0_doSteps_162
      refine q2_g1 (fun _ _ => ?_)
      rw [ep]
      refine q2_m1 (fun m7 em7 z1 z2 z3 => q2_v1 ?_)
      rw [show a3 - nA 81 k = a3 - A 4 k by rw [oA 81 (by decide), e4]]
      have g7 : G m7 := by rw [em7]; exact G_s8 ht g6 (by rw [ti1]; omega)
      have o5 : ∀ c, c ≤ 8 → c ≠ 2 → c ≠ 3 → c ≠ 4 → m6 (t + c) = A (t + c) := fun c h0 h2 h3 h4 => by
        have := ne2 c h0
        rw [c1 _ this.1, fa _ (by omega) (by omega) (by omega) (by omega) (by omega) (by omega) this.1, oB _ this.1]
      have b4 : m4 78 313 = B 78 313 := by rw [fb78 313 (by decide), y2 313 (by omega)]
      refine ih m' (a3 - A 4 k) (nI i + 1) m7 n5 ⟨RE_cg hE5 g7 h5 (fun c q1 q2 => ?_) (fun q hq => ?_) (fun c hc => ?_) (d2 6 (by omega)) (d2 17 (by omega)) (fun c q1 q2 => d1 c (by omega)) (fun i _ => by rw [d1 78 (by decide)]), RP_st (p := p) hp hP ?_ ?_ ?_ (fun q hq => ?_) ?_ (fun i q1 q2 q3 => ?_) ?_, ?_⟩ z1.symm
      · rw [z3 c (ne3 c 8 q1 q2).1, c1 c (ne3 c 8 q1 q2).2]
      · rw [z3 _ (ne1 q 8 hq (by decide)).1, c1 _ (ne1 q 8 hq (by decide)).2]
      · rw [z3 _ (by omega), c1 _ (ne2 c (by omega)).1]
      · rw [z3 _ (by omega), o5 5 (by decide) (by decide) (by decide) (by decide)]
      · rw [z3 _ (by omega), o5 6 (by decide) (by decide) (by decide) (by decide)]
      · rw [z3 _ (by omega), o5 7 (by decide) (by decide) (by decide) (by decide)]
      · rw [z2 q hq, o5 8 (by decide) (by decide) (by decide) (by decide)]
      · rw [z1, ei]
      · rw [d1 78 (by decide), fb78 i (by omega), y2 i q2]
      · rw [d1 78 (by decide), fb78 _ (by omega), y1, e8]
      · obtain ⟨n4, n5', n6, n7, n8, n9⟩ := hN
        have m744 : m7 44 = m6 44 := z3 44 (ne2 8 (by decide)).1.symm
        have q44 : ∀ s, s ≠ 2 → s ≠ 3 → s ≠ 4 → s ≠ 6 → m5 44 s = A 44 s := fun s h2 h3 h4 h6 => by rw [fa44 s h2 h3, xb2 s h4, xa2 s h6]
        have q77 : ∀ s, m4 77 s = B 77 s := fun s => by rw [fb 77 (by decide) (by decide) (by decide), oA 77 (by decide)]
        refine ⟨?_, ?_, ?_, ?_, ?_, ?_⟩
        · rw [m744, c2 4 (by decide) (by decide) (by decide) (by decide), fa44 4 (by decide) (by decide), xb1, xa2 4 (by decide), d3, q77, n4]
        · rw [m744, c3, d4, q44 5 (by decide) (by decide) (by decide) (by decide), q77, n5']
        · rw [m744, c2 6 (by decide) (by decide) (by decide) (by decide), fa44 6 (by decide) (by decide), xb2 6 (by decide), xa1, d5, q77, n6, fb 81 (by decide) (by decide) (by decide), oA 81 (by decide), e4]
        · rw [m744, c4, d6, q44 7 (by decide) (by decide) (by decide) (by decide), q77, n7, b4, oB t (ne2 0 (by decide)).1, hE.2.2.2.2.2.1]
        · rw [m744, c5, d7, q44 7 (by decide) (by decide) (by decide) (by decide), q44 8 (by decide) (by decide) (by decide) (by decide), q77, q77, n7, n8]
        · rw [m744, c6, d8, q44 7 (by decide) (by decide) (by decide) (by decide), q44 9 (by decide) (by decide) (by decide) (by decide), q77, q77, n7, n9]
    obtain ⟨r, ek1, ek2, hr⟩ := kn_2 (n := n) hE.2.2.1 kk
    rw [ek1, ek2, qc_v, qc_v]
    rcases hr with ⟨rfl, _⟩ | ⟨rfl, k, hk, ekk, hb⟩
    · exact q2_i1 (fun _ => q2_i2 (fun _ => skip) (fun z => absurd rfl z)) (fun z => absurd rfl z)
    · refine q2_i1 (fun z => absurd z (by decide)) (fun _ => q2_i2 (fun z => absurd z (by decide)) (fun _ => ?_))
      by_cases w8 : ww = (8 : Int32)
      · have hne : ¬ ww = nI p := by
          rw [w8]; intro z
          have := congrArg Int32.toInt z
          rw [tp, l_8] at this; omega
        rw [if_pos w8, if_neg hne, if_pos w8]
        exact go k hk ekk hb (by rw [w8]; decide)
      · rw [if_neg w8]
        by_cases wp : ww = nI p
        · rw [if_pos wp, if_pos wp]; exact skip
        · rw [if_neg wp, if_neg wp, if_neg w8]
          obtain ⟨r2, ep1, ep2, hr2⟩ := pn_2 (n := n) hE.2.2.2.2.1 ww
          rw [ep1, ep2, qc_v, qc_v]
          rcases hr2 with rfl | ⟨rfl, p2, hp2, ew⟩
          · exact q2_i1 (fun _ => q2_i2 (fun _ => skip) (fun z => absurd rfl z)) (fun z => absurd rfl z)
          · refine q2_i1 (fun z => absurd z (by decide)) (fun _ => q2_i2 (fun z => absurd z (by decide)) (fun _ => ?_))
            exact go k hk ekk hb (by rw [ew, nI_toInt (by omega)]; omega)
/-! days on both sides -/
theorem persons_ag {n : Nat} (hn : 200000 ≤ n) {t j : Nat} (ht : t = 7 ∨ t = 25) (hj : q_isLaw j) {C : List Int} {K : List Kl} (hK : Kg (cdl C) C.length K) (h240 : C.length ≤ 240) {a2 a3 : Int32} {k1 k2 : Int32 → Int32 → qM → qR} {Q : Int32 → qM → Int32 → qM → Prop} (hk : ∀ (x : Int32) (A B : qM), RA t j C K A B → q2 (k1 a2 x A) (k2 a2 x B) Q) : ∀ (m m' q : Nat) (A B : qM), q ≤ 8 → RA t j C K A B → q2 (f_X0_goDays_53 n t j k1 m a2 a3 (nI q) A) (f_X12_daysGo_56 n k2 m' a2 a3 (nI q) B) Q := by
  intro m
  induction m with
  | zero => intro m' q A B _ _; exact q2_n1
  | succ m ih =>
    intro m' q A B hq hA
    rcases m' with _ | m'
    · exact q2_n2
    show q2 (b_X0_goDays_53 n t j k1 (f_X0_goDays_53 n t j k1 m) a2 a3 (nI q) A) (b_X12_daysGo_56 n k2 (f_X12_daysGo_56 n k2 m') a2 a3 (nI q) B) _
    unfold b_X0_goDays_53 b_X12_daysGo_56
    have tq0 : (nI q).toInt = (q : Int) := nI_toInt (by omega)
    obtain ⟨hE, hP, hN⟩ := hA
    obtain ⟨ne1, ne2, ne3⟩ := tjne ht hj
    have hd := hE.2.2.2.2.2.1
    refine q2_i Iff.rfl (fun c => ?_) (fun c => ?_)
    · refine q2_m1 (fun m1 em1 x1 x2 x3 => q2_v1 (q2_m2 (fun m2 em2 y1 y2 y3 => q2_v2 (hk _ _ _ ?_))))
      have g1 : G m1 := by rw [em1]; rcases ht with rfl | rfl; exact G_mu hE.1.1 (rn_7_9 _) (nw_7 _); exact G_mu hE.1.1 (rn_25_9 _) (nw_25 _)
      have g2 : G m2 := by rw [em2]; exact G_mu hE.1.2 (ro78 (Or.inl rfl) (by decide)) (nw_78 _)
      refine ⟨⟨⟨g1, g2⟩, ⟨LJ_cg hE.2.1.1 (fun q hq => x3 _ (ne1 q 0 hq (by decide)).1), LM_cg hE.2.1.2 (fun c h1 h2 => y3 c (by omega)) (by rw [y3 77 (by decide)])⟩, KD_2 hE.2.2.1 (fun c h1 h2 => x3 c (ne3 c 0 h1 h2).1) (by rw [y3 77 (by decide)]) (fun c h1 h2 => y3 c (by omega)), RC_cg hE.2.2.2.1 (x3 _ (by omega)) (x3 _ (by omega)) (x3 _ (by omega)) (fun i hi => y2 i (by omega)), ?_⟩, RP_cg hP (x3 _ (by omega)) (x3 _ (by omega)) (x3 _ (by omega)) (x3 _ (by omega)) (fun i h1 h2 => y2 i (by omega)), ?_⟩
      · refine ⟨by rw [x2 8 (by decide), y2 312 (by decide)]; exact hE.2.2.2.2.1, by rw [x1, y1, hd], fun p hp => ?_⟩
        rw [x3 (t + 1) (by omega), y2 _ (by omega)]
        exact hE.2.2.2.2.2.2 p hp
      · unfold RN
        rw [x3 44 (ne2 0 (by decide)).1.symm, y3 77 (by decide)]
        exact hN
    · have hq8 : q < 8 := by rw [Int32.le_iff_toInt_le, tq0, l_8] at c; omega
      have eq1 : nI q + 1 = nI (q + 1) := nI_i (by rw [i_add tq0 l_1 (by omega) (by omega)]; omega)
      obtain ⟨r, ep1, ep2, hr⟩ := pn_2 (n := n) hE.2.2.2.2.1 (nI q)
      rw [ep1, ep2, qc_v, qc_v, eq1]
      refine q2_i Iff.rfl (fun _ => ?_) (fun _ => ?_)
      · exact q2_v1 (q2_v2 (ih m' (q + 1) A B (by omega) ⟨hE, hP, hN⟩))
      · have ep : (nI q).toNatClampNeg = q := by rw [tnc, tq0]; rfl
        unfold f_X0_doSteps f_X12_dayOf
        refine q2_qc (R := fun _ m1 _ m2 => RA t j C K m1 m2) (q2_g1 (fun _ _ => q2_v1 ?_)) (fun v1 m1 v2 m2 h => q2_v1 (q2_v2 (ih m' (q + 1) m1 m2 (by omega) h)))
        rw [ep]
        exact steps_ag hn ht hj hq8 hK h240 n n 12 (A (t + 8) q) A B ⟨hE, hP, hN⟩ rfl
theorem days35_ag {n : Nat} (hn : 200000 ≤ n) {t j : Nat} (ht : t = 7 ∨ t = 25) (hj : q_isLaw j) {C : List Int} {K : List Kl} (hK : Kg (cdl C) C.length K) (h240 : C.length ≤ 240) {a2 : Int32} : ∀ (m m' : Nat) (x : Int32) (A B : qM), RA t j C K A B → q2 (f_X0_goDays_35 n t j m a2 x A) (f_X12_daysGo_35 n m' a2 x B) (fun _ m1 _ m2 => RA t j C K m1 m2) := by
  intro m
  induction m with
  | zero => intro m' x A B _; exact q2_n1
  | succ m ih =>
    intro m' x A B hA
    rcases m' with _ | m'
    · exact q2_n2
    show q2 (b_X0_goDays_35 n t j (f_X0_goDays_35 n t j m) a2 x A) (b_X12_daysGo_35 n (f_X12_daysGo_35 n m') a2 x B) _
    unfold b_X0_goDays_35 b_X12_daysGo_35
    refine q2_i Iff.rfl (fun _ => q2_ret hA) (fun _ => q2_i (by rw [hA.1.2.2.2.2.2.1]) (fun _ => q2_ret hA) (fun _ => ?_))
    exact persons_ag hn ht hj hK h240 (fun x A B h => ih m' x A B h) n n 0 A B (by decide) hA
theorem go_ag {n : Nat} (hn : 200000 ≤ n) {t j : Nat} (ht : t = 7 ∨ t = 25) (hj : q_isLaw j) {C : List Int} {K : List Kl} (hK : Kg (cdl C) C.length K) (h240 : C.length ≤ 240) (a2 : Int32) (A B : qM) (hE : RE t j C K A B) (hP : RP t 78 A B) : q2 (f_X0_goDays n t j a2 A) (f_X12_daysGo n a2 B) (fun _ m1 _ m2 => RA t j C K m1 m2) := by
  obtain ⟨ne1, ne2, ne3⟩ := tjne ht hj
  unfold f_X0_goDays f_X12_daysGo
  refine q2_m1 (fun m1 q1 a1 a2' a3 => q2_m1 (fun m2 q2' b1 b2 b3 => q2_m1 (fun m3 q3 c1 c2 c3 => q2_m1 (fun m4 q4 d1 d2 d3 => q2_m1 (fun m5 q5 e1 e2 e3 => q2_m1 (fun m6 q6 f1 f2 f3 => ?_))))))
  refine q2_m2 (fun n1 r1 g1 g2 g3 => q2_m2 (fun n2 r2 h1 h2 h3 => q2_m2 (fun n3 r3 i1 i2 i3 => q2_m2 (fun n4 r4 j1 j2 j3 => q2_m2 (fun n5 r5 k1 k2 k3 => q2_m2 (fun n6 r6 l1 l2 l3 => ?_))))))
  have oA : ∀ c, c ≠ 44 → m6 c = A c := fun c hc => by rw [f3 c hc, e3 c hc, d3 c hc, c3 c hc, b3 c hc, a3 c hc]
  have oB : ∀ c, c ≠ 77 → n6 c = B c := fun c hc => by rw [l3 c hc, k3 c hc, j3 c hc, i3 c hc, h3 c hc, g3 c hc]
  have o77 : ∀ s, s ≠ 37 → s ≠ 38 → s ≠ 39 → s ≠ 40 → s ≠ 41 → s ≠ 42 → n6 77 s = B 77 s := fun s y1 y2 y3 y4 y5 y6 => by rw [l2 s y6, k2 s y5, j2 s y4, i2 s y3, h2 s y2, g2 s y1]
  have gA : G m6 := by rw [q6, q5, q4, q3, q2', q1]; exact G_44 (G_44 (G_44 (G_44 (G_44 (G_44 hE.1.1)))))
  have gB : G n6 := by rw [r6, r5, r4, r3, r2, r1]; exact G_77f (G_77f (G_77f (G_77f (G_77f (G_77f hE.1.2 (by decide)) (by decide)) (by decide)) (by decide)) (by decide)) (by decide)
  refine days35_ag hn ht hj hK h240 n n 0 m6 n6 ⟨RE_cg hE gA gB (fun c h1 h2 => oA c (ne3 c 0 h1 h2).2) (fun q hq => oA _ (ne1 q 0 hq (by decide)).2) (fun c hc => oA _ (ne2 c (by omega)).1) (o77 6 (by decide) (by decide) (by decide) (by decide) (by decide) (by decide)) (o77 17 (by decide) (by decide) (by decide) (by decide) (by decide) (by decide)) (fun c h1 h2 => oB c (by omega)) (fun i _ => by rw [oB 78 (by decide)]), RP_cg hP (oA _ (ne2 5 (by decide)).1) (oA _ (ne2 6 (by decide)).1) (oA _ (ne2 7 (by decide)).1) (oA _ (ne2 8 (by decide)).1) (fun i _ _ => by rw [oB 78 (by decide)]), ?_⟩
  refine ⟨?_, ?_, ?_, ?_, ?_, ?_⟩
  · rw [f2 4 (by decide), e2 4 (by decide), d2 4 (by decide), c2 4 (by decide), b2 4 (by decide), a1, l2 37 (by decide), k2 37 (by decide), j2 37 (by decide), i2 37 (by decide), h2 37 (by decide), g1]
  · rw [f2 5 (by decide), e2 5 (by decide), d2 5 (by decide), c2 5 (by decide), b1, l2 38 (by decide), k2 38 (by decide), j2 38 (by decide), i2 38 (by decide), h1]
  · rw [f2 6 (by decide), e2 6 (by decide), d2 6 (by decide), c1, l2 39 (by decide), k2 39 (by decide), j2 39 (by decide), i1]
  · rw [f2 7 (by decide), e2 7 (by decide), d1, l2 40 (by decide), k2 40 (by decide), j1]
  · rw [f2 8 (by decide), e1, l2 41 (by decide), k1]
  · rw [f1, l1]
