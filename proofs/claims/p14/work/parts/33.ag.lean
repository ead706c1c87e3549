/-! LAWS: both ways to go through codes -/
def sk (f : Nat → Int32) : Nat → List Int32
  | 0 => []
  | s + 1 => f s :: sk f s
theorem sk_len {f : Nat → Int32} : ∀ s : Nat, (sk f s).length = s := by
  intro s
  induction s with
  | zero => rfl
  | succ s ih => show (f s :: sk f s).length = _; rw [List.length_cons, ih]
theorem sk_cg {f g : Nat → Int32} : ∀ {s : Nat}, (∀ i, i < s → g i = f i) → sk g s = sk f s := by
  intro s
  induction s with
  | zero => intro _; rfl
  | succ s ih =>
    intro h
    show g s :: sk g s = f s :: sk f s
    rw [h s (by omega), ih (fun i hi => h i (by omega))]
theorem sk_h {f : Nat → Int32} {s : Nat} (h : 1 ≤ s) : (sk f s).headD 0 = f (s - 1) := by
  cases s with
  | zero => omega
  | succ s => rfl
theorem sk_t {f : Nat → Int32} {s : Nat} (h : 1 ≤ s) : (sk f s).tail = sk f (s - 1) := by
  cases s with
  | zero => omega
  | succ s => rfl
theorem sk_push {M : qM} {c i : Nat} {v : Int32} : sk (mu M c i v c) (i + 1) = v :: sk (M c) i := by
  show mu M c i v c i :: sk (mu M c i v c) i = _
  rw [mu_at, sk_cg (fun k hk => mu_ne (Or.inr (by omega)))]
theorem sk_top {M : qM} {c i : Nat} {v : Int32} (h : 1 ≤ i) : sk (mu M c (i - 1) v c) i = v :: (sk (M c) i).tail := by
  have e : i = (i - 1) + 1 := by omega
  rw [sk_t h]
  have := sk_push (M := M) (c := c) (i := i - 1) (v := v)
  rw [← e] at this
  exact this
def rk (o : Int) (x y : Int32) : Int32 := if o = 2 then x + y else if o = 3 then x - y else if o = 4 then x * y else if o = 5 then x / y else if o = 6 then x - x / y * y else if o = 7 then (if y ≤ x then 0 else 1) else if o = 8 then (if x ≤ y then 0 else 1) else (if x = y then 1 else 0)
def evS (cd : Nat → Int) (F : Nat → Int32) (k : Nat) (S : List Int32) : Option (Nat × List Int32) :=
  if cd k / 1048576 = 0 then some (k + 1, Int32.ofInt (cd k % 1048576) :: S)
  else if cd k / 1048576 = 1 then some (k + 1, F (cd k % 1048576).toNat :: S)
  else if cd k / 1048576 = 10 then some (k + 1, (1 - S.headD 0) :: S.tail)
  else if cd k / 1048576 = 11 ∨ cd k / 1048576 = 12 then (if S.headD 0 = (if cd k / 1048576 = 12 then (1 : Int32) else 0) then some ((cd k % 1048576).toNat, S) else some (k + 1, S.tail))
  else if (cd k / 1048576 = 5 ∨ cd k / 1048576 = 6) ∧ S.headD 0 = 0 then none
  else some (k + 1, rk (cd k / 1048576) (S.tail.headD 0) (S.headD 0) :: S.tail.tail)
def ev (cd : Nat → Int) (F : Nat → Int32) (t : Nat) : Nat → Nat → List Int32 → Int32
  | 0, _, _ => 0
  | m + 1, k, S => if t ≤ k then S.headD 0 else match evS cd F k S with
    | none => 0
    | some q => ev cd F t m q.1 q.2
theorem ev_e {cd : Nat → Int} {F : Nat → Int32} {t m k : Nat} {S : List Int32} (h : t ≤ k) : ev cd F t (m + 1) k S = S.headD 0 := by
  show (if t ≤ k then _ else _) = _
  rw [if_pos h]
theorem ev_s {cd : Nat → Int} {F : Nat → Int32} {t m k k' : Nat} {S S' : List Int32} (h : k < t) (e : evS cd F k S = some (k', S')) : ev cd F t (m + 1) k S = ev cd F t m k' S' := by
  show (if t ≤ k then _ else _) = _
  rw [if_neg (by omega), e]
theorem ev_n {cd : Nat → Int} {F : Nat → Int32} {t m k : Nat} {S : List Int32} (h : k < t) (e : evS cd F k S = none) : ev cd F t (m + 1) k S = 0 := by
  show (if t ≤ k then _ else _) = _
  rw [if_neg (by omega), e]
theorem P_sw0 {x : Int32} {D : qR} {P : Int32 → qM → Prop} (h : qP D P) : qP (qsw x [] D) P := h
theorem P_sw {x k : Int32} {X y : Int} {E D : qR} {l : List (Int32 × qR)} {P : Int32 → qM → Prop} (hx : x.toInt = X) (hk : k.toInt = y) (h : X = y → qP E P) (ht : ¬ X = y → qP (qsw x l D) P) : qP (qsw x ((k, E) :: l) D) P := by
  show qP (if x = k then E else qsw x l D) P
  exact P_eq hx hk h ht
theorem P_qd {b : Int32} {E : qR} {P : Int32 → qM → Prop} (h : qP E P) : qP (qd b E) P := by
  unfold qd
  by_cases c : b = 0
  · rw [if_pos c]; exact P_none
  · rw [if_neg c]; exact h
theorem P_if {c : Prop} [Decidable c] {A B : qR} {P : Int32 → qM → Prop} (h1 : c → qP A P) (h2 : ¬ c → qP B P) : qP (if c then A else B) P := by
  by_cases q : c
  · rw [if_pos q]; exact h1 q
  · rw [if_neg q]; exact h2 q
theorem i_rem {a b : Int32} {x y : Int} (ha : a.toInt = x) (hb : b.toInt = y) (h1 : 0 ≤ x) (h2 : 0 < y) : (a - a / b * b).toInt = x % y := by
  have h3 := Int.ediv_nonneg h1 (Int.le_of_lt h2)
  have h5 := i_full a
  have h6 := Int.ediv_mul_le x (b := y) (by omega)
  have h7 := Int.mul_nonneg h3 (Int.le_of_lt h2)
  rw [i_sub ha (i_mul (i_div ha hb h1 h2) hb (by omega) (by omega)) (by omega) (by omega), Int.emod_def, Int.mul_comm y]
theorem enc_d {o a : Int} (h0 : 0 ≤ a) (h1 : a ≤ 1000000) (hp : 0 ≤ enc o a) :
    (o = 0 ∧ enc o a / 1048576 = 0 ∧ enc o a % 1048576 = a) ∨ (o = 1 ∧ enc o a / 1048576 = 1 ∧ enc o a % 1048576 = a) ∨ (o = 2 ∧ enc o a / 1048576 = 10) ∨
    (((o = 3 ∧ enc o a / 1048576 = 11) ∨ (o = 4 ∧ enc o a / 1048576 = 12)) ∧ (enc o a % 1048576 = 0 ∨ enc o a % 1048576 = a + 1)) ∨
    (32 ≤ o ∧ ((o = 43 ∧ enc o a / 1048576 = 2) ∨ (o = 45 ∧ enc o a / 1048576 = 3) ∨ (o = 42 ∧ enc o a / 1048576 = 4) ∨ (o = 47 ∧ enc o a / 1048576 = 5) ∨ (o = 37 ∧ enc o a / 1048576 = 6) ∨ (o = 60 ∧ enc o a / 1048576 = 7) ∨ (o = 62 ∧ enc o a / 1048576 = 8) ∨ (o = 61 ∧ enc o a / 1048576 = 9))) := by
  unfold enc at hp ⊢
  by_cases c0 : o = 0
  · rw [if_pos c0]; exact Or.inl ⟨c0, by omega, by omega⟩
  rw [if_neg c0] at hp ⊢
  by_cases c1 : o = 1
  · rw [if_pos c1]; exact Or.inr (Or.inl ⟨c1, by omega, by omega⟩)
  rw [if_neg c1] at hp ⊢
  by_cases c2 : o = 2
  · rw [if_pos c2]; exact Or.inr (Or.inr (Or.inl ⟨c2, by omega⟩))
  rw [if_neg c2] at hp ⊢
  by_cases c3 : o = 3
  · rw [if_pos c3]
    by_cases d : a = 0
    · rw [if_pos d]; exact Or.inr (Or.inr (Or.inr (Or.inl ⟨Or.inl ⟨c3, by omega⟩, by omega⟩)))
    · rw [if_neg d]; exact Or.inr (Or.inr (Or.inr (Or.inl ⟨Or.inl ⟨c3, by omega⟩, by omega⟩)))
  rw [if_neg c3] at hp ⊢
  by_cases c4 : o = 4
  · rw [if_pos c4]
    by_cases d : a = 0
    · rw [if_pos d]; exact Or.inr (Or.inr (Or.inr (Or.inl ⟨Or.inr ⟨c4, by omega⟩, by omega⟩)))
    · rw [if_neg d]; exact Or.inr (Or.inr (Or.inr (Or.inl ⟨Or.inr ⟨c4, by omega⟩, by omega⟩)))
  rw [if_neg c4] at hp ⊢
  refine Or.inr (Or.inr (Or.inr (Or.inr ?_)))
  by_cases d : 0 ≤ sg o
  · rw [if_pos d]
    clear hp c0 c1 c2 c3 c4
    rcases sg_r o with h | h | h | h | h | h
    · omega
    · exact ⟨by omega, Or.inl ⟨h.1, by rw [h.2]; decide⟩⟩
    · exact ⟨by omega, Or.inr (Or.inl ⟨h.1, by rw [h.2]; decide⟩)⟩
    · exact ⟨by omega, Or.inr (Or.inr (Or.inl ⟨h.1, by rw [h.2]; decide⟩))⟩
    · exact ⟨by omega, Or.inr (Or.inr (Or.inr (Or.inl ⟨h.1, by rw [h.2]; decide⟩)))⟩
    · exact ⟨by omega, Or.inr (Or.inr (Or.inr (Or.inr (Or.inl ⟨h.1, by rw [h.2]; decide⟩))))⟩
  · rw [if_neg d] at hp ⊢
    clear d c0 c1 c2 c3 c4
    rcases cp_r o with h | h | h | h
    · exfalso; have h1_ := h.1; omega
    · exact ⟨by omega, Or.inr (Or.inr (Or.inr (Or.inr (Or.inr (Or.inl ⟨h.1, by rw [h.2]; decide⟩)))))⟩
    · exact ⟨by omega, Or.inr (Or.inr (Or.inr (Or.inr (Or.inr (Or.inr (Or.inl ⟨h.1, by rw [h.2]; decide⟩))))))⟩
    · exact ⟨by omega, Or.inr (Or.inr (Or.inr (Or.inr (Or.inr (Or.inr (Or.inr (⟨h.1, by rw [h.2]; decide⟩)))))))⟩
theorem rk_bool {o : Int} {x y : Int32} (h : 7 ≤ o) : rk o x y = 0 ∨ rk o x y = 1 := by
  unfold rk
  rw [if_neg (by omega), if_neg (by omega), if_neg (by omega), if_neg (by omega), if_neg (by omega)]
  repeat' split
  all_goals first | exact Or.inl rfl | exact Or.inr rfl
/-- the Java side's reckoning -/
theorem c_reck {n : Nat} {q : Int} (o x y : Int32) (M : qM) (h : (o.toInt = 43 ∧ q = 2) ∨ (o.toInt = 45 ∧ q = 3) ∨ (o.toInt = 42 ∧ q = 4) ∨ (o.toInt = 47 ∧ q = 5) ∨ (o.toInt = 37 ∧ q = 6) ∨ (o.toInt = 60 ∧ q = 7) ∨ (o.toInt = 62 ∧ q = 8) ∨ (o.toInt = 61 ∧ q = 9)) : qP (f_X1_reckon n o x y M) (fun v m => ((q = 5 ∨ q = 6) ∧ y = 0 ∧ m 34 4 = 1) ∨ (¬ ((q = 5 ∨ q = 6) ∧ y = 0) ∧ v = rk q x y ∧ m = M)) := by
  unfold f_X1_reckon
  refine P_sw rfl l_42 (fun e => ?_) (fun e1 => ?_)
  · have : q = 4 := by omega
    subst this
    exact P_ret (Or.inr ⟨fun z => absurd z.1 (by decide), rfl, rfl⟩)
  refine P_sw rfl l_43 (fun e => ?_) (fun e2 => ?_)
  · have : q = 2 := by omega
    subst this
    exact P_ret (Or.inr ⟨fun z => absurd z.1 (by decide), rfl, rfl⟩)
  refine P_sw rfl l_45 (fun e => ?_) (fun e3 => ?_)
  · have : q = 3 := by omega
    subst this
    exact P_ret (Or.inr ⟨fun z => absurd z.1 (by decide), rfl, rfl⟩)
  refine P_sw rfl l_60 (fun e => ?_) (fun e4 => ?_)
  · have : q = 7 := by omega
    subst this
    exact P_if (fun c => P_ret (Or.inr ⟨fun z => absurd z.1 (by decide), by show _ = (if y ≤ x then (0 : Int32) else 1); rw [if_pos c], rfl⟩)) (fun c => P_ret (Or.inr ⟨fun z => absurd z.1 (by decide), by show _ = (if y ≤ x then (0 : Int32) else 1); rw [if_neg c], rfl⟩))
  refine P_sw rfl l_61 (fun e => ?_) (fun e5 => ?_)
  · have : q = 9 := by omega
    subst this
    exact P_if (fun c => P_ret (Or.inr ⟨fun z => absurd z.1 (by decide), by show _ = (if x = y then (1 : Int32) else 0); rw [if_pos c], rfl⟩)) (fun c => P_ret (Or.inr ⟨fun z => absurd z.1 (by decide), by show _ = (if x = y then (1 : Int32) else 0); rw [if_neg c], rfl⟩))
  refine P_sw rfl l_62 (fun e => ?_) (fun e6 => ?_)
  · have : q = 8 := by omega
    subst this
    exact P_if (fun c => P_ret (Or.inr ⟨fun z => absurd z.1 (by decide), by show _ = (if x ≤ y then (0 : Int32) else 1); rw [if_pos c], rfl⟩)) (fun c => P_ret (Or.inr ⟨fun z => absurd z.1 (by decide), by show _ = (if x ≤ y then (0 : Int32) else 1); rw [if_neg c], rfl⟩))
  refine P_sw0 (P_if (fun c => ?_) (fun c => ?_))
  · exact P_qlm (P_ret (Or.inl ⟨by omega, c, mu_at⟩))
  · refine P_eq rfl l_47 (fun e => P_qd ?_) (fun e => P_qd ?_)
    · have : q = 5 := by omega
      subst this
      exact P_ret (Or.inr ⟨fun z => c z.2, rfl, rfl⟩)
    · have : q = 6 := by omega
      subst this
      exact P_ret (Or.inr ⟨fun z => c z.2, rfl, rfl⟩)
/-- the model's reckoning -/
theorem m_reck {n : Nat} (o x y : Int32) (M : qM) (h : 2 ≤ o.toInt ∧ o.toInt ≤ 9) : qP (f_X12_reckon n o x y M) (fun v m => v = rk o.toInt x y ∧ m = M) := by
  unfold f_X12_reckon
  refine P_sw rfl l_2 (fun e => ?_) (fun e2 => ?_)
  · rw [e]; exact P_ret ⟨rfl, rfl⟩
  refine P_sw rfl l_3 (fun e => ?_) (fun e3 => ?_)
  · rw [e]; exact P_ret ⟨rfl, rfl⟩
  refine P_sw rfl l_4 (fun e => ?_) (fun e4 => ?_)
  · rw [e]; exact P_ret ⟨rfl, rfl⟩
  refine P_sw rfl l_5 (fun e => ?_) (fun e5 => ?_)
  · rw [e]; exact P_qd (P_ret ⟨rfl, rfl⟩)
  refine P_sw rfl l_6 (fun e => ?_) (fun e6 => ?_)
  · rw [e]; exact P_qd (P_ret ⟨rfl, rfl⟩)
  refine P_sw rfl l_7 (fun e => ?_) (fun e7 => ?_)
  · rw [e]
    exact P_if (fun c => P_ret ⟨by show _ = (if y ≤ x then (0 : Int32) else 1); rw [if_pos c], rfl⟩) (fun c => P_ret ⟨by show _ = (if y ≤ x then (0 : Int32) else 1); rw [if_neg c], rfl⟩)
  refine P_sw rfl l_8 (fun e => ?_) (fun e8 => ?_)
  · rw [e]
    exact P_if (fun c => P_ret ⟨by show _ = (if x ≤ y then (0 : Int32) else 1); rw [if_pos c], rfl⟩) (fun c => P_ret ⟨by show _ = (if x ≤ y then (0 : Int32) else 1); rw [if_neg c], rfl⟩)
  have e9 : o.toInt = 9 := by omega
  rw [e9]
  exact P_sw0 (P_if (fun c => P_ret ⟨by show _ = (if x = y then (1 : Int32) else 0); rw [if_pos c], rfl⟩) (fun c => P_ret ⟨by show _ = (if x = y then (1 : Int32) else 0); rw [if_neg c], rfl⟩))
/-! the Java side goes through codes -/
abbrev Cl (j : Nat) (O A F : Nat → Int32) (M : qM) : Prop := M (j + 1) = O ∧ M (j + 2) = A ∧ M 35 = F
theorem Cl_36 {j : Nat} (hj : q_isLaw j) {O A F : Nat → Int32} {M : qM} {i : Nat} {v : Int32} (h : Cl j O A F M) : Cl j O A F (mu M 36 i v) := by
  have n1 : j + 1 ≠ 36 := by rcases hj with rfl | rfl <;> decide
  have n2 : j + 2 ≠ 36 := by rcases hj with rfl | rfl <;> decide
  exact ⟨by rw [mu_nc n1]; exact h.1, by rw [mu_nc n2]; exact h.2.1, by rw [mu_nc (by decide)]; exact h.2.2⟩
theorem c_ref {n j : Nat} (m : Nat) (a2 a3 a4 : Int32) (M : qM) (h : M 34 4 = 1) : qP (f_X1_run_10 n j m a2 a3 a4 M) (fun v _ => v = 0) := by
  have h0 : ¬ M 34 4 = (0 : Int32) := by rw [h]; decide
  cases m with
  | zero => exact P_none
  | succ m =>
    show qP (b_X1_run_10 n j (f_X1_run_10 n j m) a2 a3 a4 M) _
    unfold b_X1_run_10 f_X1_run_243
    rw [if_neg h0, if_neg h0]
    exact P_if (fun _ => P_ret rfl) (fun _ => P_ret rfl)
theorem c_run {n j : Nat} (hj : q_isLaw j) {cd : Nat → Int} {f t b : Nat} (hg : gd b f t cd) {O A F : Nat → Int32} (hE : ∀ k, k < t → cd k = enc (O k).toInt (A k).toInt) (hA : ∀ k, 0 ≤ (A k).toInt ∧ (A k).toInt ≤ 1000000) : ∀ (m : Nat) (a2 a3 a4 : Int32) (M : qM) (k : Nat) (S : List Int32), Cl j O A F M → M 34 4 = 0 → a2.toInt = (t : Int) → a4.toInt = (k : Int) → f ≤ k → k ≤ t → 0 ≤ a3.toInt → sk (M 36) a3.toInt.toNat = S → (S.length : Int) = dp cd f k → qP (f_X1_run_10 n j m a2 a3 a4 M) (fun v _ => v = ev cd F t m k S) := by
  intro m
  induction m with
  | zero => intro a2 a3 a4 M k S _ _ _ _ _ _ _ _ _; exact P_none
  | succ m ih =>
    intro a2 a3 a4 M k S hC h34 h2 h4 hf hk h3 hS hd
    have hl : S.length = a3.toInt.toNat := by rw [← hS, sk_len]
    show qP (b_X1_run_10 n j (f_X1_run_10 n j m) a2 a3 a4 M) _
    unfold b_X1_run_10
    refine P_le rfl rfl (fun c => ?_) (fun c => ?_)
    · have e : k = t := by omega
      subst e
      have h1 : a3.toInt = 1 := by have := hg.2.1; omega
      unfold f_X1_run_243
      rw [if_pos h34]
      refine P_le l_1 rfl (fun _ => P_ret ?_) (fun z => by omega)
      rw [ev_e (Nat.le_refl _), ← hS, h1]
      rfl
    · have hkt : k < t := by omega
      obtain ⟨i0, i1, i2, i3⟩ := hg.2.2.1 k hf hkt
      have eA := hA k
      have eE := hE k hkt
      have dk : dp cd f (k + 1) = dp cd f k + dl (cd k / 1048576) := dp_s hf
      have ek : a4.toNatClampNeg = k := by rw [tnc, h4]; rfl
      rw [if_pos h34]
      refine P_qg (fun g0 g1 => ?_)
      rw [ek, hC.1, hC.2.1]
      refine P_ql rfl (fun x1 hx1 => P_qg (fun _ _ => P_ql rfl (fun x2 hx2 => ?_)))
      have ih' : ∀ (a3' x : Int32) (M' : qM) (k' : Nat) (S' : List Int32), evS cd F k S = some (k', S') → Cl j O A F M' → M' 34 4 = 0 → x.toInt = (k' : Int) → f ≤ k' → k' ≤ t → 0 ≤ a3'.toInt → sk (M' 36) a3'.toInt.toNat = S' → (S'.length : Int) = dp cd f k' → qP (f_X1_run_10 n j m a2 a3' x M') (fun v _ => v = ev cd F t (m + 1) k S) := by
        intro a3' x M' k' S' he q1 q2 q3 q4 q5 q6 q7 q8
        rw [ev_s hkt he]
        exact ih a2 a3' x M' k' S' q1 q2 h2 q3 q4 q5 q6 q7 q8
      have m34 : ∀ (i : Nat) (v : Int32), mu M 36 i v 34 4 = 0 := fun i v => by rw [mu_ne (Or.inl (by decide))]; exact h34
      have hd0 := enc_d eA.1 eA.2 (by rw [← eE]; exact i0)
      rw [← eE] at hd0
      rcases hd0 with ⟨o, e1, e2⟩ | ⟨o, e1, e2⟩ | ⟨o, e1⟩ | ⟨o, e2⟩ | ⟨o1, o2⟩
      · refine P_eq rfl l_0 (fun _ => ?_) (fun z => by omega)
        unfold f_X1_run_58
        refine P_le l_64 rfl (fun z => by omega) (fun _ => P_eq rfl l_0 (fun _ => ?_) (fun z => by omega))
        refine P_qg (fun _ _ => P_qlm (P_ql (i_add rfl l_1 (by omega) (by omega)) (fun x6 hx6 => P_ql (i_add rfl l_1 (by omega) (by omega)) (fun x7 hx7 => ?_))))
        have ex : x2 = Int32.ofInt (cd k % 1048576) := by rw [e2, ← hx2, Int32.ofInt_toInt]
        refine ih' x6 x7 _ (k + 1) (Int32.ofInt (cd k % 1048576) :: S) ?_ (Cl_36 hj hC) (m34 _ _) (by omega) (by omega) (by omega) (by omega) ?_ ?_
        · unfold evS; rw [if_pos e1]
        · rw [hx6, show (a3.toInt + 1).toNat = a3.toInt.toNat + 1 by omega, tnc, sk_push, hS, ex]
        · rw [List.length_cons, dk, e1]
          show ((S.length + 1 : Nat) : Int) = dp cd f k + 1
          omega
      · refine P_eq rfl l_0 (fun z => by omega) (fun _ => P_eq rfl l_1 (fun _ => ?_) (fun z => by omega))
        unfold f_X1_run_58
        refine P_le l_64 rfl (fun z => by omega) (fun _ => P_eq rfl l_0 (fun z => by omega) (fun _ => ?_))
        refine P_qg (fun _ _ => P_qg (fun _ _ => P_qlm (P_ql (i_add rfl l_1 (by omega) (by omega)) (fun x6 hx6 => P_ql (i_add rfl l_1 (by omega) (by omega)) (fun x7 hx7 => ?_)))))
        have ex : M 35 x2.toNatClampNeg = F (cd k % 1048576).toNat := by rw [hC.2.2, tnc, hx2, e2]
        refine ih' x6 x7 _ (k + 1) (F (cd k % 1048576).toNat :: S) ?_ (Cl_36 hj hC) (m34 _ _) (by omega) (by omega) (by omega) (by omega) ?_ ?_
        · unfold evS; rw [if_neg (by omega), if_pos e1]
        · rw [hx6, show (a3.toInt + 1).toNat = a3.toInt.toNat + 1 by omega, tnc, sk_push, hS, ex]
        · rw [List.length_cons, dk, e1]
          show ((S.length + 1 : Nat) : Int) = dp cd f k + 1
          omega
      · have h1 : 1 ≤ a3.toInt := by omega
        have et : (a3 - 1).toNatClampNeg = a3.toInt.toNat - 1 := by rw [tnc, i_sub rfl l_1 (by omega) (by omega)]; omega
        refine P_eq rfl l_0 (fun z => by omega) (fun _ => P_eq rfl l_1 (fun z => by omega) (fun _ => P_lt rfl l_32 (fun _ => ?_) (fun z => by omega)))
        unfold f_X1_run_139
        refine P_eq rfl l_2 (fun _ => P_lt rfl l_1 (fun z => by omega) (fun _ => ?_)) (fun z => by omega)
        refine P_qg (fun _ _ => P_qg (fun _ _ => P_qlm (P_ql (i_add rfl l_1 (by omega) (by omega)) (fun x2' hx2' => ?_))))
        refine ih' a3 x2' _ (k + 1) ((1 - S.headD 0) :: S.tail) ?_ (Cl_36 hj hC) (m34 _ _) (by omega) (by omega) (by omega) h3 ?_ ?_
        · unfold evS; rw [if_neg (by omega), if_neg (by omega), if_pos e1]
        · rw [et, sk_top (by omega), ← hS, sk_h (by omega)]
        · rw [List.length_cons, List.length_tail, dk, e1]
          show ((S.length - 1 + 1 : Nat) : Int) = dp cd f k + 0
          omega
      · have h1 : dp cd f k = 1 ∧ ((k : Int) < cd k % 1048576 ∧ cd k % 1048576 ≤ (t : Int) ∧ dp cd f (cd k % 1048576).toNat = 1) := by
          rcases i3 with z | z | z | z | z
          · omega
          · omega
          · omega
          · exact ⟨z.2.1, z.2.2.resolve_left (fun q => q)⟩
          · omega
        obtain ⟨d1, d2, d3, d4⟩ := h1
        have h1 : a3.toInt = 1 := by omega
        have et : (a3 - 1).toNatClampNeg = a3.toInt.toNat - 1 := by rw [tnc, i_sub rfl l_1 (by omega) (by omega)]; omega
        have hx : S.headD 0 = M 36 (a3 - 1).toNatClampNeg := by rw [et, ← hS, sk_h (by omega)]
        refine P_eq rfl l_0 (fun z => by omega) (fun _ => P_eq rfl l_1 (fun z => by omega) (fun _ => P_lt rfl l_32 (fun _ => ?_) (fun z => by omega)))
        unfold f_X1_run_139
        refine P_eq rfl l_2 (fun z => by omega) (fun _ => ?_)
        unfold f_X1_run_171
        refine P_lt rfl l_1 (fun z => by omega) (fun _ => P_qg (fun _ _ => ?_))
        have key : ∀ w : Int32, w = (if cd k / 1048576 = 12 then (1 : Int32) else 0) → qP (f_X1_run_195 n j (f_X1_run_10 n j m) a2 a3 a4 x2 (M 36 (a3 - 1).toNatClampNeg) w M) (fun v _ => v = ev cd F t (m + 1) k S) := by
          intro w hw
          have hop : cd k / 1048576 = 11 ∨ cd k / 1048576 = 12 := by omega
          unfold f_X1_run_195
          refine P_if (fun c1 => ?_) (fun c1 => ?_)
          · unfold f_X1_run_203 f_X1_run_222
            rw [if_neg (by decide), if_neg (by decide)]
            have hm := i_max (a := a4) (b := x2) rfl rfl
            refine P_ql (i_add rfl l_1 (by omega) (by omega)) (fun x3 hx3 => ?_)
            refine ih' a3 x3 M (cd k % 1048576).toNat S ?_ hC h34 (by omega) (by omega) (by omega) h3 hS (by omega)
            unfold evS
            rw [if_neg (by omega), if_neg (by omega), if_neg (by omega), if_pos hop, if_pos (by rw [hx, c1, hw])]
          · unfold f_X1_run_203 f_X1_run_222
            rw [if_pos rfl, if_pos rfl]
            refine P_ql (i_sub rfl l_1 (by omega) (by omega)) (fun x3 hx3 => P_ql (i_add rfl l_1 (by omega) (by omega)) (fun x4 hx4 => ?_))
            refine ih' x3 x4 M (k + 1) S.tail ?_ hC h34 (by omega) (by omega) (by omega) (by omega) ?_ ?_
            · unfold evS
              rw [if_neg (by omega), if_neg (by omega), if_neg (by omega), if_pos hop, if_neg (by rw [hx, ← hw]; exact c1)]
            · rw [← hS, sk_t (by omega), hx3]
              congr 1
              omega
            · rw [List.length_tail, dk, dl_n (by omega)]
              omega
        refine P_eq rfl l_4 (fun c1 => key 1 ?_) (fun c1 => key 0 ?_)
        · rw [if_pos (by omega)]
        · rw [if_neg (by omega)]
      · have hq : 2 ≤ cd k / 1048576 ∧ cd k / 1048576 ≤ 9 := by omega
        have h2' : 2 ≤ a3.toInt := by
          rcases i3 with z | z | z | z | z
          · omega
          · omega
          · omega
          · omega
          · omega
        refine P_eq rfl l_0 (fun z => by omega) (fun _ => P_eq rfl l_1 (fun z => by omega) (fun _ => P_lt rfl l_32 (fun z => by omega) (fun _ => P_lt rfl l_2 (fun z => by omega) (fun _ => ?_))))
        refine P_ql (i_add rfl l_m1 (by omega) (by omega)) (fun x3 hx3 => ?_)
        have et3 : x3.toNatClampNeg = a3.toInt.toNat - 1 := by rw [tnc, hx3]; omega
        have et2 : (x3 - 1).toNatClampNeg = x3.toInt.toNat - 1 := by rw [tnc, i_sub hx3 l_1 (by omega) (by omega)]; omega
        have en3 : x3.toInt.toNat = a3.toInt.toNat - 1 := by rw [hx3]; omega
        have hy : S.headD 0 = M 36 x3.toNatClampNeg := by rw [et3, ← hS, sk_h (by omega)]
        have hst : S.tail = sk (M 36) x3.toInt.toNat := by rw [← hS, sk_t (by omega), en3]
        have hx : S.tail.headD 0 = M 36 (x3 - 1).toNatClampNeg := by rw [hst, sk_h (by omega), et2]
        refine P_qg (fun _ _ => P_qg (fun _ _ => P_qc (c_reck x1 (M 36 (x3 - 1).toNatClampNeg) (M 36 x3.toNatClampNeg) M (q := cd k / 1048576) (by rw [hx1]; exact o2)) ?_))
        intro r4 m5 hr
        refine P_qg (fun _ _ => P_qlm (P_ql (i_add rfl l_1 (by omega) (by omega)) (fun x7 hx7 => ?_)))
        rcases hr with ⟨u1, u2, u3⟩ | ⟨u1, u2, u3⟩
        · refine P_mono (c_ref m a2 x3 x7 _ (by rw [mu_ne (Or.inl (by decide))]; exact u3)) (fun v _ e => ?_)
          rw [e, ev_n hkt]
          unfold evS
          rw [if_neg (by omega), if_neg (by omega), if_neg (by omega), if_neg (by omega), if_pos ⟨u1, by rw [hy]; exact u2⟩]
        · subst u3
          refine ih' x3 x7 _ (k + 1) (rk (cd k / 1048576) (S.tail.headD 0) (S.headD 0) :: S.tail.tail) ?_ (Cl_36 hj hC) (m34 _ _) (by omega) (by omega) (by omega) (by omega) ?_ ?_
          · unfold evS
            rw [if_neg (by omega), if_neg (by omega), if_neg (by omega), if_neg (by omega), if_neg (by rw [hy]; exact u1)]
          · rw [et2, sk_top (by omega), ← hst, u2, hx, hy]
          · rw [List.length_cons, List.length_tail, List.length_tail, dk, dl_n (by omega)]
            omega
/-! the model goes through codes -/
theorem d_run {n : Nat} {cd : Nat → Int} {f t b : Nat} (hg : gd b f t cd) (h260 : t ≤ 260) {D F : Nat → Int32} (hE : ∀ k, k < t → (D k).toInt = cd k) : ∀ (m : Nat) (a2 a3 a5 : Int32) (M : qM) (k : Nat) (S : List Int32), M 91 = D → M 97 = F → a2.toInt = (t : Int) → a5.toInt = (k : Int) → f ≤ k → k ≤ t → 0 ≤ a3.toInt → sk (M 96) a3.toInt.toNat = S → (S.length : Int) = dp cd f k → qP (f_X12_comesTo_16 n m a2 a3 (0 : Int32) a5 M) (fun v _ => v = ev cd F t m k S) := by
  intro m
  induction m with
  | zero => intro a2 a3 a5 M k S _ _ _ _ _ _ _ _ _; exact P_none
  | succ m ih =>
    intro a2 a3 a5 M k S hD hF h2 h5 hf hk h3 hS hd
    have hl : S.length = a3.toInt.toNat := by rw [← hS, sk_len]
    show qP (b_X12_comesTo_16 n (f_X12_comesTo_16 n m) a2 a3 (0 : Int32) a5 M) _
    unfold b_X12_comesTo_16
    refine P_le rfl rfl (fun c => P_ret ?_) (fun c => ?_)
    · have e : k = t := by omega
      subst e
      have h1 : a3.toInt = 1 := by have := hg.2.1; omega
      rw [ev_e (Nat.le_refl _), ← hS, h1]
      rfl
    · have hkt : k < t := by omega
      obtain ⟨i0, i1, i2, i3⟩ := hg.2.2.1 k hf hkt
      have eE := hE k hkt
      have dk : dp cd f (k + 1) = dp cd f k + dl (cd k / 1048576) := dp_s hf
      have ek : a5.toNatClampNeg = k := by rw [tnc, h5]; rfl
      refine P_qg (fun g0 g1 => ?_)
      rw [ek, hD]
      refine P_ql (i_div eE l_1048576 i0 (by decide)) (fun x1 hx1 => P_qg (fun _ _ => P_ql (i_rem eE l_1048576 i0 (by decide)) (fun x2 hx2 => P_ql (i_add rfl l_1 (by omega) (by omega)) (fun x3 hx3 => ?_))))
      have ih' : ∀ (a3' x : Int32) (M' : qM) (k' : Nat) (S' : List Int32), evS cd F k S = some (k', S') → M' 91 = D → M' 97 = F → x.toInt = (k' : Int) → f ≤ k' → k' ≤ t → 0 ≤ a3'.toInt → sk (M' 96) a3'.toInt.toNat = S' → (S'.length : Int) = dp cd f k' → qP (f_X12_comesTo_16 n m a2 a3' (0 : Int32) x M') (fun v _ => v = ev cd F t (m + 1) k S) := by
        intro a3' x M' k' S' he q1 q2 q3 q4 q5 q6 q7 q8
        rw [ev_s hkt he]
        exact ih a2 a3' x M' k' S' q1 q2 h2 q3 q4 q5 q6 q7 q8
      have c91 : ∀ (i : Nat) (v : Int32), mu M 96 i v 91 = D := fun i v => by rw [mu_nc (by decide)]; exact hD
      have c97 : ∀ (i : Nat) (v : Int32), mu M 96 i v 97 = F := fun i v => by rw [mu_nc (by decide)]; exact hF
      have hm := Int.emod_nonneg (cd k) (show (1048576 : Int) ≠ 0 by decide)
      by_cases k0 : cd k / 1048576 = 0
      · refine P_eq rfl l_0 (fun _ => ?_) (fun z => by omega)
        unfold f_X12_comesTo_63
        refine P_eq rfl l_0 (fun _ => ?_) (fun z => by omega)
        unfold f_X12_comesTo_85
        refine P_qg (fun _ _ => P_qlm (P_ql (i_add rfl l_1 (by omega) (by omega)) (fun x4 hx4 => ?_)))
        have ex : x2 = Int32.ofInt (cd k % 1048576) := by rw [← hx2, Int32.ofInt_toInt]
        refine ih' x4 x3 _ (k + 1) (Int32.ofInt (cd k % 1048576) :: S) ?_ (c91 _ _) (c97 _ _) (by omega) (by omega) (by omega) (by omega) ?_ ?_
        · unfold evS; rw [if_pos k0]
        · rw [hx4, show (a3.toInt + 1).toNat = a3.toInt.toNat + 1 by omega, tnc, sk_push, hS, ex]
        · rw [List.length_cons, dk, k0]
          show ((S.length + 1 : Nat) : Int) = dp cd f k + 1
          omega
      refine P_eq rfl l_0 (fun z => by omega) (fun _ => ?_)
      by_cases k1 : cd k / 1048576 = 1
      · refine P_eq rfl l_1 (fun _ => ?_) (fun z => by omega)
        unfold f_X12_comesTo_63
        refine P_eq rfl l_0 (fun z => by omega) (fun _ => P_qg (fun _ _ => ?_))
        unfold f_X12_comesTo_85
        refine P_qg (fun _ _ => P_qlm (P_ql (i_add rfl l_1 (by omega) (by omega)) (fun x4 hx4 => ?_)))
        have ex : M 97 x2.toNatClampNeg = F (cd k % 1048576).toNat := by rw [hF, tnc, hx2]
        refine ih' x4 x3 _ (k + 1) (F (cd k % 1048576).toNat :: S) ?_ (c91 _ _) (c97 _ _) (by omega) (by omega) (by omega) (by omega) ?_ ?_
        · unfold evS; rw [if_neg k0, if_pos k1]
        · rw [hx4, show (a3.toInt + 1).toNat = a3.toInt.toNat + 1 by omega, ex, tnc, sk_push, hS]
        · rw [List.length_cons, dk, k1]
          show ((S.length + 1 : Nat) : Int) = dp cd f k + 1
          omega
      refine P_eq rfl l_1 (fun z => by omega) (fun _ => ?_)
      have et : 1 ≤ a3.toInt → (a3 - 1).toNatClampNeg = a3.toInt.toNat - 1 := fun h1 => by rw [tnc, i_sub rfl l_1 (by omega) (by omega)]; omega
      by_cases k10 : cd k / 1048576 = 10
      · have h1 : 1 ≤ a3.toInt := by omega
        refine P_eq rfl l_10 (fun _ => ?_) (fun z => by omega)
        refine P_qg (fun _ _ => P_qg (fun _ _ => P_qlm ?_))
        refine ih' a3 x3 _ (k + 1) ((1 - S.headD 0) :: S.tail) ?_ (c91 _ _) (c97 _ _) (by omega) (by omega) (by omega) h3 ?_ ?_
        · unfold evS; rw [if_neg k0, if_neg k1, if_pos k10]
        · rw [et h1, sk_top (by omega), ← hS, sk_h (by omega)]
        · rw [List.length_cons, List.length_tail, dk, k10]
          show ((S.length - 1 + 1 : Nat) : Int) = dp cd f k + 0
          omega
      refine P_eq rfl l_10 (fun z => by omega) (fun _ => ?_)
      by_cases kj : cd k / 1048576 = 11 ∨ cd k / 1048576 = 12
      · have h1 : dp cd f k = 1 ∧ ((k : Int) < cd k % 1048576 ∧ cd k % 1048576 ≤ (t : Int) ∧ dp cd f (cd k % 1048576).toNat = 1) := by
          rcases i3 with z | z | z | z | z
          · omega
          · omega
          · omega
          · exact ⟨z.2.1, z.2.2.resolve_left (fun q => q)⟩
          · omega
        obtain ⟨d1, d2, d3, d4⟩ := h1
        have h1 : a3.toInt = 1 := by omega
        have hx : S.headD 0 = M 96 (a3 - 1).toNatClampNeg := by rw [et (by omega), ← hS, sk_h (by omega)]
        have key : ∀ w : Int32, w = (if cd k / 1048576 = 12 then (1 : Int32) else 0) → qP (f_X12_comesTo_155 n (f_X12_comesTo_16 n m) a2 a3 (0 : Int32) x3 x2 (M 96 (a3 - 1).toNatClampNeg) w M) (fun v _ => v = ev cd F t (m + 1) k S) := by
          intro w hw
          unfold f_X12_comesTo_155
          refine P_if (fun c1 => ?_) (fun c1 => ?_)
          · refine P_ql (i_add l_0 rfl (by omega) (by omega)) (fun x4 hx4 => ?_)
            refine ih' a3 x4 M (cd k % 1048576).toNat S ?_ hD hF (by omega) (by omega) (by omega) h3 hS (by omega)
            unfold evS
            rw [if_neg k0, if_neg k1, if_neg k10, if_pos kj, if_pos (by rw [hx, c1, hw])]
          · refine P_ql (i_sub rfl l_1 (by omega) (by omega)) (fun x4 hx4 => ?_)
            refine ih' x4 x3 M (k + 1) S.tail ?_ hD hF (by omega) (by omega) (by omega) (by omega) ?_ ?_
            · unfold evS
              rw [if_neg k0, if_neg k1, if_neg k10, if_pos kj, if_neg (by rw [hx, ← hw]; exact c1)]
            · rw [← hS, sk_t (by omega), hx4]
              congr 1
              omega
            · rw [List.length_tail, dk, dl_n (by omega)]
              omega
        have k135 : qP (f_X12_comesTo_135 n (f_X12_comesTo_16 n m) a2 a3 (0 : Int32) x3 x1 x2 M) (fun v _ => v = ev cd F t (m + 1) k S) := by
          unfold f_X12_comesTo_135
          refine P_qg (fun _ _ => P_eq rfl l_12 (fun c1 => key 1 ?_) (fun c1 => key 0 ?_))
          · rw [if_pos (by omega)]
          · rw [if_neg (by omega)]
        exact P_eq rfl l_11 (fun _ => k135) (fun _ => P_eq rfl l_12 (fun _ => k135) (fun z => by omega))
      refine P_eq rfl l_11 (fun z => by omega) (fun _ => P_eq rfl l_12 (fun z => by omega) (fun _ => ?_))
      have hq : 2 ≤ cd k / 1048576 ∧ cd k / 1048576 ≤ 9 ∧ 2 ≤ dp cd f k := by
        rcases i3 with z | z | z | z | z
        · omega
        · omega
        · omega
        · omega
        · exact z
      have h2' : 2 ≤ a3.toInt := by omega
      refine P_ql (i_sub rfl l_1 (by omega) (by omega)) (fun x4 hx4 => ?_)
      have et3 : x4.toNatClampNeg = a3.toInt.toNat - 1 := by rw [tnc, hx4]; omega
      have et2 : (x4 - 1).toNatClampNeg = x4.toInt.toNat - 1 := by rw [tnc, i_sub hx4 l_1 (by omega) (by omega)]; omega
      have en3 : x4.toInt.toNat = a3.toInt.toNat - 1 := by rw [hx4]; omega
      have hy : S.headD 0 = M 96 x4.toNatClampNeg := by rw [et3, ← hS, sk_h (by omega)]
      have hst : S.tail = sk (M 96) x4.toInt.toNat := by rw [← hS, sk_t (by omega), en3]
      have hx : S.tail.headD 0 = M 96 (x4 - 1).toNatClampNeg := by rw [hst, sk_h (by omega), et2]
      have k203 : ¬ ((cd k / 1048576 = 5 ∨ cd k / 1048576 = 6) ∧ S.headD 0 = 0) → qP (f_X12_comesTo_203 n (f_X12_comesTo_16 n m) a2 x4 (0 : Int32) x3 x1 M) (fun v _ => v = ev cd F t (m + 1) k S) := by
        intro hno
        unfold f_X12_comesTo_203
        refine P_qg (fun _ _ => P_qg (fun _ _ => P_qc (m_reck x1 (M 96 (x4 - 1).toNatClampNeg) (M 96 x4.toNatClampNeg) M (by omega)) ?_))
        rintro r1 m2 ⟨u2, rfl⟩
        refine P_qg (fun _ _ => P_qlm ?_)
        refine ih' x4 x3 _ (k + 1) (rk (cd k / 1048576) (S.tail.headD 0) (S.headD 0) :: S.tail.tail) ?_ (c91 _ _) (c97 _ _) (by omega) (by omega) (by omega) (by omega) ?_ ?_
        · unfold evS
          rw [if_neg k0, if_neg k1, if_neg k10, if_neg kj, if_neg hno]
        · rw [et2, sk_top (by omega), ← hst, u2, hx, hy, hx1]
        · rw [List.length_cons, List.length_tail, List.length_tail, dk, dl_n (by omega)]
          omega
      have k192 : (cd k / 1048576 = 5 ∨ cd k / 1048576 = 6) → qP (f_X12_comesTo_192 n (f_X12_comesTo_16 n m) a2 x4 (0 : Int32) x3 x1 M) (fun v _ => v = ev cd F t (m + 1) k S) := by
        intro h56
        unfold f_X12_comesTo_192
        refine P_qg (fun _ _ => P_if (fun c1 => P_ret ?_) (fun c1 => k203 (fun z => c1 (by rw [← hy]; exact z.2))))
        rw [ev_n hkt]
        unfold evS
        rw [if_neg k0, if_neg k1, if_neg k10, if_neg kj, if_pos ⟨h56, by rw [hy]; exact c1⟩]
      exact P_eq rfl l_5 (fun z => k192 (by omega)) (fun z5 => P_eq rfl l_6 (fun z => k192 (by omega)) (fun z6 => k203 (fun z => by have := z.1; omega)))
/-- a condition's answer is 0 or 1 -/
theorem ev_bool {cd : Nat → Int} {F : Nat → Int32} {f t : Nat} (hg : gd 1 f t cd) : ∀ (m k : Nat) (S : List Int32), f ≤ k → k ≤ t → (f < k → 7 ≤ cd (k - 1) / 1048576 → cd (k - 1) / 1048576 ≤ 10 → S.headD 0 = 0 ∨ S.headD 0 = 1) → ev cd F t m k S = 0 ∨ ev cd F t m k S = 1 := by
  intro m
  induction m with
  | zero => intro k S _ _ _; exact Or.inl rfl
  | succ m ih =>
    intro k S hf hk h
    by_cases c : t ≤ k
    · rw [ev_e c]
      have e : k = t := by omega
      subst e
      have h4 := hg.2.2.2 rfl
      exact h hg.1 h4.1 h4.2
    · have hkt : k < t := by omega
      obtain ⟨i0, i1, i2, i3⟩ := hg.2.2.1 k hf hkt
      cases he : evS cd F k S with
      | none => rw [ev_n hkt he]; exact Or.inl rfl
      | some q =>
        obtain ⟨k', S'⟩ := q
        rw [ev_s hkt he]
        unfold evS at he
        by_cases k0 : cd k / 1048576 = 0
        · rw [if_pos k0] at he
          injection he with he; injection he with e1 e2
          subst e1
          exact ih _ _ (by omega) (by omega) (fun _ h7 _ => by rw [Nat.add_sub_cancel] at h7; omega)
        rw [if_neg k0] at he
        by_cases k1 : cd k / 1048576 = 1
        · rw [if_pos k1] at he
          injection he with he; injection he with e1 e2
          subst e1
          exact ih _ _ (by omega) (by omega) (fun _ h7 _ => by rw [Nat.add_sub_cancel] at h7; omega)
        rw [if_neg k1] at he
        by_cases k10 : cd k / 1048576 = 10
        · rw [if_pos k10] at he
          injection he with he; injection he with e1 e2
          subst e1 e2
          have hz : f < k ∧ 7 ≤ cd (k - 1) / 1048576 ∧ cd (k - 1) / 1048576 ≤ 10 := by
            rcases i3 with z | z | z | z | z
            · omega
            · omega
            · exact z.2.2
            · omega
            · omega
          refine ih _ _ (by omega) (by omega) (fun _ _ _ => ?_)
          show 1 - S.headD 0 = 0 ∨ 1 - S.headD 0 = 1
          rcases h hz.1 hz.2.1 hz.2.2 with q | q
          · rw [q]; exact Or.inr rfl
          · rw [q]; exact Or.inl rfl
        rw [if_neg k10] at he
        by_cases kj : cd k / 1048576 = 11 ∨ cd k / 1048576 = 12
        · rw [if_pos kj] at he
          have hz : (k : Int) < cd k % 1048576 ∧ cd k % 1048576 ≤ (t : Int) := by
            rcases i3 with z | z | z | z | z
            · omega
            · omega
            · omega
            · have := z.2.2.resolve_left (fun q => q)
              exact ⟨this.1, this.2.1⟩
            · omega
          by_cases c1 : S.headD 0 = (if cd k / 1048576 = 12 then (1 : Int32) else 0)
          · rw [if_pos c1] at he
            injection he with he; injection he with e1 e2
            subst e1 e2
            refine ih _ _ (by omega) (by omega) (fun _ _ _ => ?_)
            rw [c1]
            by_cases d : cd k / 1048576 = 12
            · rw [if_pos d]; exact Or.inr rfl
            · rw [if_neg d]; exact Or.inl rfl
          · rw [if_neg c1] at he
            injection he with he; injection he with e1 e2
            subst e1
            exact ih _ _ (by omega) (by omega) (fun _ h7 h8 => by rw [Nat.add_sub_cancel] at h7 h8; omega)
        rw [if_neg kj] at he
        by_cases c0 : (cd k / 1048576 = 5 ∨ cd k / 1048576 = 6) ∧ S.headD 0 = 0
        · rw [if_pos c0] at he; cases he
        · rw [if_neg c0] at he
          injection he with he; injection he with e1 e2
          subst e1 e2
          refine ih _ _ (by omega) (by omega) (fun _ h7 _ => ?_)
          rw [Nat.add_sub_cancel] at h7
          exact rk_bool h7
/-- a stretch of a law, gone through -/
abbrev EV (C : List Int) (F : Nat → Int32) (n s t : Nat) : Int32 := ev (cdl C) F t n s []
theorem EV_bool {C : List Int} {F : Nat → Int32} {n s t : Nat} (hg : gd 1 s t (cdl C)) : EV C F n s t = 0 ∨ EV C F n s t = 1 := ev_bool hg n s [] (Nat.le_refl _) (Nat.le_of_lt hg.1) (fun h => by omega)
theorem cdl_Fn {C : List Int} {f : Nat → Int} (h : Fn f C) {k : Nat} (hk : k < C.length) : cdl C k = f k := by
  show C.getD k 0 = f k
  rw [List.getD_eq_getElem?_getD, h k hk]
  rfl
theorem c_EV {n j : Nat} (hj : q_isLaw j) {C : List Int} {b s t : Nat} (hg : gd b s t (cdl C)) (ht : t ≤ C.length) (a1 a2 : Int32) (M : qM) (hG : G M) (hC : CR j M C) (h1 : a1.toInt = (s : Int)) (h2 : a2.toInt = (t : Int)) : qP (f_X1_run n j a1 a2 M) (fun v _ => v = EV C (M 35) n s t) := by
  unfold f_X1_run
  have n1 : j + 1 ≠ 34 := by rcases hj with rfl | rfl <;> decide
  have n2 : j + 2 ≠ 34 := by rcases hj with rfl | rfl <;> decide
  refine P_qlm ?_
  refine c_run hj hg (O := M (j + 1)) (A := M (j + 2)) (fun k hk => cdl_Fn hC.2 (by omega)) (fun k => rw_2 hj hG k) n a2 (0 : Int32) a1 _ s [] ⟨by rw [mu_nc n1], by rw [mu_nc n2], by rw [mu_nc (by decide)]⟩ mu_at h2 h1 (Nat.le_refl _) (Nat.le_of_lt hg.1) (by decide) (by rw [l_0]; rfl) (by rw [dp_le (Nat.le_refl _)]; rfl)
theorem d_EV {n : Nat} {C : List Int} {b s t : Nat} (hg : gd b s t (cdl C)) (ht : t ≤ C.length) (h240 : C.length ≤ 240) (a1 a2 : Int32) (M : qM) (hC : Fn (fun k => (M 91 k).toInt) C) (h1 : a1.toInt = (s : Int)) (h2 : a2.toInt = (t : Int)) : qP (f_X12_comesTo n a1 a2 M) (fun v _ => v = EV C (M 97) n s t) := by
  have hst := hg.1
  unfold f_X12_comesTo
  have e0 : (260 : Int32) * (a1 / (260 : Int32)) = 0 := by
    refine Int32.toInt_inj.mp ?_
    have hdv := i_div h1 l_260 (by omega) (by decide)
    have : (s : Int) / 260 = 0 := by omega
    rw [this] at hdv
    rw [i_mul l_260 hdv (by decide) (by decide)]
    rfl
  rw [e0]
  exact P_ql rfl (fun x hx => by
    have : x = 0 := Int32.toInt_inj.mp hx
    subst this
    exact d_run hg (by omega) (D := M 91) (F := M 97) (fun k hk => (cdl_Fn hC (by omega)).symm) n a2 (0 : Int32) a1 M s [] rfl rfl h2 h1 (Nat.le_refl _) (Nat.le_of_lt hg.1) (by decide) (by rw [l_0]; rfl) (by rw [dp_le (Nat.le_refl _)]; rfl))
