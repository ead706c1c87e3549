/-! LAWS: both ways to go through codes -/
def sk (f : Nat → Int32) : Nat → List Int32
  | 0 => []
  | s + 1 => f s :: sk f s
theorem sk_len {f : Nat → Int32} : ∀ s : Nat, (sk f s).length = s := by
  intro s
  induction s with
  | zero => rfl
  | succ s ih => show (f s :: sk f s).length = _; rw [List.length_cons, ih]
theorem sk_cg {f g : Nat → Int32} : ∀ {s : Nat}, (∀ i, i < s → g i = f i) → sk g s = sk f s := by
  intro s
  induction s with
  | zero => intro _; rfl
  | succ s ih =>
    intro h
    show g s :: sk g s = f s :: sk f s
    rw [h s (by omega), ih (fun i hi => h i (by omega))]
theorem sk_h {f : Nat → Int32} {s : Nat} (h : 1 ≤ s) : (sk f s).headD 0 = f (s - 1) := by
  cases s with
  | zero => omega
  | succ s => rfl
theorem sk_t {f : Nat → Int32} {s : Nat} (h : 1 ≤ s) : (sk f s).tail = sk f (s - 1) := by
  cases s with
  | zero => omega
  | succ s => rfl
theorem sk_push {M : qM} {c i : Nat} {v : Int32} : sk (mu M c i v c) (i + 1) = v :: sk (M c) i := by
  show mu M c i v c i :: sk (mu M c i v c) i = _
  rw [mu_at, sk_cg (fun k hk => mu_ne (Or.inr (by omega)))]
theorem sk_top {M : qM} {c i : Nat} {v : Int32} (h : 1 ≤ i) : sk (mu M c (i - 1) v c) i = v :: (sk (M c) i).tail := by
  have e : i = (i - 1) + 1 := by omega
  rw [sk_t h]
  have := sk_push (M := M) (c := c) (i := i - 1) (v := v)
  rw [← e] at this
  exact this
def rk (o : Int) (x y : Int32) : Int32 := if o = 2 then x + y else if o = 3 then x - y else if o = 4 then x * y else if o = 5 then x / y else if o = 6 then x - x / y * y else if o = 7 then (if y ≤ x then 0 else 1) else if o = 8 then (if x ≤ y then 0 else 1) else (if x = y then 1 else 0)
def evS (cd : Nat → Int) (F : Nat → Int32) (k : Nat) (S : List Int32) : Option (Nat × List Int32) :=
  if cd k / 1048576 = 0 then some (k + 1, Int32.ofInt (cd k % 1048576) :: S)
  else if cd k / 1048576 = 1 then some (k + 1, F (cd k % 1048576).toNat :: S)
  else if cd k / 1048576 = 10 then some (k + 1, (1 - S.headD 0) :: S.tail)
  else if cd k / 1048576 = 11 ∨ cd k / 1048576 = 12 then (if S.headD 0 = (if cd k / 1048576 = 12 then (1 : Int32) else 0) then some ((cd k % 1048576).toNat, S) else some (k + 1, S.tail))
  else if (cd k / 1048576 = 5 ∨ cd k / 1048576 = 6) ∧ S.headD 0 = 0 then none
  else some (k + 1, rk (cd k / 1048576) (S.tail.headD 0) (S.headD 0) :: S.tail.tail)
def ev (cd : Nat → Int) (F : Nat → Int32) (t : Nat) : Nat → Nat → List Int32 → Int32
  | 0, _, _ => 0
  | m + 1, k, S => if t ≤ k then S.headD 0 else match evS cd F k S with
    | none => 0
    | some q => ev cd F t m q.1 q.2
theorem ev_e {cd : Nat → Int} {F : Nat → Int32} {t m k : Nat} {S : List Int32} (h : t ≤ k) : ev cd F t (m + 1) k S = S.headD 0 := by
  show (if t ≤ k then _ else _) = _
  rw [if_pos h]
theorem ev_s {cd : Nat → Int} {F : Nat → Int32} {t m k k' : Nat} {S S' : List Int32} (h : k < t) (e : evS cd F k S = some (k', S')) : ev cd F t (m + 1) k S = ev cd F t m k' S' := by
  show (if t ≤ k then _ else _) = _
  rw [if_neg (by omega), e]
theorem ev_n {cd : Nat → Int} {F : Nat → Int32} {t m k : Nat} {S : List Int32} (h : k < t) (e : evS cd F k S = none) : ev cd F t (m + 1) k S = 0 := by
  show (if t ≤ k then _ else _) = _
  rw [if_neg (by omega), e]
theorem P_sw0 {x : Int32} {D : qR} {P : Int32 → qM → Prop} (h : qP D P) : qP (qsw x [] D) P := h
theorem P_sw {x k : Int32} {X y : Int} {E D : qR} {l : List (Int32 × qR)} {P : Int32 → qM → Prop} (hx : x.toInt = X) (hk : k.toInt = y) (h : X = y → qP E P) (ht : ¬ X = y → qP (qsw x l D) P) : qP (qsw x ((k, E) :: l) D) P := by
  show qP (if x = k then E else qsw x l D) P
  exact P_eq hx hk h ht
theorem P_qd {b : Int32} {E : qR} {P : Int32 → qM → Prop} (h : qP E P) : qP (qd b E) P := by
  unfold qd
  by_cases c : b = 0
  · rw [if_pos c]; exact P_none
  · rw [if_neg c]; exact h
theorem P_if {c : Prop} [Decidable c] {A B : qR} {P : Int32 → qM → Prop} (h1 : c → qP A P) (h2 : ¬ c → qP B P) : qP (if c then A else B) P := by
  by_cases q : c
  · rw [if_pos q]; exact h1 q
  · rw [if_neg q]; exact h2 q
theorem i_rem {a b : Int32} {x y : Int} (ha : a.toInt = x) (hb : b.toInt = y) (h1 : 0 ≤ x) (h2 : 0 < y) : (a - a / b * b).toInt = x % y := by
  have h3 := Int.ediv_nonneg h1 (Int.le_of_lt h2)
  have h5 := i_full a
  have h6 := Int.ediv_mul_le x (b := y) (by omega)
  have h7 := Int.mul_nonneg h3 (Int.le_of_lt h2)
  rw [i_sub ha (i_mul (i_div ha hb h1 h2) hb (by omega) (by omega)) (by omega) (by omega), Int.emod_def, Int.mul_comm y]
theorem enc_d {o a : Int} (h0 : 0 ≤ a) (h1 : a ≤ 1000000) (hp : 0 ≤ enc o a) :
    (o = 0 ∧ enc o a / 1048576 = 0 ∧ enc o a % 1048576 = a) ∨ (o = 1 ∧ enc o a / 1048576 = 1 ∧ enc o a % 1048576 = a) ∨ (o = 2 ∧ enc o a / 1048576 = 10) ∨
    (((o = 3 ∧ enc o a / 1048576 = 11) ∨ (o = 4 ∧ enc o a / 1048576 = 12)) ∧ (enc o a % 1048576 = 0 ∨ enc o a % 1048576 = a + 1)) ∨
    (32 ≤ o ∧ ((o = 43 ∧ enc o a / 1048576 = 2) ∨ (o = 45 ∧ enc o a / 1048576 = 3) ∨ (o = 42 ∧ enc o a / 1048576 = 4) ∨ (o = 47 ∧ enc o a / 1048576 = 5) ∨ (o = 37 ∧ enc o a / 1048576 = 6) ∨ (o = 60 ∧ enc o a / 1048576 = 7) ∨ (o = 62 ∧ enc o a / 1048576 = 8) ∨ (o = 61 ∧ enc o a / 1048576 = 9))) := by
  unfold enc at hp ⊢
  by_cases c0 : o = 0
  · rw [if_pos c0]; exact Or.inl ⟨c0, by omega, by omega⟩
  rw [if_neg c0] at hp ⊢
  by_cases c1 : o = 1
  · rw [if_pos c1]; exact Or.inr (Or.inl ⟨c1, by omega, by omega⟩)
  rw [if_neg c1] at hp ⊢
  by_cases c2 : o = 2
  · rw [if_pos c2]; exact Or.inr (Or.inr (Or.inl ⟨c2, by omega⟩))
  rw [if_neg c2] at hp ⊢
  by_cases c3 : o = 3
  · rw [if_pos c3]
    by_cases d : a = 0
    · rw [if_pos d]; exact Or.inr (Or.inr (Or.inr (Or.inl ⟨Or.inl ⟨c3, by omega⟩, by omega⟩)))
    · rw [if_neg d]; exact Or.inr (Or.inr (Or.inr (Or.inl ⟨Or.inl ⟨c3, by omega⟩, by omega⟩)))
  rw [if_neg c3] at hp ⊢
  by_cases c4 : o = 4
  · rw [if_pos c4]
    by_cases d : a = 0
    · rw [if_pos d]; exact Or.inr (Or.inr (Or.inr (Or.inl ⟨Or.inr ⟨c4, by omega⟩, by omega⟩)))
    · rw [if_neg d]; exact Or.inr (Or.inr (Or.inr (Or.inl ⟨Or.inr ⟨c4, by omega⟩, by omega⟩)))
  rw [if_neg c4] at hp ⊢
  refine Or.inr (Or.inr (Or.inr (Or.inr ?_)))
  by_cases d : 0 ≤ sg o
  · rw [if_pos d]
    clear hp c0 c1 c2 c3 c4
    rcases sg_r o with h | h | h | h | h | h
    · omega
    · exact ⟨by omega, Or.inl ⟨h.1, by rw [h.2]; decide⟩⟩
    · exact ⟨by omega, Or.inr (Or.inl ⟨h.1, by rw [h.2]; decide⟩)⟩
    · exact ⟨by omega, Or.inr (Or.inr (Or.inl ⟨h.1, by rw [h.2]; decide⟩))⟩
    · exact ⟨by omega, Or.inr (Or.inr (Or.inr (Or.inl ⟨h.1, by rw [h.2]; decide⟩)))⟩
    · exact ⟨by omega, Or.inr (Or.inr (Or.inr (Or.inr (Or.inl ⟨h.1, by rw [h.2]; decide⟩))))⟩
  · rw [if_neg d] at hp ⊢
    clear d c0 c1 c2 c3 c4
    rcases cp_r o with h | h | h | h
    · exfalso; have h1_ := h.1; omega
    · exact ⟨by omega, Or.inr (Or.inr (Or.inr (Or.inr (Or.inr (Or.inl ⟨h.1, by rw [h.2]; decide⟩)))))⟩
    · exact ⟨by omega, Or.inr (Or.inr (Or.inr (Or.inr (Or.inr (Or.inr (Or.inl ⟨h.1, by rw [h.2]; decide⟩))))))⟩
    · exact ⟨by omega, Or.inr (Or.inr (Or.inr (Or.inr (Or.inr (Or.inr (Or.inr (⟨h.1, by rw [h.2]; decide⟩)))))))⟩
theorem rk_bool {o : Int} {x y : Int32} (h : 7 ≤ o) : rk o x y = 0 ∨ rk o x y = 1 := by
  unfold rk
  rw [if_neg (by omega), if_neg (by omega), if_neg (by omega), if_neg (by omega), if_neg (by omega)]
  repeat' split
  all_goals first | exact Or.inl rfl | exact Or.inr rfl
/-- the Java side's reckoning -/
theorem c_reck {n : Nat} {q : Int} (o x y : Int32) (M : qM) (h : (o.toInt = 43 ∧ q = 2) ∨ (o.toInt = 45 ∧ q = 3) ∨ (o.toInt = 42 ∧ q = 4) ∨ (o.toInt = 47 ∧ q = 5) ∨ (o.toInt = 37 ∧ q = 6) ∨ (o.toInt = 60 ∧ q = 7) ∨ (o.toInt = 62 ∧ q = 8) ∨ (o.toInt = 61 ∧ q = 9)) : qP (f_X1_reckon n o x y M) (fun v m => ((q = 5 ∨ q = 6) ∧ y = 0 ∧ m 34 4 = 1) ∨ (¬ ((q = 5 ∨ q = 6) ∧ y = 0) ∧ v = rk q x y ∧ m = M)) := by
  unfold f_X1_reckon
  refine P_sw rfl l_42 (fun e => ?_) (fun e1 => ?_)
  · have : q = 4 := by omega
    subst this
    exact P_ret (Or.inr ⟨fun z => absurd z.1 (by decide), rfl, rfl⟩)
  refine P_sw rfl l_43 (fun e => ?_) (fun e2 => ?_)
  · have : q = 2 := by omega
    subst this
    exact P_ret (Or.inr ⟨fun z => absurd z.1 (by decide), rfl, rfl⟩)
  refine P_sw rfl l_45 (fun e => ?_) (fun e3 => ?_)
  · have : q = 3 := by omega
    subst this
    exact P_ret (Or.inr ⟨fun z => absurd z.1 (by decide), rfl, rfl⟩)
  refine P_sw rfl l_60 (fun e => ?_) (fun e4 => ?_)
  · have : q = 7 := by omega
    subst this
    exact P_if (fun c => P_ret (Or.inr ⟨fun z => absurd z.1 (by decide), by show _ = (if y ≤ x then (0 : Int32) else 1); rw [if_pos c], rfl⟩)) (fun c => P_ret (Or.inr ⟨fun z => absurd z.1 (by decide), by show _ = (if y ≤ x then (0 : Int32) else 1); rw [if_neg c], rfl⟩))
  refine P_sw rfl l_61 (fun e => ?_) (fun e5 => ?_)
  · have : q = 9 := by omega
    subst this
    exact P_if (fun c => P_ret (Or.inr ⟨fun z => absurd z.1 (by decide), by show _ = (if x = y then (1 : Int32) else 0); rw [if_pos c], rfl⟩)) (fun c => P_ret (Or.inr ⟨fun z => absurd z.1 (by decide), by show _ = (if x = y then (1 : Int32) else 0); rw [if_neg c], rfl⟩))
  refine P_sw rfl l_62 (fun e => ?_) (fun e6 => ?_)
  · have : q = 8 := by omega
    subst this
    exact P_if (fun c => P_ret (Or.inr ⟨fun z => absurd z.1 (by decide), by show _ = (if x ≤ y then (0 : Int32) else 1); rw [if_pos c], rfl⟩)) (fun c => P_ret (Or.inr ⟨fun z => absurd z.1 (by decide), by show _ = (if x ≤ y then (0 : Int32) else 1); rw [if_neg c], rfl⟩))
  refine P_sw0 (P_if (fun c => ?_) (fun c => ?_))
  · exact P_qlm (P_ret (Or.inl ⟨by omega, c, mu_at⟩))
  · refine P_eq rfl l_47 (fun e => P_qd ?_) (fun e => P_qd ?_)
    · have : q = 5 := by omega
      subst this
      exact P_ret (Or.inr ⟨fun z => c z.2, rfl, rfl⟩)
    · have : q = 6 := by omega
      subst this
      exact P_ret (Or.inr ⟨fun z => c z.2, rfl, rfl⟩)
/-- the model's reckoning -/
theorem m_reck {n : Nat} (o x y : Int32) (M : qM) (h : 2 ≤ o.toInt ∧ o.toInt ≤ 9) : qP (f_X12_reckon n o x y M) (fun v m => v = rk o.toInt x y ∧ m = M) := by
  unfold f_X12_reckon
  refine P_sw rfl l_2 (fun e => ?_) (fun e2 => ?_)
  · rw [e]; exact P_ret ⟨rfl, rfl⟩
  refine P_sw rfl l_3 (fun e => ?_) (fun e3 => ?_)
  · rw [e]; exact P_ret ⟨rfl, rfl⟩
  refine P_sw rfl l_4 (fun e => ?_) (fun e4 => ?_)
  · rw [e]; exact P_ret ⟨rfl, rfl⟩
  refine P_sw rfl l_5 (fun e => ?_) (fun e5 => ?_)
  · rw [e]; exact P_qd (P_ret ⟨rfl, rfl⟩)
  refine P_sw rfl l_6 (fun e => ?_) (fun e6 => ?_)
  · rw [e]; exact P_qd (P_ret ⟨rfl, rfl⟩)
  refine P_sw rfl l_7 (fun e => ?_) (fun e7 => ?_)
  · rw [e]
    exact P_if (fun c => P_ret ⟨by show _ = (if y ≤ x then (0 : Int32) else 1); rw [if_pos c], rfl⟩) (fun c => P_ret ⟨by show _ = (if y ≤ x then (0 : Int32) else 1); rw [if_neg c], rfl⟩)
  refine P_sw rfl l_8 (fun e => ?_) (fun e8 => ?_)
  · rw [e]
    exact P_if (fun c => P_ret ⟨by show _ = (if x ≤ y then (0 : Int32) else 1); rw [if_pos c], rfl⟩) (fun c => P_ret ⟨by show _ = (if x ≤ y then (0 : Int32) else 1); rw [if_neg c], rfl⟩)
  have e9 : o.toInt = 9 := by omega
  rw [e9]
  exact P_sw0 (P_if (fun c => P_ret ⟨by show _ = (if x = y then (1 : Int32) else 0); rw [if_pos c], rfl⟩) (fun c => P_ret ⟨by show _ = (if x = y then (1 : Int32) else 0); rw [if_neg c], rfl⟩))
