/-! FACTS: what both sides tell a law -/
abbrev FE (F H : Nat → Int32) : Prop := ∀ i, i ≤ 11 → F i = H i
theorem FE_sy {F H : Nat → Int32} (h : FE F H) : FE H F := fun i hi => (h i hi).symm
theorem FE_tr {F H L : Nat → Int32} (h : FE F H) (k : FE H L) : FE F L := fun i hi => (h i hi).trans (k i hi)
theorem evS_r {cd : Nat → Int} {F : Nat → Int32} {f t k k' b : Nat} {S S' : List Int32} (hg : gd b f t cd) (hf : f ≤ k) (hkt : k < t) (he : evS cd F k S = some (k', S')) : f ≤ k' ∧ k' ≤ t := by
  obtain ⟨i0, i1, i2, i3⟩ := hg.2.2.1 k hf hkt
  unfold evS at he
  by_cases k0 : cd k / 1048576 = 0
  · rw [if_pos k0] at he
    injection he with he; injection he with e1 e2
    omega
  rw [if_neg k0] at he
  by_cases k1 : cd k / 1048576 = 1
  · rw [if_pos k1] at he
    injection he with he; injection he with e1 e2
    omega
  rw [if_neg k1] at he
  by_cases k10 : cd k / 1048576 = 10
  · rw [if_pos k10] at he
    injection he with he; injection he with e1 e2
    omega
  rw [if_neg k10] at he
  by_cases kj : cd k / 1048576 = 11 ∨ cd k / 1048576 = 12
  · rw [if_pos kj] at he
    have hz : (k : Int) < cd k % 1048576 ∧ cd k % 1048576 ≤ (t : Int) := by
      rcases i3 with z | z | z | z | z
      · omega
      · omega
      · omega
      · have := z.2.2.resolve_left (fun q => q)
        exact ⟨this.1, this.2.1⟩
      · omega
    clear i3
    by_cases c1 : S.headD 0 = (if cd k / 1048576 = 12 then (1 : Int32) else 0)
    · rw [if_pos c1] at he
      injection he with he; injection he with e1 e2
      omega
    · rw [if_neg c1] at he
      injection he with he; injection he with e1 e2
      omega
  rw [if_neg kj] at he
  by_cases c0 : (cd k / 1048576 = 5 ∨ cd k / 1048576 = 6) ∧ S.headD 0 = 0
  · rw [if_pos c0] at he; cases he
  · rw [if_neg c0] at he
    injection he with he; injection he with e1 e2
    omega
theorem ev_F {cd : Nat → Int} {F H : Nat → Int32} (hF : FE F H) {f t b : Nat} (hg : gd b f t cd) : ∀ (m k : Nat) (S : List Int32), f ≤ k → k ≤ t → ev cd F t m k S = ev cd H t m k S := by
  intro m
  induction m with
  | zero => intro k S _ _; rfl
  | succ m ih =>
    intro k S hf hk
    by_cases c : t ≤ k
    · rw [ev_e c, ev_e c]
    · have hkt : k < t := by omega
      have hS : evS cd F k S = evS cd H k S := by
        obtain ⟨i0, i1, i2, i3⟩ := hg.2.2.1 k hf hkt
        unfold evS
        by_cases k0 : cd k / 1048576 = 0
        · rw [if_pos k0, if_pos k0]
        rw [if_neg k0, if_neg k0]
        by_cases k1 : cd k / 1048576 = 1
        · have hz : cd k % 1048576 ≤ 11 := by
            rcases i3 with z | z | z | z | z
            · omega
            · exact z.2
            · omega
            · omega
            · omega
          rw [if_pos k1, if_pos k1, hF _ (by omega)]
        · rw [if_neg k1, if_neg k1]
      cases he : evS cd F k S with
      | none => rw [ev_n hkt he, ev_n hkt (by rw [← hS]; exact he)]
      | some q =>
        obtain ⟨k', S'⟩ := q
        have hr := evS_r hg hf hkt he
        rw [ev_s hkt he, ev_s hkt (show evS cd H k S = some (k', S') by rw [← hS]; exact he)]
        exact ih k' S' hr.1 hr.2
theorem EV_F {C : List Int} {F H : Nat → Int32} (hF : FE F H) {n s t b : Nat} (hg : gd b s t (cdl C)) : EV C F n s t = EV C H n s t := ev_F hF hg n s [] (Nat.le_refl _) (Nat.le_of_lt hg.1)
theorem amtL_F {C : List Int} {n : Nat} {F H : Nat → Int32} (hF : FE F H) {c : Int} (hc : c ≠ 97) {hi : Int32} : ∀ {K : List Kl}, Kg (cdl C) C.length K → ∀ x : Int32, amtL C n F c hi K x = amtL C n H c hi K x := by
  intro K
  induction K with
  | nil => intro _ x; rfl
  | cons q r ih =>
    intro hK x
    obtain ⟨s, h, e, g1, g2, g3, g4, g5, g6, g7, g8, g9⟩ := hK q (List.mem_cons_self)
    have hr : Kg (cdl C) C.length r := fun y hy => hK y (List.mem_cons_of_mem _ hy)
    have e1 : EV C F n q.2.2.1.toNat q.2.2.2.toNat = EV C H n q.2.2.1.toNat q.2.2.2.toNat := by rw [g2, g3]; exact EV_F hF g9
    show (if q.1 = c then (if EV C F n q.2.2.1.toNat q.2.2.2.toNat = 0 then amtL C n F c hi r 0 else qmax 0 (qmin hi (EV C F n q.2.1.toNat q.2.2.1.toNat))) else amtL C n F c hi r x) = (if q.1 = c then (if EV C H n q.2.2.1.toNat q.2.2.2.toNat = 0 then amtL C n H c hi r 0 else qmax 0 (qmin hi (EV C H n q.2.1.toNat q.2.2.1.toNat))) else amtL C n H c hi r x)
    by_cases d : q.1 = c
    · have e2 : EV C F n q.2.1.toNat q.2.2.1.toNat = EV C H n q.2.1.toNat q.2.2.1.toNat := by rw [g1, g2]; exact EV_F hF (g8.resolve_left (fun z => hc (by rw [← d]; exact z)))
      rw [if_pos d, if_pos d, e1, e2, ih hr 0]
    · rw [if_neg d, if_neg d, ih hr x]
theorem anyL_F {C : List Int} {n : Nat} {F H : Nat → Int32} (hF : FE F H) : ∀ {K : List Kl}, Kg (cdl C) C.length K → anyL C n F K = anyL C n H K := by
  intro K
  induction K with
  | nil => intro _; rfl
  | cons q r ih =>
    intro hK
    obtain ⟨s, h, e, g1, g2, g3, g4, g5, g6, g7, g8, g9⟩ := hK q (List.mem_cons_self)
    have hr : Kg (cdl C) C.length r := fun y hy => hK y (List.mem_cons_of_mem _ hy)
    have e1 : EV C F n q.2.2.1.toNat q.2.2.2.toNat = EV C H n q.2.2.1.toNat q.2.2.2.toNat := by rw [g2, g3]; exact EV_F hF g9
    show (if q.1 = 97 then (if EV C F n q.2.2.1.toNat q.2.2.2.toNat = 0 then anyL C n F r else 1) else anyL C n F r) = (if q.1 = 97 then (if EV C H n q.2.2.1.toNat q.2.2.2.toNat = 0 then anyL C n H r else 1) else anyL C n H r)
    rw [e1, ih hr]
def fx (k h x j y m d p q n o w : Int32) : Nat → Int32
  | 0 => k
  | 1 => h
  | 2 => x
  | 3 => j
  | 4 => y
  | 5 => m
  | 6 => d
  | 7 => p
  | 8 => q
  | 9 => n
  | 10 => o
  | 11 => w
  | _ => 0
theorem FE_mk {F : Nat → Int32} {k h x j y m d p q n o w : Int32} (e0 : F 0 = k) (e1 : F 1 = h) (e2 : F 2 = x) (e3 : F 3 = j) (e4 : F 4 = y) (e5 : F 5 = m) (e6 : F 6 = d) (e7 : F 7 = p) (e8 : F 8 = q) (e9 : F 9 = n) (e10 : F 10 = o) (e11 : F 11 = w) : FE F (fx k h x j y m d p q n o w) := by
  intro i hi
  rcases (show i = 0 ∨ i = 1 ∨ i = 2 ∨ i = 3 ∨ i = 4 ∨ i = 5 ∨ i = 6 ∨ i = 7 ∨ i = 8 ∨ i = 9 ∨ i = 10 ∨ i = 11 by omega) with rfl | rfl | rfl | rfl | rfl | rfl | rfl | rfl | rfl | rfl | rfl | rfl
  · exact e0
  · exact e1
  · exact e2
  · exact e3
  · exact e4
  · exact e5
  · exact e6
  · exact e7
  · exact e8
  · exact e9
  · exact e10
  · exact e11
/-! bits -/
abbrev bitI (b : Int32) (i : Nat) : Prop := ((b >>> (nI i &&& 31)) &&& (1 : Int32)) = 1
theorem n_shr {p m : Nat} (hp : p < 2 ^ 31) (hm : m < 32) : nI p >>> (nI m &&& 31) = nI (p >>> m) := by
  apply Int32.toBitVec_inj.1
  rw [Int32.toBitVec_shiftRight]
  have s := (by decide +kernel : ∀ n, n < 32 → ((nI n &&& 31).toBitVec.smod 32).toNat = n) m hm
  show (BitVec.ofNat 32 p).sshiftRight ((nI m &&& 31).toBitVec.smod 32).toNat = BitVec.ofNat 32 (p >>> m)
  rw [s]
  apply BitVec.eq_of_toNat_eq
  have hms : (BitVec.ofNat 32 p).msb = false := by
    rw [BitVec.msb_eq_false_iff_two_mul_lt, BitVec.toNat_ofNat]
    omega
  rw [BitVec.sshiftRight_eq_of_msb_false hms, BitVec.toNat_ushiftRight, BitVec.toNat_ofNat, BitVec.toNat_ofNat, Nat.mod_eq_of_lt (by omega), Nat.mod_eq_of_lt]
  have := Nat.shiftRight_le p m
  omega
theorem bit_n {m i : Nat} (hm : m < 2 ^ 31) (hi : i < 32) : bitI (nI m) i ↔ m.testBit i = true := by
  have e1 : (nI m >>> (nI i &&& 31)) &&& (1 : Int32) = nI (m / 2 ^ i % 2) := by
    rw [n_shr hm hi, show (1 : Int32) = nI 1 from rfl, n_and, Nat.and_one_is_mod, Nat.shiftRight_eq_div_pow]
  show (nI m >>> (nI i &&& 31)) &&& (1 : Int32) = 1 ↔ _
  rw [e1, Nat.testBit_eq_decide_div_mod_eq, decide_eq_true_eq]
  have h2 : m / 2 ^ i % 2 < 2 := Nat.mod_lt _ (by decide)
  generalize m / 2 ^ i % 2 = z at h2
  rcases (show z = 0 ∨ z = 1 by omega) with rfl | rfl <;> decide
theorem bit_or {b i a : Nat} (hb : b < 4096) (hi : i < 12) (ha : a < 12) : (bitI (nI b ||| ((1 : Int32) <<< (nI a &&& 31))) i ↔ (i = a ∨ bitI (nI b) i)) ∧ ∃ c, c < 4096 ∧ nI b ||| ((1 : Int32) <<< (nI a &&& 31)) = nI c := by
  have e1 : (1 : Int32) <<< (nI a &&& 31) = nI (2 ^ a) := (by decide +kernel : ∀ a, a < 12 → (1 : Int32) <<< (nI a &&& 31) = nI (2 ^ a)) a ha
  have h2 : 2 ^ a < 2 ^ 12 := Nat.pow_lt_pow_right (by decide) ha
  have h3 : b ||| 2 ^ a < 2 ^ 12 := Nat.or_lt_two_pow hb h2
  rw [e1, n_or]
  refine ⟨?_, b ||| 2 ^ a, h3, rfl⟩
  rw [bit_n (by omega) (by omega), bit_n (by omega) (by omega), Nat.testBit_or, Nat.testBit_two_pow]
  simp only [Bool.or_eq_true, decide_eq_true_eq]
  constructor
  · rintro (z | z)
    · exact Or.inr z
    · exact Or.inl z.symm
  · rintro (z | z)
    · exact Or.inr z.symm
    · exact Or.inl z
theorem bit_0 {i : Nat} (hi : i < 12) : ¬ bitI (nI 0) i := by
  rw [bit_n (by decide) (by omega)]
  simp
theorem nI_i {a : Int32} {k : Nat} (h : a.toInt = (k : Int)) : a = nI k := by
  have h1 := i_full a
  exact Int32.toInt_inj.mp (by rw [nI_toInt (by omega), h])
theorem nI_n0 {k : Nat} (h : k < 2 ^ 31) : ¬ nI k < (0 : Int32) := by
  rw [Int32.lt_iff_toInt_lt, nI_toInt h]
  have z : (0 : Int32).toInt = 0 := rfl
  omega
/-! deeds told, and whether they are alike -/
theorem c_fill {n c len : Nat} (hl : len ≤ 1000) (a1 : Int32) : ∀ (m : Nat) (a2 a3 : Int32) (M : qM), 0 ≤ a2.toInt → a3.toInt = (len : Int) → qP (f_J7_fill_53178_5 n c len m a1 a2 a3 M) (fun _ m' => (∀ c2, c2 ≠ c → m' c2 = M c2) ∧ ∀ i : Nat, ((i : Int) < a2.toInt → m' c i = M c i) ∧ (a2.toInt ≤ (i : Int) → i < len → m' c i = a1)) := by
  intro m
  induction m with
  | zero => intro a2 a3 M _ _; exact P_none
  | succ m ih =>
    intro a2 a3 M h0 h3
    show qP (b_J7_fill_53178_5 n c len (f_J7_fill_53178_5 n c len m) a1 a2 a3 M) _
    unfold b_J7_fill_53178_5
    refine P_le rfl rfl (fun h => P_ret ⟨fun _ _ => rfl, fun i => ⟨fun _ => rfl, fun h1 h2 => by omega⟩⟩) (fun hlt => ?_)
    refine P_qg (fun _ hg => P_m (fun m1 b1 b2 b3 => P_ql (i_add rfl l_1 (by omega) (by omega)) (fun x hx => ?_)))
    refine P_mono (ih x a3 m1 (by omega) h3) (fun v m' h => ?_)
    obtain ⟨e1, e2⟩ := h
    refine ⟨fun c2 hc => by rw [e1 c2 hc, b3 c2 hc], fun i => ⟨fun hi => ?_, fun h1 h2 => ?_⟩⟩
    · rw [(e2 i).1 (by omega), b2 i (by rw [tnc]; omega)]
    · by_cases q : i = a2.toNatClampNeg
      · rw [(e2 i).1 (by rw [q, tnc]; omega), q, b1]
      · exact (e2 i).2 (by rw [tnc] at q; omega) h2
theorem c_deed {n : Nat} (k h x d : Int32) (M : qM) : qP (f_X1_tellDeed n k h x d M) (fun _ m => FE (m 35) (fx k h x 0 0 0 d 0 0 0 0 0) ∧ ∀ c, c ≠ 35 → m c = M c) := by
  unfold f_X1_tellDeed f_J7_fill_53178
  refine P_qc (P_ql rfl (fun x1 hx1 => c_fill (len := 12) (by decide) 0 n 0 x1 M (by rw [l_0]; omega) (by rw [hx1]; decide))) ?_
  rintro _ m1 ⟨e1, e2⟩
  have z : ∀ i : Nat, i < 12 → m1 35 i = 0 := fun i hi => (e2 i).2 (by rw [l_0]; omega) hi
  refine P_m (fun m2 a1 a2 a3 => P_m (fun m3 b1 b2 b3 => P_m (fun m4 c1 c2 c3 => P_m (fun m5 d1 d2 d3 => P_ret ⟨?_, fun c hc => ?_⟩))))
  · have o : ∀ i, i < 12 → i ≠ 0 → i ≠ 1 → i ≠ 2 → i ≠ 6 → m5 35 i = 0 := fun i hi q0 q1 q2 q6 => by rw [d2 i q6, c2 i q2, b2 i q1, a2 i q0, z i hi]
    exact FE_mk (by rw [d2 0 (by decide), c2 0 (by decide), b2 0 (by decide), a1]) (by rw [d2 1 (by decide), c2 1 (by decide), b1]) (by rw [d2 2 (by decide), c1]) (o 3 (by decide) (by decide) (by decide) (by decide) (by decide)) (o 4 (by decide) (by decide) (by decide) (by decide) (by decide)) (o 5 (by decide) (by decide) (by decide) (by decide) (by decide)) d1 (o 7 (by decide) (by decide) (by decide) (by decide) (by decide)) (o 8 (by decide) (by decide) (by decide) (by decide) (by decide)) (o 9 (by decide) (by decide) (by decide) (by decide) (by decide)) (o 10 (by decide) (by decide) (by decide) (by decide) (by decide)) (o 11 (by decide) (by decide) (by decide) (by decide) (by decide))
  · rw [d3 c hc, c3 c hc, b3 c hc, a3 c hc, e1 c hc]
abbrev FD (F : Nat → Int32) (k h x d : Int32) : Prop := (F 0 = k ∧ F 1 = h ∧ F 2 = x ∧ F 6 = d) ∧ F 7 = 0 ∧ F 8 = 0 ∧ F 9 = 0 ∧ F 10 = 0 ∧ F 11 = 0
theorem FD_of {F : Nat → Int32} {k h x j y m d : Int32} (e : FE F (fx k h x j y m d 0 0 0 0 0)) : FD F k h x d := ⟨⟨e 0 (by decide), e 1 (by decide), e 2 (by decide), e 6 (by decide)⟩, e 7 (by decide), e 8 (by decide), e 9 (by decide), e 10 (by decide), e 11 (by decide)⟩
theorem c_isAlike {n : Nat} (hn : 200000 ≤ n) {j : Nat} (hj : q_isLaw j) {C : List Int} {K : List Kl} (hK : Kg (cdl C) C.length K) (a1 : Int32) (M : qM) (hG : G M) (hL : LJ j M C K) {k h x d : Int32} (hF : FD (M 35) k h x d) : qP (f_X1_isAlike n j a1 M) (fun v _ => v = anyL C n (fx k h x a1 (M 5 a1.toNatClampNeg) (bcv (x &&& M 5 a1.toNatClampNeg)) d 0 0 0 0 0) K) := by
  obtain ⟨⟨f0, f1, f2, f6⟩, f7, f8, f9, f10, f11⟩ := hF
  unfold f_X1_isAlike
  refine P_g hG (rn_35 _ _) (nw_35 _) ?_
  intro m1 a1' a2 a3 g1
  refine P_qg (fun _ _ => ?_)
  rw [a3 5 (by decide)]
  refine P_g g1 (rn_35 _ _) (nw_35 _) ?_
  intro m2 b1 b2 b3 g2
  refine P_qg (fun _ _ => ?_)
  rw [bc_val, qc_v, b2 2 (by decide), a2 2 (by decide), f2, b3 5 (by decide), a3 5 (by decide)]
  refine P_g g2 (rn_35 _ _) (nw_35 _) ?_
  intro m5 c1 c2 c3 g5
  have n35 : ∀ q, q ≤ 6 → j + q ≠ 35 := fun q hq => by rcases hj with rfl | rfl <;> omega
  have hL5 : LJ j m5 C K := LJ_cg hL (fun q hq => by rw [c3 _ (n35 q hq), b3 _ (n35 q hq), a3 _ (n35 q hq)])
  refine P_mono (c_any49 hn hj hK n 0 (0 : Int32) m5 g5 hL5 rfl l_0 (Nat.zero_le _)) (fun v _ e => ?_)
  rw [e]
  refine anyL_F (FE_mk ?_ ?_ ?_ ?_ ?_ c1 ?_ ?_ ?_ ?_ ?_ ?_) hK
  · rw [c2 0 (by decide), b2 0 (by decide), a2 0 (by decide), f0]
  · rw [c2 1 (by decide), b2 1 (by decide), a2 1 (by decide), f1]
  · rw [c2 2 (by decide), b2 2 (by decide), a2 2 (by decide), f2]
  · rw [c2 3 (by decide), b2 3 (by decide), a1']
  · rw [c2 4 (by decide), b1]
  · rw [c2 6 (by decide), b2 6 (by decide), a2 6 (by decide), f6]
  · rw [c2 7 (by decide), b2 7 (by decide), a2 7 (by decide), f7]
  · rw [c2 8 (by decide), b2 8 (by decide), a2 8 (by decide), f8]
  · rw [c2 9 (by decide), b2 9 (by decide), a2 9 (by decide), f9]
  · rw [c2 10 (by decide), b2 10 (by decide), a2 10 (by decide), f10]
  · rw [c2 11 (by decide), b2 11 (by decide), a2 11 (by decide), f11]
/-- the model tells a deed -/
theorem d_deed2 {n : Nat} (a1 : Int32) : ∀ (m : Nat) (a2 : Int32) (M : qM), 0 ≤ a2.toInt → (∀ i : Nat, (i : Int) < a2.toInt → M 97 i = 0) → qP (f_X12_feelsKind_2 n m a1 a2 M) (fun _ m' => FE (m' 97) (fx a1 (M 81 a1.toNatClampNeg) (M 82 a1.toNatClampNeg) 0 0 0 (M 78 313) 0 0 0 0 0) ∧ ∀ c, c ≠ 97 → m' c = M c) := by
  intro m
  induction m with
  | zero => intro a2 M _ _; exact P_none
  | succ m ih =>
    intro a2 M h0 hz
    show qP (b_X12_feelsKind_2 n (f_X12_feelsKind_2 n m) a1 a2 M) _
    unfold b_X12_feelsKind_2
    refine P_le l_12 rfl (fun hle => ?_) (fun hlt => ?_)
    · have z : ∀ i : Nat, i < 12 → M 97 i = 0 := fun i hi => hz i (by omega)
      refine P_m (fun m2 a1' a2' a3 => P_qg (fun _ _ => ?_))
      rw [a3 81 (by decide)]
      refine P_m (fun m3 b1 b2 b3 => P_qg (fun _ _ => ?_))
      rw [b3 82 (by decide), a3 82 (by decide)]
      refine P_m (fun m4 c1 c2 c3 => ?_)
      rw [c3 78 (by decide), b3 78 (by decide), a3 78 (by decide)]
      refine P_m (fun m5 d1 d2 d3 => P_ret ⟨?_, fun c hc => ?_⟩)
      · have o : ∀ i, i < 12 → i ≠ 0 → i ≠ 1 → i ≠ 2 → i ≠ 6 → m5 97 i = 0 := fun i hi q0 q1 q2 q6 => by rw [d2 i q6, c2 i q2, b2 i q1, a2' i q0, z i hi]
        exact FE_mk (by rw [d2 0 (by decide), c2 0 (by decide), b2 0 (by decide), a1']) (by rw [d2 1 (by decide), c2 1 (by decide), b1]) (by rw [d2 2 (by decide), c1]) (o 3 (by decide) (by decide) (by decide) (by decide) (by decide)) (o 4 (by decide) (by decide) (by decide) (by decide) (by decide)) (o 5 (by decide) (by decide) (by decide) (by decide) (by decide)) d1 (o 7 (by decide) (by decide) (by decide) (by decide) (by decide)) (o 8 (by decide) (by decide) (by decide) (by decide) (by decide)) (o 9 (by decide) (by decide) (by decide) (by decide) (by decide)) (o 10 (by decide) (by decide) (by decide) (by decide) (by decide)) (o 11 (by decide) (by decide) (by decide) (by decide) (by decide))
      · rw [d3 c hc, c3 c hc, b3 c hc, a3 c hc]
    · refine P_qg (fun _ hg => P_m (fun m1 b1 b2 b3 => P_ql (i_add rfl l_1 (by omega) (by omega)) (fun x hx => ?_)))
      refine P_mono (ih x m1 (by omega) (fun i hi => ?_)) (fun v m' h => ?_)
      · by_cases q : i = a2.toNatClampNeg
        · rw [q]; exact b1
        · rw [b2 i q]; exact hz i (by rw [tnc] at q; omega)
      · rw [b3 81 (by decide), b3 82 (by decide), b3 78 (by decide)] at h
        exact ⟨h.1, fun c hc => by rw [h.2 c hc, b3 c hc]⟩
theorem d_deed {n : Nat} (a1 : Int32) (M : qM) : qP (f_X12_feelsKind n a1 M) (fun _ m' => FE (m' 97) (fx a1 (M 81 a1.toNatClampNeg) (M 82 a1.toNatClampNeg) 0 0 0 (M 78 313) 0 0 0 0 0) ∧ ∀ c, c ≠ 97 → m' c = M c) := by
  unfold f_X12_feelsKind
  exact d_deed2 a1 n (0 : Int32) M (by rw [l_0]; omega) (fun i hi => by rw [l_0] at hi; omega)
/-- whether a deed of kind k finds one of kind i alike -/
def lkv (C : List Int) (K : List Kl) (n : Nat) (H X : Nat → Int32) (d : Int32) (k i : Nat) : Int32 := if k = i then 1 else anyL C n (fx (nI k) (H k) (X k) (nI i) (X i) (mbs (X k &&& X i) 12) d 0 0 0 0 0) K
theorem d_isLike {n : Nat} (hn : 200000 ≤ n) {C : List Int} {K : List Kl} (hK : Kg (cdl C) C.length K) (h240 : C.length ≤ 240) {k i : Nat} (hk : k ≤ 12) (hi : i < 12) (M : qM) (hG : G M) (hL : LM M C K) : qP (f_X12_isLike n (nI k) (nI i) M) (fun v _ => v = lkv C K n (M 81) (M 82) (M 78 313) k i) := by
  have ek : (nI k).toNatClampNeg = k := by rw [tnc, nI_toInt (by omega)]; rfl
  have ei : (nI i).toNatClampNeg = i := by rw [tnc, nI_toInt (by omega)]; rfl
  unfold f_X12_isLike lkv
  refine P_eq rfl rfl (fun c => P_ret ?_) (fun c => ?_)
  · rw [nI_toInt (by omega), nI_toInt (by omega)] at c
    rw [if_pos (by omega)]
  · rw [nI_toInt (by omega), nI_toInt (by omega)] at c
    rw [if_neg (show ¬ k = i by omega)]
    refine P_qc (P_and (d_deed (nI k) M) (P_T (t_X12_feelsKind hn (nI k) M hG (by rw [nI_toInt (by omega)]; omega)))) ?_
    rintro _ m1 ⟨⟨hF, e1⟩, _, g1, _⟩
    rw [ek] at hF
    refine P_g g1 (rn_97 _ _) (nw_97 _) ?_
    intro m2 a1 a2 a3 g2
    refine P_qg (fun _ _ => ?_)
    rw [ei, a3 82 (by decide), e1 82 (by decide)]
    refine P_g g2 (rn_97 _ _) (nw_97 _) ?_
    intro m3 b1 b2 b3 g3
    refine P_qg (fun _ _ => P_qg (fun _ _ => ?_))
    rw [ek, b3 82 (by decide), a3 82 (by decide), e1 82 (by decide), bits_val (by omega), qc_v]
    refine P_g g3 (rn_97 _ _) (nw_97 _) ?_
    intro m6 c1 c2 c3 g6
    have e6 : ∀ c, c ≠ 97 → m6 c = M c := fun c hc => by rw [c3 c hc, b3 c hc, a3 c hc, e1 c hc]
    refine P_mono (d_any55 hn hK h240 n 0 (0 : Int32) m6 g6 (LM_cg hL (fun c h1 h2 => e6 c (by omega)) (by rw [e6 77 (by decide)])) rfl l_0 (Nat.zero_le _)) (fun v _ e => ?_)
    rw [e]
    refine anyL_F (FE_mk ?_ ?_ ?_ ?_ ?_ c1 ?_ ?_ ?_ ?_ ?_ ?_) hK
    · rw [c2 0 (by decide), b2 0 (by decide), a2 0 (by decide)]; exact hF 0 (by decide)
    · rw [c2 1 (by decide), b2 1 (by decide), a2 1 (by decide)]; exact hF 1 (by decide)
    · rw [c2 2 (by decide), b2 2 (by decide), a2 2 (by decide)]; exact hF 2 (by decide)
    · rw [c2 3 (by decide), b2 3 (by decide), a1]
    · rw [c2 4 (by decide), b1]
    · rw [c2 6 (by decide), b2 6 (by decide), a2 6 (by decide)]; exact hF 6 (by decide)
    · rw [c2 7 (by decide), b2 7 (by decide), a2 7 (by decide)]; exact hF 7 (by decide)
    · rw [c2 8 (by decide), b2 8 (by decide), a2 8 (by decide)]; exact hF 8 (by decide)
    · rw [c2 9 (by decide), b2 9 (by decide), a2 9 (by decide)]; exact hF 9 (by decide)
    · rw [c2 10 (by decide), b2 10 (by decide), a2 10 (by decide)]; exact hF 10 (by decide)
    · rw [c2 11 (by decide), b2 11 (by decide), a2 11 (by decide)]; exact hF 11 (by decide)
/-- marks of all kinds lie in 0 to 255 -/
abbrev MK (X : Nat → Int32) : Prop := ∀ i, i < 12 → 0 ≤ (X i).toInt ∧ (X i).toInt ≤ 255
theorem bc_mk {x y : Int32} (h : 0 ≤ x.toInt ∧ x.toInt ≤ 255) : bcv (x &&& y) = mbs (x &&& y) 12 := by
  have h1 := i_andl (b := y) (a := x) rfl h.1
  obtain ⟨z, hz, e⟩ := nI_of (x := x &&& y) (by rw [Int32.lt_iff_toInt_lt]; show ¬ (x &&& y).toInt < 0; omega)
  rw [e]
  rw [e, nI_toInt hz] at h1
  exact fa_bc z (by omega)
theorem c_kn {n i : Nat} (hi : i < 12) (M : qM) : f_X2_knows n (nI i) M = some ((if bitI (M 3 3) i then 1 else 0), M) :=
  kn_eq (nI_n0 (by omega)) (nI_ge (a := i) (b := 12) (by omega) (by decide))
theorem d_kn {n i : Nat} (hi : i < 12) (M : qM) : f_X12_isKind n (nI i) M = some ((if bitI (M 77 6) i then 1 else 0), M) :=
  ik_eq (nI_n0 (by omega)) (nI_ge (a := i) (b := 12) (by omega) (by decide))
/-- the Java side's bits of the kinds alike -/
theorem c_alikes29 {n : Nat} (hn : 200000 ≤ n) {j : Nat} (hj : q_isLaw j) {C : List Int} {K : List Kl} (hK : Kg (cdl C) C.length K) {H X : Nat → Int32} (hX : MK X) {d told : Int32} {k : Nat} (hk : k < 12) : ∀ (m i b : Nat) (M : qM), G M → LJ j M C K → M 5 = X → M 3 3 = told → FD (M 35) (nI k) (H k) (X k) d → i ≤ 12 → b < 4096 → (∀ q, q < i → (bitI (nI b) q ↔ (q = k ∨ (bitI told q ∧ lkv C K n H X d k q ≠ 0)))) → (∀ q, i ≤ q → q < 12 → ¬ bitI (nI b) q) → qP (f_X1_alikes_29 n j m (nI k) (nI b) (nI i) M) (fun v _ => ∀ q, q < 12 → (bitI v q ↔ (q = k ∨ (bitI told q ∧ lkv C K n H X d k q ≠ 0)))) := by
  intro m
  induction m with
  | zero => intro i b M _ _ _ _ _ _ _ _ _; exact P_none
  | succ m ih =>
    intro i b M hG hL h5 h3 hF hi hb hlo hhi
    show qP (b_X1_alikes_29 n j (f_X1_alikes_29 n j m) (nI k) (nI b) (nI i) M) _
    unfold b_X1_alikes_29
    have ti : (nI i).toInt = (i : Int) := nI_toInt (by omega)
    refine P_le l_12 ti (fun c => P_ret ?_) (fun c => ?_)
    · intro q hq; exact hlo q (by omega)
    · have hi12 : i < 12 := by omega
      have enx : ∀ x : Int32, x.toInt = (i : Int) + 1 → x = nI (i + 1) := fun x hx => nI_i (by rw [hx]; omega)
      have yes : ∀ m5 : qM, (i = k ∨ (bitI told i ∧ lkv C K n H X d k i ≠ 0)) → G m5 → LJ j m5 C K → m5 5 = X → m5 3 3 = told → FD (m5 35) (nI k) (H k) (X k) d → qP (f_X1_alikes_63 n j (f_X1_alikes_29 n j m) (nI k) (nI b) (nI i) m5) (fun v _ => ∀ q, q < 12 → (bitI v q ↔ (q = k ∨ (bitI told q ∧ lkv C K n H X d k q ≠ 0)))) := by
        intro m5 hy g5 l5 x5 t5 f5
        unfold f_X1_alikes_63
        obtain ⟨_, c', hc', ec⟩ := bit_or (i := 0) hb (by decide) hi12
        have bo : ∀ q, q < 12 → (bitI (nI c') q ↔ (q = i ∨ bitI (nI b) q)) := fun q hq => by rw [← ec]; exact (bit_or hb hq hi12).1
        rw [ec]
        refine P_ql rfl (fun x1 hx1 => P_ql (i_add ti l_1 (by omega) (by omega)) (fun x2 hx2 => ?_))
        have e1 : x1 = nI c' := Int32.toInt_inj.mp hx1
        rw [e1, enx x2 hx2]
        refine ih (i + 1) c' m5 g5 l5 x5 t5 f5 (by omega) hc' (fun q hq => ?_) (fun q h1 h2 => ?_)
        · rw [bo q (by omega)]
          by_cases e : q = i
          · rw [e]; exact ⟨fun _ => hy, fun _ => Or.inl rfl⟩
          · rw [← hlo q (by omega)]
            exact ⟨fun z => z.resolve_left e, fun z => Or.inr z⟩
        · rw [bo q h2]
          intro z
          rcases z with z | z
          · omega
          · exact hhi q (by omega) h2 z
      have no : ∀ (m5 : qM) (x : Int32), x.toInt = (i : Int) + 1 → ¬ (i = k ∨ (bitI told i ∧ lkv C K n H X d k i ≠ 0)) → G m5 → LJ j m5 C K → m5 5 = X → m5 3 3 = told → FD (m5 35) (nI k) (H k) (X k) d → qP (f_X1_alikes_29 n j m (nI k) (nI b) x m5) (fun v _ => ∀ q, q < 12 → (bitI v q ↔ (q = k ∨ (bitI told q ∧ lkv C K n H X d k q ≠ 0)))) := by
        intro m5 x hx hno g5 l5 x5 t5 f5
        rw [enx x hx]
        refine ih (i + 1) b m5 g5 l5 x5 t5 f5 (by omega) hb (fun q hq => ?_) (fun q h1 h2 => hhi q (by omega) h2)
        by_cases e : q = i
        · rw [e]; exact ⟨fun z => absurd z (hhi i (Nat.le_refl _) hi12), fun z => absurd z hno⟩
        · exact hlo q (by omega)
      refine P_eq ti (nI_toInt (by omega)) (fun c2 => yes M (Or.inl (by omega)) hG hL h5 h3 hF) (fun c2 => ?_)
      have hne : ¬ i = k := by omega
      rw [c_kn hi12, qc_v, h3]
      by_cases ct : bitI told i
      · rw [if_pos ct]
        refine P_eq l_1 l_0 (fun z => by omega) (fun _ => ?_)
        have ei : (nI i).toNatClampNeg = i := by rw [tnc, ti]; rfl
        refine P_qc (P_and (c_isAlike hn hj hK (nI i) M hG hL hF) (P_T (t_X1_isAlike hn hj (nI i) M hG (by omega)))) ?_
        rintro r4 m5 ⟨hr, _, g5, s5⟩
        rw [ei, h5, bc_mk (hX k hk)] at hr
        have hlk : lkv C K n H X d k i = r4 := by unfold lkv; rw [if_neg (fun z => hne z.symm), hr]
        have l5 := LJ_Sm hj hL s5 rfl
        have x5 : m5 5 = X := by rw [← h5]; exact funext (fun s_ => s5 5 s_ (outc rfl))
        have t5 : m5 3 3 = told := by rw [← h3]; exact s5 3 3 (by decide)
        have f5 : FD (m5 35) (nI k) (H k) (X k) d := by
          obtain ⟨⟨q0, q1, q2, q6⟩, q7, q8, q9, q10, q11⟩ := hF
          exact ⟨⟨by rw [s5 35 0 (by decide)]; exact q0, by rw [s5 35 1 (by decide)]; exact q1, by rw [s5 35 2 (by decide)]; exact q2, by rw [s5 35 6 (by decide)]; exact q6⟩, by rw [s5 35 7 (by decide)]; exact q7, by rw [s5 35 8 (by decide)]; exact q8, by rw [s5 35 9 (by decide)]; exact q9, by rw [s5 35 10 (by decide)]; exact q10, by rw [s5 35 11 (by decide)]; exact q11⟩
        refine P_if (fun c3 => ?_) (fun c3 => ?_)
        · exact P_ql (i_add ti l_1 (by omega) (by omega)) (fun x hx => no m5 x hx (fun z => by rcases z with z | z; exact hne z; exact z.2 (by rw [hlk, c3])) g5 l5 x5 t5 f5)
        · exact yes m5 (Or.inr ⟨ct, by rw [hlk]; exact c3⟩) g5 l5 x5 t5 f5
      · rw [if_neg ct]
        refine P_eq l_0 l_0 (fun _ => ?_) (fun z => absurd rfl z)
        exact P_ql (i_add ti l_1 (by omega) (by omega)) (fun x hx => no M x hx (fun z => by rcases z with z | z; exact hne z; exact ct z.1) hG hL h5 h3 hF)
theorem c_alikes {n : Nat} (hn : 200000 ≤ n) {j : Nat} (hj : q_isLaw j) {C : List Int} {K : List Kl} (hK : Kg (cdl C) C.length K) {k : Nat} (hk : k < 12) (d : Int32) (M : qM) (hG : G M) (hL : LJ j M C K) (hX : MK (M 5)) : qP (f_X1_alikes n j (nI k) d M) (fun v _ => ∀ q, q < 12 → (bitI v q ↔ (q = k ∨ (bitI (M 3 3) q ∧ lkv C K n (M 4) (M 5) d k q ≠ 0)))) := by
  have ek : (nI k).toNatClampNeg = k := by rw [tnc, nI_toInt (by omega)]; rfl
  unfold f_X1_alikes
  refine P_qg (fun _ _ => P_qg (fun _ _ => ?_))
  rw [ek]
  refine P_qc (P_and (c_deed (nI k) (M 4 k) (M 5 k) d M) (P_T (t_X1_tellDeed hn (nI k) (M 4 k) (M 5 k) d M hG (by rw [nI_toInt (by omega)]; omega)))) ?_
  rintro _ m1 ⟨⟨hF, e1⟩, _, g1, _⟩
  have n35 : ∀ q, q ≤ 6 → j + q ≠ 35 := fun q hq => by rcases hj with rfl | rfl <;> omega
  have := c_alikes29 hn hj hK (H := M 4) (X := M 5) hX (d := d) (told := M 3 3) hk n 0 0 m1 g1 (LJ_cg hL (fun q hq => e1 _ (n35 q hq))) (e1 5 (by decide)) (by rw [e1 3 (by decide)]) (FD_of hF) (Nat.zero_le _) (by decide) (fun q hq => absurd hq (by omega)) (fun q _ h2 => bit_0 h2)
  exact this
/-- kinds of both sides: A is the memory with the class's cells, B the one with the model's -/
abbrev KD (A B : qM) : Prop := A 3 3 = B 77 6 ∧ MK (A 5) ∧ ∀ q, q < 12 → A 4 q = B 81 q ∧ A 5 q = B 82 q ∧ A 6 q = B 83 q
theorem lkv_cg {C : List Int} {K : List Kl} {n : Nat} {H X H' X' : Nat → Int32} {d : Int32} {k q : Nat} (hk : H k = H' k) (hx : X k = X' k) (hq : X q = X' q) : lkv C K n H X d k q = lkv C K n H' X' d k q := by
  unfold lkv
  rw [hk, hx, hq]
/-! a try told -/
def byA (T : Nat → Int32) (k : Nat) : Nat → Int32
  | 0 => 0
  | p + 1 => byA T k p + T (12 * p + k)
theorem byA_cg {T U : Nat → Int32} {k : Nat} (hk : k < 12) : ∀ {p : Nat}, p ≤ 8 → (∀ i, i < 96 → U i = T i) → byA U k p = byA T k p := by
  intro p
  induction p with
  | zero => intro _ _; rfl
  | succ p ih =>
    intro hp h
    show byA U k p + U (12 * p + k) = byA T k p + T (12 * p + k)
    rw [ih (by omega) h, h _ (by omega)]
theorem ixc {p k : Nat} (hp : p < 9) (hk : k < 13) : (nI p * (12 : Int32) + nI k).toInt = ((12 * p + k : Nat) : Int) ∧ ((12 : Int32) * nI p + nI k).toInt = ((12 * p + k : Nat) : Int) := by
  have h1 := nI_toInt (n := p) (by omega)
  have h2 := nI_toInt (n := k) (by omega)
  constructor
  · rw [i_add (i_mul h1 l_12 (by omega) (by omega)) h2 (by omega) (by omega)]; omega
  · rw [i_add (i_mul l_12 h1 (by omega) (by omega)) h2 (by omega) (by omega)]; omega
theorem ixn {p k : Nat} (hp : p < 9) (hk : k < 13) : (nI p * (12 : Int32) + nI k).toNatClampNeg = 12 * p + k ∧ ((12 : Int32) * nI p + nI k).toNatClampNeg = 12 * p + k := by
  have h := ixc hp hk
  exact ⟨by rw [tnc, h.1]; rfl, by rw [tnc, h.2]; rfl⟩
theorem ixm {p k : Nat} (hp : p < 9) (hk : k < 13) : ((0 : Int32) + ((12 : Int32) * nI p + nI k)).toNatClampNeg = 12 * p + k ∧ ((96 : Int32) + ((12 : Int32) * nI p + nI k)).toNatClampNeg = 96 + (12 * p + k) ∧ ((192 : Int32) + ((12 : Int32) * nI p + nI k)).toNatClampNeg = 192 + (12 * p + k) := by
  have h := (ixc hp hk).2
  refine ⟨?_, ?_, ?_⟩
  · rw [tnc, i_add l_0 h (by omega) (by omega)]; omega
  · rw [tnc, i_add l_96 h (by omega) (by omega)]; omega
  · rw [tnc, i_add l_192 h (by omega) (by omega)]; omega
theorem c_byA4 {n t k : Nat} (hk : k < 12) : ∀ (m p : Nat) (M : qM), p ≤ 8 → qP (f_X10_triesByAll_4 n t m (nI k) (byA (M (t + 2)) k p) (nI p) M) (fun v m' => v = byA (M (t + 2)) k 8 ∧ m' = M) := by
  intro m
  induction m with
  | zero => intro p M _; exact P_none
  | succ m ih =>
    intro p M hp
    show qP (b_X10_triesByAll_4 n t (f_X10_triesByAll_4 n t m) (nI k) (byA (M (t + 2)) k p) (nI p) M) _
    unfold b_X10_triesByAll_4
    have tp : (nI p).toInt = (p : Int) := nI_toInt (by omega)
    refine P_le l_8 tp (fun c => P_ret ⟨by rw [show p = 8 by omega], rfl⟩) (fun c => P_qg (fun _ _ => ?_))
    rw [(ixn (p := p) (k := k) (by omega) (by omega)).1]
    refine P_ql rfl (fun x1 hx1 => P_ql (i_add tp l_1 (by omega) (by omega)) (fun x2 hx2 => ?_))
    have e1 : x1 = byA (M (t + 2)) k (p + 1) := Int32.toInt_inj.mp hx1
    rw [e1, nI_i (a := x2) (k := p + 1) (by rw [hx2]; omega)]
    exact ih (p + 1) M (by omega)
theorem c_byA {n t k : Nat} (hk : k < 12) (M : qM) : qP (f_X10_triesByAll n t (nI k) M) (fun v m' => v = byA (M (t + 2)) k 8 ∧ m' = M) := by
  unfold f_X10_triesByAll
  exact c_byA4 hk n 0 M (by omega)
theorem d_byA4 {n k : Nat} (hk : k < 12) : ∀ (m p : Nat) (M : qM), p ≤ 8 → qP (f_X12_allTries_4 n m (nI k) (byA (M 78) k p) (nI p) M) (fun v m' => v = byA (M 78) k 8 ∧ m' = M) := by
  intro m
  induction m with
  | zero => intro p M _; exact P_none
  | succ m ih =>
    intro p M hp
    show qP (b_X12_allTries_4 n (f_X12_allTries_4 n m) (nI k) (byA (M 78) k p) (nI p) M) _
    unfold b_X12_allTries_4
    have tp : (nI p).toInt = (p : Int) := nI_toInt (by omega)
    refine P_le l_8 tp (fun c => P_ret ⟨by rw [show p = 8 by omega], rfl⟩) (fun c => ?_)
    unfold f_X12_at
    rw [qc_v]
    refine P_qg (fun _ _ => ?_)
    rw [(ixm (p := p) (k := k) (by omega) (by omega)).1]
    refine P_ql rfl (fun x1 hx1 => P_ql (i_add tp l_1 (by omega) (by omega)) (fun x2 hx2 => ?_))
    have e1 : x1 = byA (M 78) k (p + 1) := Int32.toInt_inj.mp hx1
    rw [e1, nI_i (a := x2) (k := p + 1) (by rw [hx2]; omega)]
    exact ih (p + 1) M (by omega)
theorem d_byA {n k : Nat} (hk : k < 12) (M : qM) : qP (f_X12_allTries n (nI k) M) (fun v m' => v = byA (M 78) k 8 ∧ m' = M) := by
  unfold f_X12_allTries
  exact d_byA4 hk n 0 M (by omega)
theorem c_tell {n t p k : Nat} (ht : t + 2 ≠ 35 ∧ t + 4 ≠ 35 ∧ t ≠ 35) (hp : p < 8) (hk : k < 12) (w : Int32) (M : qM) : qP (f_X0_tellAll n t (nI p) (nI k) w M) (fun _ m => FE (m 35) (fx (nI k) (M 4 k) (M 5 k) 0 0 0 (M t 9) (nI p) w (M (t + 2) (12 * p + k)) (byA (M (t + 2)) k 8) (M (t + 4) (12 * p + k))) ∧ ∀ c, c ≠ 35 → m c = M c) := by
  have ek : (nI k).toNatClampNeg = k := by rw [tnc, nI_toInt (by omega)]; rfl
  unfold f_X0_tellAll
  refine P_ql rfl (fun x1 hx1 => ?_)
  have ex : x1.toNatClampNeg = 12 * p + k := by rw [Int32.toInt_inj.mp hx1]; exact (ixn (by omega) (by omega)).1
  refine P_qg (fun _ _ => P_qg (fun _ _ => ?_))
  rw [ek]
  refine P_qc (c_deed (nI k) (M 4 k) (M 5 k) (M t 9) M) ?_
  rintro _ m2 ⟨hF, e2⟩
  refine P_qg (fun _ _ => P_qc (c_byA (t := t) hk m2) ?_)
  rintro r3 m4 ⟨hr3, rfl⟩
  refine P_qg (fun _ _ => ?_)
  rw [ex, e2 _ ht.1, e2 _ ht.2.1]
  rw [e2 _ ht.1] at hr3
  unfold f_X1_tellTry
  refine P_qc (Q := fun _ m => FE (m 35) (fx (nI k) (M 4 k) (M 5 k) 0 0 0 (M t 9) (nI p) w (M (t + 2) (12 * p + k)) (byA (M (t + 2)) k 8) (M (t + 4) (12 * p + k))) ∧ ∀ c, c ≠ 35 → m c = M c) (P_m (fun m5 a1 a2 a3 => P_m (fun m6 b1 b2 b3 => P_m (fun m7 c1 c2 c3 => P_m (fun m8 d1 d2 d3 => P_m (fun m9 f1 f2 f3 => P_ret ⟨?_, fun c hc => ?_⟩)))))) (fun _ m h => P_ret h)
  · have o : ∀ i, i ≠ 7 → i ≠ 8 → i ≠ 9 → i ≠ 10 → i ≠ 11 → m9 35 i = m4 35 i := fun i q7 q8 q9 q10 q11 => by rw [f2 i q11, d2 i q10, c2 i q9, b2 i q8, a2 i q7]
    refine FE_mk ?_ ?_ ?_ ?_ ?_ ?_ ?_ ?_ ?_ ?_ ?_ f1
    · rw [o 0 (by decide) (by decide) (by decide) (by decide) (by decide)]; exact hF 0 (by decide)
    · rw [o 1 (by decide) (by decide) (by decide) (by decide) (by decide)]; exact hF 1 (by decide)
    · rw [o 2 (by decide) (by decide) (by decide) (by decide) (by decide)]; exact hF 2 (by decide)
    · rw [o 3 (by decide) (by decide) (by decide) (by decide) (by decide)]; exact hF 3 (by decide)
    · rw [o 4 (by decide) (by decide) (by decide) (by decide) (by decide)]; exact hF 4 (by decide)
    · rw [o 5 (by decide) (by decide) (by decide) (by decide) (by decide)]; exact hF 5 (by decide)
    · rw [o 6 (by decide) (by decide) (by decide) (by decide) (by decide)]; exact hF 6 (by decide)
    · rw [f2 7 (by decide), d2 7 (by decide), c2 7 (by decide), b2 7 (by decide), a1]
    · rw [f2 8 (by decide), d2 8 (by decide), c2 8 (by decide), b1]
    · rw [f2 9 (by decide), d2 9 (by decide), c1]
    · rw [f2 10 (by decide), d1, hr3]
  · rw [f3 c hc, d3 c hc, c3 c hc, b3 c hc, a3 c hc, e2 c hc]
theorem d_tell {n p k : Nat} (hp : p < 8) (hk : k < 12) (w : Int32) (M : qM) : qP (f_X12_feels n (nI p) (nI k) w M) (fun _ m => FE (m 97) (fx (nI k) (M 81 k) (M 82 k) 0 0 0 (M 78 313) (nI p) w (M 78 (12 * p + k)) (byA (M 78) k 8) (M 78 (192 + (12 * p + k)))) ∧ ∀ c, c ≠ 97 → m c = M c) := by
  have ek : (nI k).toNatClampNeg = k := by rw [tnc, nI_toInt (by omega)]; rfl
  have hix := ixm (p := p) (k := k) (by omega) (by omega)
  unfold f_X12_feels
  refine P_qc (d_deed (nI k) M) ?_
  rintro _ m2 ⟨hF, e2⟩
  rw [ek] at hF
  refine P_m (fun m5 a1 a2 a3 => P_m (fun m6 b1 b2 b3 => ?_))
  unfold f_X12_at
  rw [qc_v]
  refine P_qg (fun _ _ => ?_)
  rw [hix.1]
  refine P_m (fun m7 c1 c2 c3 => P_qc (d_byA hk m7) ?_)
  rintro r3 m8 ⟨hr3, rfl⟩
  refine P_m (fun m9 d1 d2 d3 => ?_)
  rw [qc_v]
  refine P_qg (fun _ _ => ?_)
  rw [hix.2.2]
  refine P_m (fun m10 f1 f2 f3 => P_ret ⟨?_, fun c hc => ?_⟩)
  · have o : ∀ i, i ≠ 7 → i ≠ 8 → i ≠ 9 → i ≠ 10 → i ≠ 11 → m10 97 i = m2 97 i := fun i q7 q8 q9 q10 q11 => by rw [f2 i q11, d2 i q10, c2 i q9, b2 i q8, a2 i q7]
    have q6 : m6 78 = M 78 := by rw [b3 78 (by decide), a3 78 (by decide), e2 78 (by decide)]
    have q8 : m8 78 = M 78 := by rw [c3 78 (by decide), q6]
    refine FE_mk ?_ ?_ ?_ ?_ ?_ ?_ ?_ ?_ ?_ ?_ ?_ ?_
    · rw [o 0 (by decide) (by decide) (by decide) (by decide) (by decide)]; exact hF 0 (by decide)
    · rw [o 1 (by decide) (by decide) (by decide) (by decide) (by decide)]; exact hF 1 (by decide)
    · rw [o 2 (by decide) (by decide) (by decide) (by decide) (by decide)]; exact hF 2 (by decide)
    · rw [o 3 (by decide) (by decide) (by decide) (by decide) (by decide)]; exact hF 3 (by decide)
    · rw [o 4 (by decide) (by decide) (by decide) (by decide) (by decide)]; exact hF 4 (by decide)
    · rw [o 5 (by decide) (by decide) (by decide) (by decide) (by decide)]; exact hF 5 (by decide)
    · rw [o 6 (by decide) (by decide) (by decide) (by decide) (by decide)]; exact hF 6 (by decide)
    · rw [f2 7 (by decide), d2 7 (by decide), c2 7 (by decide), b2 7 (by decide), a1]
    · rw [f2 8 (by decide), d2 8 (by decide), c2 8 (by decide), b1]
    · rw [f2 9 (by decide), d2 9 (by decide), c1, q6]
    · rw [f2 10 (by decide), d1, hr3, q8]
    · rw [f1, d3 78 (by decide), q8]
  · rw [f3 c hc, d3 c hc, c3 c hc, b3 c hc, a3 c hc, e2 c hc]
/-! what is forgotten -/
theorem byA_c2 {T U : Nat → Int32} {k : Nat} : ∀ {p : Nat}, (∀ q, q < p → U (12 * q + k) = T (12 * q + k)) → byA U k p = byA T k p := by
  intro p
  induction p with
  | zero => intro _; rfl
  | succ p ih =>
    intro h
    show byA U k p + U (12 * p + k) = byA T k p + T (12 * p + k)
    rw [ih (fun q hq => h q (by omega)), h p (by omega)]
def fgV (C : List Int) (K : List Kl) (n : Nat) (H X : Nat → Int32) (d : Int32) (p : Nat) (T N : Nat → Int32) (q : Nat) : Int32 := amtL C n (fx (nI q) (H q) (X q) 0 0 0 d (nI p) 8 (T (12 * p + q)) (byA T q 8) (N (12 * p + q))) 102 999 K 0
def fgP (A : Nat → Prop) (C : List Int) (K : List Kl) (n : Nat) (H X : Nat → Int32) (d : Int32) (p : Nat) (T L N : Nat → Int32) (q : Nat) : Prop := A q ∧ T (12 * p + q) ≠ 0 ∧ fgV C K n H X d p T N q ≠ 0 ∧ (fgV C K n H X d p T N q).toInt ≤ (d - L (12 * p + q)).toInt
theorem tne {t : Nat} (ht : t = 7 ∨ t = 25) : (t + 2 ≠ 35 ∧ t + 4 ≠ 35 ∧ t ≠ 35) ∧ (∀ c, t ≤ c → c ≤ t + 8 → c ≠ 34 ∧ c ≠ 35 ∧ c ≠ 36 ∧ c ≠ 3 ∧ c ≠ 4 ∧ c ≠ 5 ∧ c ≠ 6 ∧ c ≠ 44) := by rcases ht with rfl | rfl <;> exact ⟨by decide, fun c h1 h2 => by omega⟩
theorem G_t {t : Nat} (ht : t = 7 ∨ t = 25) {M : qM} (hG : G M) {c i : Nat} {v : Int32} (hc : c = 2 ∨ c = 3 ∨ c = 4) : G (mu M (t + c) i v) := by
  rcases ht with rfl | rfl <;> rcases hc with rfl | rfl | rfl
  · exact G_mu hG (rn_9 _ _) (nw_9 _)
  · exact G_mu hG (rn_10 _ _) (nw_10 _)
  · exact G_mu hG (rn_11 _ _) (nw_11 _)
  · exact G_mu hG (rn_27 _ _) (nw_27 _)
  · exact G_mu hG (rn_28 _ _) (nw_28 _)
  · exact G_mu hG (rn_29 _ _) (nw_29 _)
theorem tj {t j : Nat} (ht : t = 7 ∨ t = 25) (hj : q_isLaw j) {a b : Nat} (ha : a ≤ 6) (hb : b ≤ 8) : j + a ≠ t + b := by
  rcases ht with rfl | rfl <;> rcases hj with rfl | rfl <;> omega
theorem G_tell {n : Nat} (hn : 200000 ≤ n) {t p k : Nat} (ht : t = 7 ∨ t = 25) (hp : p < 8) (hk : k < 12) (w : Int32) (hw : 0 ≤ w.toInt ∧ w.toInt ≤ 8) (M : qM) (hG : G M) : qP (f_X0_tellAll n t (nI p) (nI k) w M) (fun _ m => G m) := by
  have tp : (nI p).toInt = (p : Int) := nI_toInt (by omega)
  have tk : (nI k).toInt = (k : Int) := nI_toInt (by omega)
  rcases ht with rfl | rfl
  · exact P_mono (P_T (t_X0_tellAll_c7 hn (nI p) (nI k) w M hG (by omega) (by omega) hw)) (fun _ _ h => h.2.1)
  · exact P_mono (P_T (t_X0_tellAll_c25 hn (nI p) (nI k) w M hG (by omega) (by omega) hw)) (fun _ _ h => h.2.1)
abbrev Jf (t : Nat) (M0 M : qM) : Prop := ∀ c, c ≠ t + 2 → c ≠ 34 → c ≠ 35 → c ≠ 36 → M c = M0 c
theorem c_forget3 {n : Nat} (hn : 200000 ≤ n) {t j p : Nat} (ht : t = 7 ∨ t = 25) (hj : q_isLaw j) (hp : p < 8) {C : List Int} {K : List Kl} (hK : Kg (cdl C) C.length K) {A : Nat → Prop} {bits : Int32} (hA : ∀ q, q < 12 → (bitI bits q ↔ A q)) {M0 : qM} (hT : ∀ i, i < 96 → 0 ≤ (M0 (t + 2) i).toInt) : ∀ (m kk : Nat) (M : qM), G M → LJ j M C K → Jf t M0 M → kk ≤ 12 → (∀ q, q < kk → (fgP A C K n (M0 4) (M0 5) (M0 t 9) p (M0 (t + 2)) (M0 (t + 3)) (M0 (t + 4)) q → M (t + 2) (12 * p + q) = 0) ∧ (¬ fgP A C K n (M0 4) (M0 5) (M0 t 9) p (M0 (t + 2)) (M0 (t + 3)) (M0 (t + 4)) q → M (t + 2) (12 * p + q) = M0 (t + 2) (12 * p + q))) → (∀ i, (∀ q, q < kk → i ≠ 12 * p + q) → M (t + 2) i = M0 (t + 2) i) → qP (f_X0_forget_3 n t j m (nI p) bits (nI kk) M) (fun _ m' => (∀ q, q < 12 → (fgP A C K n (M0 4) (M0 5) (M0 t 9) p (M0 (t + 2)) (M0 (t + 3)) (M0 (t + 4)) q → m' (t + 2) (12 * p + q) = 0) ∧ (¬ fgP A C K n (M0 4) (M0 5) (M0 t 9) p (M0 (t + 2)) (M0 (t + 3)) (M0 (t + 4)) q → m' (t + 2) (12 * p + q) = M0 (t + 2) (12 * p + q))) ∧ (∀ i, (∀ q, q < 12 → i ≠ 12 * p + q) → m' (t + 2) i = M0 (t + 2) i) ∧ Jf t M0 m' ∧ G m') := by
  intro m
  induction m with
  | zero => intro kk M _ _ _ _ _ _; exact P_none
  | succ m ih =>
    intro kk M hG hL hf hkk hlo hhi
    obtain ⟨htn, htc⟩ := tne ht
    show qP (b_X0_forget_3 n t j (f_X0_forget_3 n t j m) (nI p) bits (nI kk) M) _
    unfold b_X0_forget_3
    have tk : (nI kk).toInt = (kk : Int) := nI_toInt (by omega)
    refine P_le l_12 tk (fun c => P_ret ?_) (fun c => ?_)
    · have e : kk = 12 := by omega
      subst e
      exact ⟨hlo, hhi, hf, hG⟩
    · have hk12 : kk < 12 := by omega
      have m4 : M 4 = M0 4 := hf 4 (by rcases ht with rfl | rfl <;> decide) (by decide) (by decide) (by decide)
      have m5 : M 5 = M0 5 := hf 5 (by rcases ht with rfl | rfl <;> decide) (by decide) (by decide) (by decide)
      have mt : M t = M0 t := hf t (by omega) (htc t (by omega) (by omega)).1 (htc t (by omega) (by omega)).2.1 (htc t (by omega) (by omega)).2.2.1
      have mt3 : M (t + 3) = M0 (t + 3) := hf (t + 3) (by omega) (htc (t + 3) (by omega) (by omega)).1 (htc (t + 3) (by omega) (by omega)).2.1 (htc (t + 3) (by omega) (by omega)).2.2.1
      have mt4 : M (t + 4) = M0 (t + 4) := hf (t + 4) (by omega) (htc (t + 4) (by omega) (by omega)).1 (htc (t + 4) (by omega) (by omega)).2.1 (htc (t + 4) (by omega) (by omega)).2.2.1
      have eT : ∀ p', p' < 8 → M (t + 2) (12 * p' + kk) = M0 (t + 2) (12 * p' + kk) := fun p' hp' => hhi _ (fun q hq => by omega)
      have nx : ∀ (m' : qM) (x : Int32), x.toInt = (kk : Int) + 1 → G m' → LJ j m' C K → Jf t M0 m' → ((fgP A C K n (M0 4) (M0 5) (M0 t 9) p (M0 (t + 2)) (M0 (t + 3)) (M0 (t + 4)) kk ∧ m' (t + 2) (12 * p + kk) = 0) ∨ (¬ fgP A C K n (M0 4) (M0 5) (M0 t 9) p (M0 (t + 2)) (M0 (t + 3)) (M0 (t + 4)) kk ∧ m' (t + 2) (12 * p + kk) = M0 (t + 2) (12 * p + kk))) → (∀ i, i ≠ 12 * p + kk → m' (t + 2) i = M (t + 2) i) → qP (f_X0_forget_3 n t j m (nI p) bits x m') (fun _ m' => (∀ q, q < 12 → (fgP A C K n (M0 4) (M0 5) (M0 t 9) p (M0 (t + 2)) (M0 (t + 3)) (M0 (t + 4)) q → m' (t + 2) (12 * p + q) = 0) ∧ (¬ fgP A C K n (M0 4) (M0 5) (M0 t 9) p (M0 (t + 2)) (M0 (t + 3)) (M0 (t + 4)) q → m' (t + 2) (12 * p + q) = M0 (t + 2) (12 * p + q))) ∧ (∀ i, (∀ q, q < 12 → i ≠ 12 * p + q) → m' (t + 2) i = M0 (t + 2) i) ∧ Jf t M0 m' ∧ G m') := by
        intro m' x hx g' l' f' hc ho
        rw [nI_i (a := x) (k := kk + 1) (by rw [hx]; omega)]
        refine ih (kk + 1) m' g' l' f' (by omega) (fun q hq => ?_) (fun i hi => ?_)
        · by_cases e : q = kk
          · subst e
            rcases hc with ⟨c1, c2⟩ | ⟨c1, c2⟩
            · exact ⟨fun _ => c2, fun z => absurd c1 z⟩
            · exact ⟨fun z => absurd z c1, fun _ => c2⟩
          · rw [ho _ (by omega)]
            exact hlo q (by omega)
        · rw [ho i (hi kk (by omega))]
          exact hhi i (fun q hq => hi q (by omega))
      have skip : ∀ (x : Int32), x.toInt = (kk : Int) + 1 → ¬ fgP A C K n (M0 4) (M0 5) (M0 t 9) p (M0 (t + 2)) (M0 (t + 3)) (M0 (t + 4)) kk → qP (f_X0_forget_3 n t j m (nI p) bits x M) _ := fun x hx hno => nx M x hx hG hL hf (Or.inr ⟨hno, eT p hp⟩) (fun _ _ => rfl)
      refine P_ql rfl (fun x1 hx1 => ?_)
      have ex : x1.toNatClampNeg = 12 * p + kk := by rw [Int32.toInt_inj.mp hx1]; exact (ixn (by omega) (by omega)).1
      refine P_if (fun cb => ?_) (fun cb => ?_)
      · have hAk : A kk := (hA kk hk12).mp cb
        refine P_qg (fun _ _ => ?_)
        rw [ex]
        have hT0 := hT (12 * p + kk) (by omega)
        have eTk := eT p hp
        refine P_le rfl l_0 (fun z => ?_) (fun z => ?_)
        · exact P_ql (i_add tk l_1 (by omega) (by omega)) (fun x hx => skip x hx (fun y => y.2.1 (Int32.toInt_inj.mp (by rw [eTk] at z; rw [l_0]; omega))))
        · have hT1 : M0 (t + 2) (12 * p + kk) ≠ 0 := fun y => by rw [eTk, y, l_0] at z; omega
          refine P_qc (P_and (c_tell htn hp hk12 8 M) (G_tell hn ht hp hk12 8 (by decide) M hG)) ?_
          rintro _ m4' ⟨⟨hF, e4⟩, g4⟩
          have l4 : LJ j m4' C K := LJ_cg hL (fun q hq => e4 _ (by rcases hj with rfl | rfl <;> omega))
          refine P_qc (P_and (c_amt hn hj hK 102 999 0 m4' g4 l4 (by rw [l_102]; decide)) (P_T (t_X1_amount hn hj 102 999 0 m4' g4 (by decide) (by decide) (by decide)))) ?_
          rintro r5 m6 ⟨hr5, hrg, g6, s6⟩
          have hv : r5 = fgV C K n (M0 4) (M0 5) (M0 t 9) p (M0 (t + 2)) (M0 (t + 4)) kk := by
            rw [hr5, l_102, amtL_F hF (by decide) hK]
            unfold fgV
            rw [m4, m5, mt, mt4, eTk, byA_c2 (fun q hq => eT q hq)]
          have o6 : ∀ c, c ≠ 34 → c ≠ 35 → c ≠ 36 → m6 c = M c := fun c q1 q2 q3 => by
            rw [← e4 c q2]
            exact funext (fun s_ => s6 c s_ (by
              intro b hb hi
              obtain ⟨h1, h2, _⟩ := hi
              rcases List.mem_cons.mp hb with rfl | hb
              · have y1 : (34 : Nat) ≤ c := h1
                have y2 : c < (35 : Nat) := h2
                omega
              · rw [List.mem_singleton] at hb
                subst hb
                have y1 : (36 : Nat) ≤ c := h1
                have y2 : c < (37 : Nat) := h2
                omega))
          have l6 : LJ j m6 C K := LJ_Sm hj l4 s6 rfl
          have f6 : Jf t M0 m6 := fun c q0 q1 q2 q3 => by rw [o6 c q1 q2 q3]; exact hf c q0 q1 q2 q3
          have t26 : m6 (t + 2) = M (t + 2) := o6 (t + 2) (htc (t + 2) (by omega) (by omega)).1 (htc (t + 2) (by omega) (by omega)).2.1 (htc (t + 2) (by omega) (by omega)).2.2.1
          have t36 : m6 (t + 3) = M0 (t + 3) := by rw [o6 (t + 3) (htc (t + 3) (by omega) (by omega)).1 (htc (t + 3) (by omega) (by omega)).2.1 (htc (t + 3) (by omega) (by omega)).2.2.1]; exact mt3
          have t6 : m6 t = M0 t := by rw [o6 t (htc t (by omega) (by omega)).1 (htc t (by omega) (by omega)).2.1 (htc t (by omega) (by omega)).2.2.1]; exact mt
          have skip6 : ∀ (x : Int32), x.toInt = (kk : Int) + 1 → ¬ fgP A C K n (M0 4) (M0 5) (M0 t 9) p (M0 (t + 2)) (M0 (t + 3)) (M0 (t + 4)) kk → qP (f_X0_forget_3 n t j m (nI p) bits x m6) _ := fun x hx hno => nx m6 x hx g6 l6 f6 (Or.inr ⟨hno, by rw [t26]; exact eTk⟩) (fun i _ => by rw [t26])
          refine P_le rfl l_0 (fun y => ?_) (fun y => ?_)
          · exact P_ql (i_add tk l_1 (by omega) (by omega)) (fun x hx => skip6 x hx (fun w => w.2.2.1 (by rw [← hv]; exact Int32.toInt_inj.mp (by rw [l_0]; omega))))
          · refine P_qg (fun _ _ => ?_)
            rw [t6, t36]
            refine P_lt rfl rfl (fun u => ?_) (fun u => ?_)
            · exact P_ql (i_add tk l_1 (by omega) (by omega)) (fun x hx => skip6 x hx (fun w => by have w1 := w.2.2.2; rw [← hv] at w1; omega))
            · refine P_qg (fun _ _ => P_qlm (P_ql (i_add tk l_1 (by omega) (by omega)) (fun x hx => ?_)))
              refine nx _ x hx (G_t ht g6 (Or.inl rfl)) (LJ_cg l6 (fun q hq => mu_nc (tj ht hj hq (by decide)))) (fun c q0 q1 q2 q3 => by rw [mu_nc q0]; exact f6 c q0 q1 q2 q3) (Or.inl ⟨⟨hAk, hT1, ?_, ?_⟩, mu_at⟩) (fun i hi => by rw [mu_ne (Or.inr hi), t26])
              · rw [← hv]; intro w; rw [w, l_0] at y; omega
              · rw [← hv]; exact u
      · exact P_ql (i_add tk l_1 (by omega) (by omega)) (fun x hx => skip x hx (fun y => cb ((hA kk hk12).mpr y.1)))
theorem c_forget {n : Nat} (hn : 200000 ≤ n) {t j p : Nat} (ht : t = 7 ∨ t = 25) (hj : q_isLaw j) (hp : p < 8) {C : List Int} {K : List Kl} (hK : Kg (cdl C) C.length K) {A : Nat → Prop} {bits : Int32} (hA : ∀ q, q < 12 → (bitI bits q ↔ A q)) (M : qM) (hT : ∀ i, i < 96 → 0 ≤ (M (t + 2) i).toInt) (hG : G M) (hL : LJ j M C K) : qP (f_X0_forget n t j (nI p) bits M) (fun _ m' => (∀ q, q < 12 → (fgP A C K n (M 4) (M 5) (M t 9) p (M (t + 2)) (M (t + 3)) (M (t + 4)) q → m' (t + 2) (12 * p + q) = 0) ∧ (¬ fgP A C K n (M 4) (M 5) (M t 9) p (M (t + 2)) (M (t + 3)) (M (t + 4)) q → m' (t + 2) (12 * p + q) = M (t + 2) (12 * p + q))) ∧ (∀ i, (∀ q, q < 12 → i ≠ 12 * p + q) → m' (t + 2) i = M (t + 2) i) ∧ Jf t M m' ∧ G m') := by
  unfold f_X0_forget
  exact c_forget3 hn ht hj hp hK hA hT n 0 M hG hL (fun _ _ _ _ _ => rfl) (Nat.zero_le _) (fun q hq => absurd hq (by omega)) (fun _ _ => rfl)
/-! what the model forgets -/
abbrev Mf (M0 M : qM) : Prop := ∀ c, c ≠ 78 → c ≠ 96 → c ≠ 97 → M c = M0 c
theorem out3 {c s : Nat} (h1 : c ≠ 96) (h2 : c ≠ 97) : ∀ b ∈ ([(96, 98, 0, 0)] : List Bx), ¬ inB b c s := by
  intro b hb hi
  rw [List.mem_singleton] at hb
  subst hb
  obtain ⟨y1, y2, _⟩ := hi
  have z1 : (96 : Nat) ≤ c := y1
  have z2 : c < (98 : Nat) := y2
  omega
theorem out96 {c s : Nat} (h1 : c ≠ 96) : ∀ b ∈ ([(96, 97, 0, 0)] : List Bx), ¬ inB b c s := by
  intro b hb hi
  rw [List.mem_singleton] at hb
  subst hb
  obtain ⟨y1, y2, _⟩ := hi
  have z1 : (96 : Nat) ≤ c := y1
  have z2 : c < (97 : Nat) := y2
  omega
abbrev mA (told : Int32) (C : List Int) (K : List Kl) (n : Nat) (H X : Nat → Int32) (d : Int32) (k : Nat) (q : Nat) : Prop := bitI told q ∧ lkv C K n H X d k q ≠ 0
/-- the model's f of one kind: what it says of its own rows -/
abbrev mP (M : qM) (C : List Int) (K : List Kl) (n p k : Nat) (q : Nat) : Prop := fgP (mA (M 77 6) C K n (M 81) (M 82) (M 78 313) k) C K n (M 81) (M 82) (M 78 313) p (M 78) (fun i => M 78 (96 + i)) (fun i => M 78 (192 + i)) q
theorem d_forget2 {n : Nat} (hn : 200000 ≤ n) {p k : Nat} (hp : p < 8) (hk : k < 12) {C : List Int} {K : List Kl} (hK : Kg (cdl C) C.length K) (h240 : C.length ≤ 240) {M0 : qM} : ∀ (m kk : Nat) (M : qM), G M → LM M C K → Mf M0 M → kk ≤ 12 → (∀ q, q < kk → (mP M0 C K n p k q → M 78 (12 * p + q) = 0 ∧ M 78 (96 + (12 * p + q)) = -2) ∧ (¬ mP M0 C K n p k q → M 78 (12 * p + q) = M0 78 (12 * p + q) ∧ M 78 (96 + (12 * p + q)) = M0 78 (96 + (12 * p + q)))) → (∀ i, (∀ q, q < kk → i ≠ 12 * p + q ∧ i ≠ 96 + (12 * p + q)) → M 78 i = M0 78 i) → qP (f_X12_forgets_2 n m (nI p) (nI k) (nI kk) M) (fun _ m' => (∀ q, q < 12 → (mP M0 C K n p k q → m' 78 (12 * p + q) = 0 ∧ m' 78 (96 + (12 * p + q)) = -2) ∧ (¬ mP M0 C K n p k q → m' 78 (12 * p + q) = M0 78 (12 * p + q) ∧ m' 78 (96 + (12 * p + q)) = M0 78 (96 + (12 * p + q)))) ∧ (∀ i, (∀ q, q < 12 → i ≠ 12 * p + q ∧ i ≠ 96 + (12 * p + q)) → m' 78 i = M0 78 i) ∧ Mf M0 m' ∧ G m' ∧ LM m' C K) := by
  intro m
  induction m with
  | zero => intro kk M _ _ _ _ _ _; exact P_none
  | succ m ih =>
    intro kk M hG hL hf hkk hlo hhi
    show qP (b_X12_forgets_2 n (f_X12_forgets_2 n m) (nI p) (nI k) (nI kk) M) _
    unfold b_X12_forgets_2
    have tk : (nI kk).toInt = (kk : Int) := nI_toInt (by omega)
    have tp : (nI p).toInt = (p : Int) := nI_toInt (by omega)
    have tkk : (nI k).toInt = (k : Int) := nI_toInt (by omega)
    refine P_le l_12 tk (fun c => P_ret ?_) (fun c => ?_)
    · have e : kk = 12 := by omega
      subst e
      exact ⟨hlo, hhi, hf, hG, hL⟩
    · have hk12 : kk < 12 := by omega
      have hix := ixm (p := p) (k := kk) (by omega) (by omega)
      have m81 : M 81 = M0 81 := hf 81 (by decide) (by decide) (by decide)
      have m82 : M 82 = M0 82 := hf 82 (by decide) (by decide) (by decide)
      have m77 : M 77 = M0 77 := hf 77 (by decide) (by decide) (by decide)
      have eD : M 78 313 = M0 78 313 := hhi 313 (fun q hq => by omega)
      have eT : ∀ p', p' < 8 → M 78 (12 * p' + kk) = M0 78 (12 * p' + kk) := fun p' hp' => hhi _ (fun q hq => by omega)
      have eL : M 78 (96 + (12 * p + kk)) = M0 78 (96 + (12 * p + kk)) := hhi _ (fun q hq => by omega)
      have eN : M 78 (192 + (12 * p + kk)) = M0 78 (192 + (12 * p + kk)) := hhi _ (fun q hq => by omega)
      have nx : ∀ (m' : qM) (x : Int32), x.toInt = (kk : Int) + 1 → G m' → LM m' C K → Mf M0 m' → ((mP M0 C K n p k kk ∧ m' 78 (12 * p + kk) = 0 ∧ m' 78 (96 + (12 * p + kk)) = -2) ∨ (¬ mP M0 C K n p k kk ∧ m' 78 (12 * p + kk) = M0 78 (12 * p + kk) ∧ m' 78 (96 + (12 * p + kk)) = M0 78 (96 + (12 * p + kk)))) → (∀ i, i ≠ 12 * p + kk → i ≠ 96 + (12 * p + kk) → m' 78 i = M 78 i) → qP (f_X12_forgets_2 n m (nI p) (nI k) x m') (fun _ m' => (∀ q, q < 12 → (mP M0 C K n p k q → m' 78 (12 * p + q) = 0 ∧ m' 78 (96 + (12 * p + q)) = -2) ∧ (¬ mP M0 C K n p k q → m' 78 (12 * p + q) = M0 78 (12 * p + q) ∧ m' 78 (96 + (12 * p + q)) = M0 78 (96 + (12 * p + q)))) ∧ (∀ i, (∀ q, q < 12 → i ≠ 12 * p + q ∧ i ≠ 96 + (12 * p + q)) → m' 78 i = M0 78 i) ∧ Mf M0 m' ∧ G m' ∧ LM m' C K) := by
        intro m' x hx g' l' f' hc ho
        rw [nI_i (a := x) (k := kk + 1) (by rw [hx]; omega)]
        refine ih (kk + 1) m' g' l' f' (by omega) (fun q hq => ?_) (fun i hi => ?_)
        · by_cases e : q = kk
          · subst e
            rcases hc with ⟨c1, c2⟩ | ⟨c1, c2⟩
            · exact ⟨fun _ => c2, fun z => absurd c1 z⟩
            · exact ⟨fun z => absurd z c1, fun _ => c2⟩
          · rw [ho _ (by omega) (by omega), ho _ (by omega) (by omega)]
            exact hlo q (by omega)
        · rw [ho i (hi kk (by omega)).1 (hi kk (by omega)).2]
          exact hhi i (fun q hq => hi q (by omega))
      unfold f_X12_at
      rw [qc_v, d_kn hk12, qc_v]
      have skip : ∀ (x : Int32) (m' : qM), x.toInt = (kk : Int) + 1 → G m' → LM m' C K → (∀ c, c ≠ 96 → c ≠ 97 → m' c = M c) → ¬ mP M0 C K n p k kk → qP (f_X12_forgets_2 n m (nI p) (nI k) x m') _ := fun x m' hx g' l' e' hno => nx m' x hx g' l' (fun c q1 q2 q3 => by rw [e' c q2 q3]; exact hf c q1 q2 q3) (Or.inr ⟨hno, by rw [e' 78 (by decide) (by decide)]; exact eT p hp, by rw [e' 78 (by decide) (by decide)]; exact eL⟩) (fun i _ _ => by rw [e' 78 (by decide) (by decide)])
      rw [m77]
      by_cases ct : bitI (M0 77 6) kk
      · rw [if_pos ct]
        refine P_eq l_1 l_0 (fun z => by omega) (fun _ => P_qg (fun _ _ => ?_))
        rw [hix.1, eT p hp]
        refine P_if (fun z => ?_) (fun z => ?_)
        · exact P_ql (i_add tk l_1 (by omega) (by omega)) (fun x hx => skip x M hx hG hL (fun _ _ _ => rfl) (fun y => y.2.1 z))
        · refine P_qc (P_and (d_isLike hn hK h240 (k := k) (i := kk) (by omega) hk12 M hG hL) (P_T (t_X12_isLike hn (nI k) (nI kk) M hG (by omega) (by omega)))) ?_
          rintro r7 m8 ⟨hr7, _, g8, s8⟩
          rw [m81, m82, eD] at hr7
          have o8 : ∀ c, c ≠ 96 → c ≠ 97 → m8 c = M c := fun c q1 q2 => funext (fun s_ => s8 c s_ (out3 q1 q2))
          have l8 : LM m8 C K := LM_cg hL (fun c q1 q2 => o8 c (by omega) (by omega)) (by rw [o8 77 (by decide) (by decide)])
          refine P_if (fun y => ?_) (fun y => ?_)
          · exact P_ql (i_add tk l_1 (by omega) (by omega)) (fun x hx => skip x m8 hx g8 l8 o8 (fun w => w.1.2 (by rw [← hr7]; exact y)))
          · refine P_qc (P_and (d_tell hp hk12 8 m8) (P_T (t_X12_feels hn (nI p) (nI kk) 8 m8 g8 (by omega) (by omega) (by decide)))) ?_
            rintro _ m9 ⟨⟨hF, e9⟩, _, g9, _⟩
            have o9 : ∀ c, c ≠ 96 → c ≠ 97 → m9 c = M c := fun c q1 q2 => by rw [e9 c q2]; exact o8 c q1 q2
            have l9 : LM m9 C K := LM_cg hL (fun c q1 q2 => o9 c (by omega) (by omega)) (by rw [o9 77 (by decide) (by decide)])
            refine P_qc (P_and (d_amt hn hK h240 102 999 0 m9 g9 l9 (by rw [l_102]; decide) (by decide)) (P_T (t_X12_byLaw hn 102 999 0 m9 g9 (by decide) (by decide) (by decide)))) ?_
            rintro r10 m11 ⟨hr10, hrg, g11, s11⟩
            have o11 : ∀ c, c ≠ 96 → c ≠ 97 → m11 c = M c := fun c q1 q2 => by rw [← o9 c q1 q2]; exact funext (fun s_ => s11 c s_ (out96 q1))
            have l11 : LM m11 C K := LM_cg hL (fun c q1 q2 => o11 c (by omega) (by omega)) (by rw [o11 77 (by decide) (by decide)])
            have hv : r10 = fgV C K n (M0 81) (M0 82) (M0 78 313) p (M0 78) (fun i => M0 78 (192 + i)) kk := by
              rw [hr10, l_102, amtL_F hF (by decide) hK, o8 81 (by decide) (by decide), o8 82 (by decide) (by decide), o8 78 (by decide) (by decide), m81, m82, eD, eT p hp, eN, byA_c2 (fun q hq => eT q hq)]
              rfl
            refine P_if (fun w => ?_) (fun w => ?_)
            · exact P_ql (i_add tk l_1 (by omega) (by omega)) (fun x hx => skip x m11 hx g11 l11 o11 (fun u => u.2.2.1 (by rw [← hv]; exact w)))
            · refine P_qg (fun _ _ => ?_)
              rw [hix.2.1, o11 78 (by decide) (by decide), eD, eL]
              refine P_le rfl rfl (fun u => ?_) (fun u => ?_)
              · refine P_qg (fun _ _ => ?_)
                refine P_g g11 (ro78 (Or.inl rfl) (by omega)) (nw_78 _) ?_
                intro m13 a1 a2 a3 g13
                refine P_qg (fun _ _ => P_g g13 (ro78 (Or.inl rfl) (by omega)) (nw_78 _) ?_)
                intro m14 b1 b2 b3 g14
                refine P_ql (i_add tk l_1 (by omega) (by omega)) (fun x hx => ?_)
                have o14 : ∀ c, c ≠ 78 → c ≠ 96 → c ≠ 97 → m14 c = M c := fun c q0 q1 q2 => by rw [b3 c q0, a3 c q0, o11 c q1 q2]
                refine nx m14 x hx g14 (LM_cg hL (fun c q1 q2 => o14 c (by omega) (by omega) (by omega)) (by rw [o14 77 (by decide) (by decide) (by decide)])) (fun c q0 q1 q2 => by rw [o14 c q0 q1 q2]; exact hf c q0 q1 q2) (Or.inl ⟨⟨⟨ct, by rw [← hr7]; exact y⟩, z, by rw [← hv]; exact w, by rw [← hv]; exact u⟩, by rw [b2 _ (by omega), a1], b1⟩) (fun i q1 q2 => by rw [b2 i q2, a2 i q1, o11 78 (by decide) (by decide)])
              · exact P_ql (i_add tk l_1 (by omega) (by omega)) (fun x hx => skip x m11 hx g11 l11 o11 (fun w2 => by
                    have w1 : r10.toInt ≤ (M0 78 313 - M0 78 (96 + (12 * p + kk))).toInt := by rw [hv]; exact w2.2.2.2
                    omega))
      · rw [if_neg ct]
        refine P_eq l_0 l_0 (fun _ => ?_) (fun z => absurd rfl z)
        exact P_ql (i_add tk l_1 (by omega) (by omega)) (fun x hx => skip x M hx hG hL (fun _ _ _ => rfl) (fun y => ct y.1.1))
theorem d_forget {n : Nat} (hn : 200000 ≤ n) {p k : Nat} (hp : p < 8) (hk : k < 12) {C : List Int} {K : List Kl} (hK : Kg (cdl C) C.length K) (h240 : C.length ≤ 240) (M : qM) (hG : G M) (hL : LM M C K) : qP (f_X12_forgets n (nI p) (nI k) M) (fun _ m' => (∀ q, q < 12 → (mP M C K n p k q → m' 78 (12 * p + q) = 0 ∧ m' 78 (96 + (12 * p + q)) = -2) ∧ (¬ mP M C K n p k q → m' 78 (12 * p + q) = M 78 (12 * p + q) ∧ m' 78 (96 + (12 * p + q)) = M 78 (96 + (12 * p + q)))) ∧ (∀ i, (∀ q, q < 12 → i ≠ 12 * p + q ∧ i ≠ 96 + (12 * p + q)) → m' 78 i = M 78 i) ∧ Mf M m' ∧ G m' ∧ LM m' C K) := by
  unfold f_X12_forgets
  exact d_forget2 hn hp hk hK h240 n 0 M hG hL (fun _ _ _ _ => rfl) (Nat.zero_le _) (fun q hq => absurd hq (by omega)) (fun _ _ => rfl)
/-! old ones, and what is needed -/
def smB (T : Nat → Int32) (p : Nat) (b : Int32) : Nat → Int32
  | 0 => 0
  | q + 1 => if bitI b q then smB T p b q + T (12 * p + q) else smB T p b q
theorem c_among5 {n t p : Nat} (hp : p < 8) (b : Int32) : ∀ (m q : Nat) (M : qM), q ≤ 12 → qP (f_X10_triesAmong_5 n t m (nI p) b (smB (M (t + 2)) p b q) (nI q) M) (fun v m' => v = smB (M (t + 2)) p b 12 ∧ m' = M) := by
  intro m
  induction m with
  | zero => intro q M _; exact P_none
  | succ m ih =>
    intro q M hq
    show qP (b_X10_triesAmong_5 n t (f_X10_triesAmong_5 n t m) (nI p) b (smB (M (t + 2)) p b q) (nI q) M) _
    unfold b_X10_triesAmong_5
    have tq' : (nI q).toInt = (q : Int) := nI_toInt (by omega)
    refine P_le l_12 tq' (fun c => P_ret ⟨by rw [show q = 12 by omega], rfl⟩) (fun c => P_if (fun cb => ?_) (fun cb => ?_))
    · refine P_qg (fun _ _ => ?_)
      rw [(ixn (p := p) (k := q) (by omega) (by omega)).1]
      refine P_ql rfl (fun x1 hx1 => P_ql (i_add tq' l_1 (by omega) (by omega)) (fun x2 hx2 => ?_))
      have e1 : x1 = smB (M (t + 2)) p b (q + 1) := by
        rw [Int32.toInt_inj.mp hx1]
        show _ = (if bitI b q then _ else _)
        rw [if_pos cb]
      rw [e1, nI_i (a := x2) (k := q + 1) (by rw [hx2]; omega)]
      exact ih (q + 1) M (by omega)
    · refine P_ql (i_add tq' l_1 (by omega) (by omega)) (fun x2 hx2 => ?_)
      have e1 : smB (M (t + 2)) p b q = smB (M (t + 2)) p b (q + 1) := by
        show _ = (if bitI b q then _ else _)
        rw [if_neg cb]
      rw [e1, nI_i (a := x2) (k := q + 1) (by rw [hx2]; omega)]
      exact ih (q + 1) M (by omega)
theorem c_among {n t p : Nat} (hp : p < 8) (b : Int32) (M : qM) : qP (f_X10_triesAmong n t (nI p) b M) (fun v m' => v = smB (M (t + 2)) p b 12 ∧ m' = M) := by
  unfold f_X10_triesAmong
  exact c_among5 hp b n 0 M (by omega)
theorem smB_cg {T U : Nat → Int32} {p : Nat} (hp : p < 8) {b b' : Int32} (hb : ∀ q, q < 12 → (bitI b' q ↔ bitI b q)) (h : ∀ i, i < 96 → U i = T i) : ∀ {q : Nat}, q ≤ 12 → smB U p b' q = smB T p b q := by
  intro q
  induction q with
  | zero => intro _; rfl
  | succ q ih =>
    intro hq
    show (if bitI b' q then smB U p b' q + U (12 * p + q) else smB U p b' q) = (if bitI b q then smB T p b q + T (12 * p + q) else smB T p b q)
    rw [ih (by omega), h _ (by omega)]
    by_cases c : bitI b q
    · rw [if_pos c, if_pos ((hb q (by omega)).mpr c)]
    · rw [if_neg c, if_neg (fun z => c ((hb q (by omega)).mp z))]
theorem d_old5 {n : Nat} (hn : 200000 ≤ n) {p k : Nat} (hp : p < 8) (hk : k < 12) {C : List Int} {K : List Kl} (hK : Kg (cdl C) C.length K) (h240 : C.length ≤ 240) {M0 : qM} {b : Int32} (hb : ∀ q, q < 12 → (bitI b q ↔ mA (M0 77 6) C K n (M0 81) (M0 82) (M0 78 313) k q)) (hT : ∀ i, i < 96 → 0 ≤ (M0 78 i).toInt) : ∀ (m q : Nat) (M : qM), G M → LM M C K → (∀ c, c ≠ 96 → c ≠ 97 → M c = M0 c) → q ≤ 12 → qP (f_X12_oldOnes_5 n m (nI p) (nI k) (smB (M0 78) p b q) (nI q) M) (fun v m' => v = smB (M0 78) p b 12 ∧ (∀ c, c ≠ 96 → c ≠ 97 → m' c = M0 c) ∧ G m') := by
  intro m
  induction m with
  | zero => intro q M _ _ _ _; exact P_none
  | succ m ih =>
    intro q M hG hL hf hq
    show qP (b_X12_oldOnes_5 n (f_X12_oldOnes_5 n m) (nI p) (nI k) (smB (M0 78) p b q) (nI q) M) _
    unfold b_X12_oldOnes_5
    have tq' : (nI q).toInt = (q : Int) := nI_toInt (by omega)
    have tk : (nI k).toInt = (k : Int) := nI_toInt (by omega)
    refine P_le l_12 tq' (fun c => P_ret ⟨by rw [show q = 12 by omega], hf, hG⟩) (fun c => ?_)
    have hq12 : q < 12 := by omega
    have hix := ixm (p := p) (k := q) (by omega) (by omega)
    have m77 : M 77 = M0 77 := hf 77 (by decide) (by decide)
    have m78 : M 78 = M0 78 := hf 78 (by decide) (by decide)
    have m81 : M 81 = M0 81 := hf 81 (by decide) (by decide)
    have m82 : M 82 = M0 82 := hf 82 (by decide) (by decide)
    have no : ∀ (x : Int32) (m' : qM), x.toInt = (q : Int) + 1 → G m' → LM m' C K → (∀ c, c ≠ 96 → c ≠ 97 → m' c = M0 c) → (bitI b q → M0 78 (12 * p + q) = 0) → qP (f_X12_oldOnes_5 n m (nI p) (nI k) (smB (M0 78) p b q) x m') (fun v m' => v = smB (M0 78) p b 12 ∧ (∀ c, c ≠ 96 → c ≠ 97 → m' c = M0 c) ∧ G m') := by
      intro x m' hx g' l' f' h0
      have e1 : smB (M0 78) p b q = smB (M0 78) p b (q + 1) := by
        show _ = (if bitI b q then _ else _)
        by_cases cb : bitI b q
        · rw [if_pos cb, h0 cb, Int32.add_zero]
        · rw [if_neg cb]
      rw [e1, nI_i (a := x) (k := q + 1) (by rw [hx]; omega)]
      exact ih (q + 1) m' g' l' f' (by omega)
    rw [d_kn hq12, qc_v, m77]
    by_cases ct : bitI (M0 77 6) q
    · rw [if_pos ct]
      refine P_eq l_1 l_0 (fun z => by omega) (fun _ => ?_)
      unfold f_X12_at
      rw [qc_v]
      refine P_qg (fun _ _ => ?_)
      rw [hix.1, m78]
      have hT0 := hT (12 * p + q) (by omega)
      refine P_le rfl l_0 (fun z => ?_) (fun z => ?_)
      · exact P_ql (i_add tq' l_1 (by omega) (by omega)) (fun x hx => no x M hx hG hL hf (fun _ => Int32.toInt_inj.mp (by rw [l_0]; omega)))
      · refine P_qc (P_and (d_isLike hn hK h240 (k := k) (i := q) (by omega) hq12 M hG hL) (P_T (t_X12_isLike hn (nI k) (nI q) M hG (by omega) (by omega)))) ?_
        rintro r7 m8 ⟨hr7, _, g8, s8⟩
        rw [m81, m82, m78] at hr7
        have o8 : ∀ c, c ≠ 96 → c ≠ 97 → m8 c = M0 c := fun c q1 q2 => by rw [← hf c q1 q2]; exact funext (fun s_ => s8 c s_ (out3 q1 q2))
        have l8 : LM m8 C K := LM_cg hL (fun c q1 q2 => by rw [o8 c (by omega) (by omega), hf c (by omega) (by omega)]) (by rw [o8 77 (by decide) (by decide), m77])
        refine P_if (fun y => ?_) (fun y => ?_)
        · exact P_ql (i_add tq' l_1 (by omega) (by omega)) (fun x hx => no x m8 hx g8 l8 o8 (fun w => absurd (by rw [← hr7]; exact y) ((hb q hq12).mp w).2))
        · rw [qc_v]
          refine P_qg (fun _ _ => ?_)
          rw [hix.1, o8 78 (by decide) (by decide)]
          refine P_ql rfl (fun x1 hx1 => P_ql (i_add tq' l_1 (by omega) (by omega)) (fun x2 hx2 => ?_))
          have e1 : x1 = smB (M0 78) p b (q + 1) := by
            rw [Int32.toInt_inj.mp hx1]
            show _ = (if bitI b q then _ else _)
            rw [if_pos ((hb q hq12).mpr ⟨ct, by rw [← hr7]; exact y⟩)]
          rw [e1, nI_i (a := x2) (k := q + 1) (by rw [hx2]; omega)]
          exact ih (q + 1) m8 g8 l8 o8 (by omega)
    · rw [if_neg ct]
      refine P_eq l_0 l_0 (fun _ => ?_) (fun z => absurd rfl z)
      exact P_ql (i_add tq' l_1 (by omega) (by omega)) (fun x hx => no x M hx hG hL hf (fun w => absurd ((hb q hq12).mp w).1 ct))
theorem d_old {n : Nat} (hn : 200000 ≤ n) {p k : Nat} (hp : p < 8) (hk : k < 12) {C : List Int} {K : List Kl} (hK : Kg (cdl C) C.length K) (h240 : C.length ≤ 240) (M : qM) {b : Int32} (hb : ∀ q, q < 12 → (bitI b q ↔ mA (M 77 6) C K n (M 81) (M 82) (M 78 313) k q)) (hT : ∀ i, i < 96 → 0 ≤ (M 78 i).toInt) (hG : G M) (hL : LM M C K) : qP (f_X12_oldOnes n (nI p) (nI k) M) (fun v m' => v = smB (M 78) p b 12 ∧ (∀ c, c ≠ 96 → c ≠ 97 → m' c = M c) ∧ G m') := by
  unfold f_X12_oldOnes
  exact d_old5 hn hp hk hK h240 hb hT n 0 M hG hL (fun _ _ _ => rfl) (Nat.zero_le _)
/-- whether all that is needed has counted: from the kind 12 - e on -/
def hcv (N : Nat → Int32) (p : Nat) (b : Int32) : Nat → Int32
  | 0 => 1
  | e + 1 => if bitI b (11 - e) ∧ N (12 * p + (11 - e)) = 0 then 0 else hcv N p b e
theorem hcv_cg {N U : Nat → Int32} {p : Nat} (hp : p < 8) {b : Int32} (h : ∀ i, i < 96 → U i = N i) : ∀ {e : Nat}, e ≤ 12 → hcv U p b e = hcv N p b e := by
  intro e
  induction e with
  | zero => intro _; rfl
  | succ e ih =>
    intro he
    show (if bitI b (11 - e) ∧ U (12 * p + (11 - e)) = 0 then 0 else hcv U p b e) = (if bitI b (11 - e) ∧ N (12 * p + (11 - e)) = 0 then 0 else hcv N p b e)
    rw [ih (by omega), h _ (by omega)]
theorem c_has2 {n t p : Nat} (hp : p < 8) (b : Int32) : ∀ (m e : Nat) (M : qM), e ≤ 12 → qP (f_X10_hasCounted_2 n t m (nI p) b (nI (12 - e)) M) (fun v m' => v = hcv (M (t + 4)) p b e ∧ m' = M) := by
  intro m
  induction m with
  | zero => intro e M _; exact P_none
  | succ m ih =>
    intro e M he
    show qP (b_X10_hasCounted_2 n t (f_X10_hasCounted_2 n t m) (nI p) b (nI (12 - e)) M) _
    unfold b_X10_hasCounted_2
    have te : (nI (12 - e)).toInt = ((12 - e : Nat) : Int) := nI_toInt (by omega)
    cases e with
    | zero => exact P_le l_12 te (fun _ => P_ret ⟨rfl, rfl⟩) (fun c => by omega)
    | succ e =>
      have eq1 : 12 - (e + 1) = 11 - e := by omega
      have nxt : ∀ x : Int32, x.toInt = ((12 - (e + 1) : Nat) : Int) + 1 → ¬ (bitI b (11 - e) ∧ M (t + 4) (12 * p + (11 - e)) = 0) → qP (f_X10_hasCounted_2 n t m (nI p) b x M) (fun v m' => v = hcv (M (t + 4)) p b (e + 1) ∧ m' = M) := by
        intro x hx hno
        rw [nI_i (a := x) (k := 12 - e) (by rw [hx]; omega)]
        refine P_mono (ih e M (by omega)) (fun v m' h => ⟨?_, h.2⟩)
        show v = (if bitI b (11 - e) ∧ M (t + 4) (12 * p + (11 - e)) = 0 then 0 else hcv (M (t + 4)) p b e)
        rw [if_neg hno]; exact h.1
      refine P_le l_12 te (fun c => by omega) (fun c => P_if (fun cb => ?_) (fun cb => ?_))
      · refine P_qg (fun _ _ => ?_)
        rw [(ixn (p := p) (k := 12 - (e + 1)) (by omega) (by omega)).1]
        rw [eq1] at cb ⊢
        refine P_if (fun z => P_ret ⟨?_, rfl⟩) (fun z => ?_)
        · show _ = (if bitI b (11 - e) ∧ M (t + 4) (12 * p + (11 - e)) = 0 then (0 : Int32) else hcv (M (t + 4)) p b e)
          rw [if_pos ⟨cb, z⟩]
        · exact P_ql (i_add (nI_toInt (by omega)) l_1 (by omega) (by omega)) (fun x hx => nxt x (by rw [hx]; omega) (fun w => z w.2))
      · exact P_ql (i_add te l_1 (by omega) (by omega)) (fun x hx => nxt x hx (fun w => cb (by rw [eq1]; exact w.1)))
theorem c_has {n t p : Nat} (hp : p < 8) (b : Int32) (M : qM) : qP (f_X10_hasCounted n t (nI p) b M) (fun v m' => v = hcv (M (t + 4)) p b 12 ∧ m' = M) := by
  unfold f_X10_hasCounted
  exact c_has2 hp b n 12 M (by omega)
theorem d_needs2 {n p k : Nat} (hp : p < 8) (hk : k < 12) : ∀ (m e : Nat) (M : qM), e ≤ 12 → qP (f_X12_hasNeeds_2 n m (nI p) (nI k) (nI (12 - e)) M) (fun v m' => v = hcv (fun i => M 78 (192 + i)) p (M 83 k) e ∧ m' = M) := by
  intro m
  induction m with
  | zero => intro e M _; exact P_none
  | succ m ih =>
    intro e M he
    show qP (b_X12_hasNeeds_2 n (f_X12_hasNeeds_2 n m) (nI p) (nI k) (nI (12 - e)) M) _
    unfold b_X12_hasNeeds_2
    have ek : (nI k).toNatClampNeg = k := by rw [tnc, nI_toInt (by omega)]; rfl
    have te : (nI (12 - e)).toInt = ((12 - e : Nat) : Int) := nI_toInt (by omega)
    cases e with
    | zero => exact P_le l_12 te (fun _ => P_ret ⟨rfl, rfl⟩) (fun c => by omega)
    | succ e =>
      have eq1 : 12 - (e + 1) = 11 - e := by omega
      have nxt : ∀ x : Int32, x.toInt = ((12 - (e + 1) : Nat) : Int) + 1 → ¬ (bitI (M 83 k) (11 - e) ∧ M 78 (192 + (12 * p + (11 - e))) = 0) → qP (f_X12_hasNeeds_2 n m (nI p) (nI k) x M) (fun v m' => v = hcv (fun i => M 78 (192 + i)) p (M 83 k) (e + 1) ∧ m' = M) := by
        intro x hx hno
        rw [nI_i (a := x) (k := 12 - e) (by rw [hx]; omega)]
        refine P_mono (ih e M (by omega)) (fun v m' h => ⟨?_, h.2⟩)
        show v = (if bitI (M 83 k) (11 - e) ∧ M 78 (192 + (12 * p + (11 - e))) = 0 then 0 else hcv (fun i => M 78 (192 + i)) p (M 83 k) e)
        rw [if_neg hno]; exact h.1
      refine P_le l_12 te (fun c => by omega) (fun c => P_qg (fun _ _ => ?_))
      rw [ek]
      unfold f_X12_has0
      by_cases cb : bitI (M 83 k) (12 - (e + 1))
      · rw [if_pos cb, qc_v]
        refine P_eq l_1 l_0 (fun z => by omega) (fun _ => ?_)
        unfold f_X12_at
        rw [qc_v]
        refine P_qg (fun _ _ => ?_)
        rw [(ixm (p := p) (k := 12 - (e + 1)) (by omega) (by omega)).2.2]
        rw [eq1] at cb ⊢
        refine P_if (fun z => P_ret ⟨?_, rfl⟩) (fun z => ?_)
        · show _ = (if bitI (M 83 k) (11 - e) ∧ M 78 (192 + (12 * p + (11 - e))) = 0 then (0 : Int32) else hcv (fun i => M 78 (192 + i)) p (M 83 k) e)
          rw [if_pos ⟨cb, z⟩]
        · exact P_ql (i_add (nI_toInt (by omega)) l_1 (by omega) (by omega)) (fun x hx => nxt x (by rw [hx]; omega) (fun w => z w.2))
      · rw [if_neg cb, qc_v]
        refine P_eq l_0 l_0 (fun _ => ?_) (fun z => absurd rfl z)
        exact P_ql (i_add te l_1 (by omega) (by omega)) (fun x hx => nxt x hx (fun w => cb (by rw [eq1]; exact w.1)))
theorem d_needs {n p k : Nat} (hp : p < 8) (hk : k < 12) (M : qM) : qP (f_X12_hasNeeds n (nI p) (nI k) M) (fun v m' => v = hcv (fun i => M 78 (192 + i)) p (M 83 k) 12 ∧ m' = M) := by
  unfold f_X12_hasNeeds
  exact d_needs2 hp hk n 12 M (by omega)
/-! a try -/
def Fgt (P : Nat → Prop) (p : Nat) (T T1 : Nat → Int32) : Prop := (∀ q, q < 12 → (P q → T1 (12 * p + q) = 0) ∧ (¬ P q → T1 (12 * p + q) = T (12 * p + q))) ∧ ∀ i, i < 96 → (∀ q, q < 12 → i ≠ 12 * p + q) → T1 i = T i
def vdV (C : List Int) (K : List Kl) (n : Nat) (H X : Nat → Int32) (d : Int32) (p k : Nat) (w : Int32) (T N : Nat → Int32) : Int32 := amtL C n (fx (nI k) (H k) (X k) 0 0 0 d (nI p) w (T (12 * p + k)) (byA T k 8) (N (12 * p + k))) 118 99 K 1
/-- what comes of a try: v the answer, T1 the tries behind what is forgotten, N2 what counted then -/
def Att (old vd hc v : Int32) (cell : Nat) (N N2 : Nat → Int32) : Prop := (old.toInt < vd.toInt ∧ v = 0 ∧ (∀ i, i < 96 → N2 i = N i)) ∨ (vd.toInt ≤ old.toInt ∧ hc = 0 ∧ v = -2 ∧ (∀ i, i < 96 → N2 i = N i)) ∨ (vd.toInt ≤ old.toInt ∧ hc ≠ 0 ∧ v = 1 ∧ (∀ i, i < 96 → N2 i = if i = cell then qmin 999 (N i + 1) else N i))
theorem c_void {n : Nat} (hn : 200000 ≤ n) {j : Nat} (hj : q_isLaw j) {C : List Int} {K : List Kl} (hK : Kg (cdl C) C.length K) (M : qM) (hG : G M) (hL : LJ j M C K) : qP (f_X1_voidTries n j M) (fun v m => v = amtL C n (M 35) 118 99 K 1 ∧ G m ∧ Sm l_X1_amount M m) := by
  unfold f_X1_voidTries
  refine P_qc (P_and (c_amt hn hj hK 118 99 1 M hG hL (by rw [l_118]; decide)) (P_T (t_X1_amount hn hj 118 99 1 M hG (by decide) (by decide) (by decide)))) ?_
  rintro r m ⟨h1, _, h2, h3⟩
  rw [l_118] at h1
  exact P_ret ⟨h1, h2, h3⟩
theorem c_addTry {n t p k : Nat} (hp : p < 8) (hk : k < 12) (M : qM) : qP (f_X10_addTry n t (nI p) (nI k) M) (fun _ m => m (t + 2) (12 * p + k) = qmin 999 (M (t + 2) (12 * p + k) + 1) ∧ (∀ i, i ≠ 12 * p + k → m (t + 2) i = M (t + 2) i) ∧ m (t + 3) (12 * p + k) = M t 9 ∧ (∀ i, i ≠ 12 * p + k → m (t + 3) i = M (t + 3) i) ∧ ∀ c, c ≠ t + 2 → c ≠ t + 3 → m c = M c) := by
  unfold f_X10_addTry
  refine P_ql rfl (fun x1 hx1 => ?_)
  have ex : x1.toNatClampNeg = 12 * p + k := by rw [Int32.toInt_inj.mp hx1]; exact (ixn (by omega) (by omega)).1
  refine P_qg (fun _ _ => P_qg (fun _ _ => ?_))
  rw [ex]
  refine P_m (fun m2 a1 a2 a3 => P_qg (fun _ _ => ?_))
  rw [a3 t (by omega)]
  refine P_m (fun m3 b1 b2 b3 => P_ret ⟨by rw [b3 (t + 2) (by omega)]; exact a1, fun i hi => by rw [b3 (t + 2) (by omega)]; exact a2 i hi, b1, fun i hi => by rw [b2 i hi, a3 (t + 3) (by omega)], fun c h1 h2 => by rw [b3 c h2, a3 c h1]⟩)
theorem c_addCounted {n t p k : Nat} (hp : p < 8) (hk : k < 12) (M : qM) : qP (f_X10_addCounted n t (nI p) (nI k) M) (fun _ m => m (t + 4) (12 * p + k) = qmin 999 (M (t + 4) (12 * p + k) + 1) ∧ (∀ i, i ≠ 12 * p + k → m (t + 4) i = M (t + 4) i) ∧ ∀ c, c ≠ t + 4 → m c = M c) := by
  unfold f_X10_addCounted
  refine P_ql rfl (fun x1 hx1 => ?_)
  have ex : x1.toNatClampNeg = 12 * p + k := by rw [Int32.toInt_inj.mp hx1]; exact (ixn (by omega) (by omega)).1
  refine P_qg (fun _ _ => P_qg (fun _ _ => ?_))
  rw [ex]
  exact P_m (fun m2 a1 a2 a3 => P_ret ⟨a1, a2, a3⟩)
theorem out34 {l : List Bx} {c s : Nat} (h : l.all (fun b => decide (b.2.1 ≤ 37) && decide (34 ≤ b.1)) = true) (hc : c < 34 ∨ 36 < c) : ∀ b ∈ l, ¬ inB b c s := by
  intro b hb hi
  rw [List.all_eq_true] at h
  have h3 := h b hb
  obtain ⟨a1, a2, _⟩ := hi
  simp only [Bool.and_eq_true, decide_eq_true_eq] at h3
  omega
abbrev cA (k : Nat) (told : Int32) (C : List Int) (K : List Kl) (n : Nat) (H X : Nat → Int32) (d : Int32) (q : Nat) : Prop := q = k ∨ (bitI told q ∧ lkv C K n H X d k q ≠ 0)
theorem c_att {n : Nat} (hn : 200000 ≤ n) {t j p k : Nat} (ht : t = 7 ∨ t = 25) (hj : q_isLaw j) (hp : p < 8) (hk : k < 12) {C : List Int} {K : List Kl} (hK : Kg (cdl C) C.length K) (w : Int32) (hw : 0 ≤ w.toInt ∧ w.toInt ≤ 8) (M : qM) (hG : G M) (hL : LJ j M C K) (hX : MK (M 5)) (hT : ∀ i, i < 96 → 0 ≤ (M (t + 2) i).toInt) : qP (f_X0_attempt n t j (nI p) (nI k) w M) (fun v m => ∃ (T1 : Nat → Int32) (b : Int32), (∀ q, q < 12 → (bitI b q ↔ cA k (M 3 3) C K n (M 4) (M 5) (M t 9) q)) ∧ Fgt (fgP (cA k (M 3 3) C K n (M 4) (M 5) (M t 9)) C K n (M 4) (M 5) (M t 9) p (M (t + 2)) (M (t + 3)) (M (t + 4))) p (M (t + 2)) T1 ∧ m 44 2 = smB T1 p b 12 ∧ m 44 3 = vdV C K n (M 4) (M 5) (M t 9) p k w T1 (M (t + 4)) ∧ (∀ i, i < 96 → m (t + 2) i = if i = 12 * p + k then qmin 999 (T1 i + 1) else T1 i) ∧ (∀ i, i < 96 → m (t + 3) i = if i = 12 * p + k then M t 9 else M (t + 3) i) ∧ Att (smB T1 p b 12) (vdV C K n (M 4) (M 5) (M t 9) p k w T1 (M (t + 4))) (hcv (M (t + 4)) p (M 6 k) 12) v (12 * p + k) (M (t + 4)) (m (t + 4))) := by
  obtain ⟨htn, htc⟩ := tne ht
  have ek : (nI k).toNatClampNeg = k := by rw [tnc, nI_toInt (by omega)]; rfl
  have tk : (nI k).toInt = (k : Int) := nI_toInt (by omega)
  have ct : ∀ c, c ≤ 8 → (t + c < 34 ∨ 36 < t + c) := fun c hc => by rcases ht with rfl | rfl <;> omega
  unfold f_X0_attempt
  refine P_qc (P_and (c_alikes hn hj hK hk (M t 9) M hG hL hX) (P_T (t_X1_alikes hn hj (nI k) (M t 9) M hG (by omega)))) ?_
  rintro b m2 ⟨hb, g2, s2⟩
  have o2 : ∀ c, c < 34 ∨ 36 < c → m2 c = M c := fun c hc => funext (fun s_ => s2 c s_ (out34 rfl hc))
  have l2 : LJ j m2 C K := LJ_Sm hj hL s2 rfl
  have t2 : ∀ c, c ≤ 8 → m2 (t + c) = M (t + c) := fun c hc => o2 _ (ct c hc)
  refine P_qc (c_forget hn ht hj hp hK (A := cA k (M 3 3) C K n (M 4) (M 5) (M t 9)) hb m2 (fun i hi => by rw [t2 2 (by decide)]; exact hT i hi) g2 l2) ?_
  rintro _ m3 ⟨f1, f2, f3, g3⟩
  rw [o2 4 (by decide), o2 5 (by decide), t2 2 (by decide), t2 3 (by decide), t2 4 (by decide), show m2 t = M t from t2 0 (by decide)] at f1
  rw [t2 2 (by decide)] at f2
  have o3 : ∀ c, c ≠ t + 2 → (c < 34 ∨ 36 < c) → m3 c = M c := fun c q0 hc => by rw [f3 c q0 (by omega) (by omega) (by omega)]; exact o2 c hc
  have l3 : LJ j m3 C K := LJ_cg hL (fun q hq => o3 _ (tj ht hj hq (by decide)) (by rcases hj with rfl | rfl <;> omega))
  have hFg : Fgt (fgP (cA k (M 3 3) C K n (M 4) (M 5) (M t 9)) C K n (M 4) (M 5) (M t 9) p (M (t + 2)) (M (t + 3)) (M (t + 4))) p (M (t + 2)) (m3 (t + 2)) := ⟨f1, fun i _ hi => f2 i hi⟩
  refine P_qc (c_among (t := t) hp b m3) ?_
  rintro r4 m5 ⟨hr4, rfl⟩
  refine P_g g3 (rn_44_2 _) (nw_44 _) ?_
  intro m6 a1 a2 a3 g6
  have o6 : ∀ c, c ≠ 44 → m6 c = m5 c := a3
  have t6 : ∀ c, c ≤ 8 → m6 (t + c) = m5 (t + c) := fun c hc => a3 _ (htc (t + c) (by omega) (by omega)).2.2.2.2.2.2.2
  have l6 : LJ j m6 C K := LJ_cg l3 (fun q hq => a3 _ (by rcases hj with rfl | rfl <;> omega))
  refine P_qc (P_and (c_tell htn hp hk w m6) (G_tell hn ht hp hk w hw m6 g6)) ?_
  rintro _ m7 ⟨⟨hF, e7⟩, g7⟩
  have l7 : LJ j m7 C K := LJ_cg l6 (fun q hq => e7 _ (by rcases hj with rfl | rfl <;> omega))
  refine P_qc (c_void hn hj hK m7 g7 l7) ?_
  rintro r8 m9 ⟨hr8, g9, s9⟩
  have o9 : ∀ c, (c < 34 ∨ 36 < c) → m9 c = m6 c := fun c hc => by rw [← e7 c (by omega)]; exact funext (fun s_ => s9 c s_ (out34 rfl hc))
  have t3n : ∀ c, c ≤ 8 → c ≠ 2 → m5 (t + c) = M (t + c) := fun c hc h2 => o3 _ (by omega) (ct c hc)
  have hvd : r8 = vdV C K n (M 4) (M 5) (M t 9) p k w (m5 (t + 2)) (M (t + 4)) := by
    rw [hr8, amtL_F hF (by decide) hK, o6 4 (by decide), o6 5 (by decide), t6 2 (by decide), t6 4 (by decide), show m6 t = m5 t from t6 0 (by decide), show m5 t = M t from t3n 0 (by decide) (by decide), t3n 4 (by decide) (by decide), o3 4 (by rcases ht with rfl | rfl <;> decide) (by decide), o3 5 (by rcases ht with rfl | rfl <;> decide) (by decide)]
    rfl
  refine P_g g9 (rn_44_3 _) (nw_44 _) ?_
  intro m10 b1 b2 b3 g10
  have t10 : ∀ c, c ≤ 8 → m10 (t + c) = m5 (t + c) := fun c hc => by rw [b3 _ (htc (t + c) (by omega) (by omega)).2.2.2.2.2.2.2, o9 _ (ct c hc), t6 c hc]
  refine P_qc (c_addTry (t := t) hp hk m10) ?_
  rintro _ m11 ⟨c1, c2, c3, c4, c5⟩
  have h44 : t + 2 ≠ 44 ∧ t + 3 ≠ 44 ∧ t + 4 ≠ 44 := by rcases ht with rfl | rfl <;> decide
  have e44 : m11 44 = m10 44 := c5 44 (fun z => h44.1 z.symm) (fun z => h44.2.1 z.symm)
  have e442 : m11 44 2 = smB (m5 (t + 2)) p b 12 := by rw [e44, b2 2 (by decide), o9 44 (by decide), a1, hr4]
  have e443 : m11 44 3 = vdV C K n (M 4) (M 5) (M t 9) p k w (m5 (t + 2)) (M (t + 4)) := by rw [e44, b1, hvd]
  have r2 : ∀ i, i < 96 → m11 (t + 2) i = if i = 12 * p + k then qmin 999 (m5 (t + 2) i + 1) else m5 (t + 2) i := by
    intro i _
    by_cases e : i = 12 * p + k
    · rw [if_pos e, e, c1, t10 2 (by decide)]
    · rw [if_neg e, c2 i e, t10 2 (by decide)]
  have r3 : ∀ i, i < 96 → m11 (t + 3) i = if i = 12 * p + k then M t 9 else M (t + 3) i := by
    intro i _
    by_cases e : i = 12 * p + k
    · rw [if_pos e, e, c3, show m10 t = m5 t from t10 0 (by decide), show m5 t = M t from t3n 0 (by decide) (by decide)]
    · rw [if_neg e, c4 i e, t10 3 (by decide), t3n 3 (by decide) (by decide)]
  have r4' : m11 (t + 4) = M (t + 4) := by rw [c5 (t + 4) (by omega) (by omega), t10 4 (by decide), t3n 4 (by decide) (by decide)]
  have r6 : m11 6 = M 6 := by rw [c5 6 (by rcases ht with rfl | rfl <;> decide) (by rcases ht with rfl | rfl <;> decide), b3 6 (by decide), o9 6 (by decide), a3 6 (by decide), o3 6 (by rcases ht with rfl | rfl <;> decide) (by decide)]
  refine P_le (by rw [e443]) (by rw [e442]) (fun z => ?_) (fun z => ?_)
  · refine P_qg (fun _ _ => ?_)
    rw [ek, r6]
    refine P_qc (c_has (t := t) hp (M 6 k) m11) ?_
    rintro r12 m13 ⟨hr12, rfl⟩
    rw [r4'] at hr12
    refine P_if (fun y => P_ret ⟨m5 (t + 2), b, hb, hFg, e442, e443, r2, r3, Or.inr (Or.inl ⟨z, by rw [← hr12]; exact y, rfl, fun i _ => by rw [r4']⟩)⟩) (fun y => ?_)
    refine P_qc (c_addCounted (t := t) hp hk m13) ?_
    rintro _ m14 ⟨d1, d2, d3⟩
    have q44 : m14 44 = m13 44 := d3 44 (fun z => h44.2.2 z.symm)
    refine P_ret ⟨m5 (t + 2), b, hb, hFg, by rw [q44]; exact e442, by rw [q44]; exact e443, fun i hi => by rw [d3 (t + 2) (by omega)]; exact r2 i hi, fun i hi => by rw [d3 (t + 3) (by omega)]; exact r3 i hi, Or.inr (Or.inr ⟨z, by rw [← hr12]; exact y, rfl, fun i _ => ?_⟩)⟩
    by_cases e : i = 12 * p + k
    · rw [if_pos e, e, d1, r4']
    · rw [if_neg e, d2 i e, r4']
  · exact P_ret ⟨m5 (t + 2), b, hb, hFg, e442, e443, r2, r3, Or.inl ⟨z, rfl, fun i _ => by rw [r4']⟩⟩
/-! a try, by the model -/
theorem minq {a b : Int32} : (if b ≤ a then b else a) = qmin a b := by
  unfold qmin
  by_cases c : b < a
  · rw [if_pos c, if_pos (by rw [Int32.le_iff_toInt_le]; rw [Int32.lt_iff_toInt_lt] at c; omega)]
  · rw [if_neg c]
    by_cases d : b ≤ a
    · rw [if_pos d]
      rw [Int32.le_iff_toInt_le] at d
      rw [Int32.lt_iff_toInt_lt] at c
      exact Int32.toInt_inj.mp (by omega)
    · rw [if_neg d]
theorem d_min {n : Nat} {a b : Int32} {M : qM} : f_X12_min n a b M = some (qmin a b, M) := by
  unfold f_X12_min
  rw [← minq]
  by_cases d : b ≤ a
  · rw [if_pos d, if_pos d]
  · rw [if_neg d, if_neg d]
theorem d_84 {n p k : Nat} (hp : p < 8) (hk : k < 12) (s0 r1 : Int32) (M : qM) : qP (f_X12_triesNow_84 n s0 r1 ((12 : Int32) * nI p + nI k) M) (fun v m => m 78 (12 * p + k) = qmin 999 (M 78 (12 * p + k) + 1) ∧ m 78 (96 + (12 * p + k)) = M 78 313 ∧ (∀ i, i ≠ 12 * p + k → i ≠ 96 + (12 * p + k) → m 78 i = M 78 i) ∧ ((s0 = 0 ∧ v = 0) ∨ (s0 ≠ 0 ∧ r1 = 0 ∧ v = -2) ∨ (s0 ≠ 0 ∧ r1 ≠ 0 ∧ v = 1))) := by
  have hix := ixm (p := p) (k := k) (by omega) (by omega)
  unfold f_X12_triesNow_84
  refine P_qg (fun _ _ => ?_)
  rw [hix.1, d_min, qc_v]
  refine P_qg (fun _ _ => P_m (fun m3 a1 a2 a3 => P_qg (fun _ _ => ?_)))
  rw [hix.2.1, a2 313 (by omega)]
  refine P_m (fun m4 b1 b2 b3 => ?_)
  have e1 : m4 78 (12 * p + k) = qmin 999 (M 78 (12 * p + k) + 1) := by rw [b2 _ (by omega), a1]
  have e3 : ∀ i, i ≠ 12 * p + k → i ≠ 96 + (12 * p + k) → m4 78 i = M 78 i := fun i q1 q2 => by rw [b2 i q2, a2 i q1]
  exact P_if (fun c => P_ret ⟨e1, b1, e3, Or.inl ⟨c, rfl⟩⟩) (fun c => P_if (fun d => P_ret ⟨e1, b1, e3, Or.inr (Or.inl ⟨c, d, rfl⟩)⟩) (fun d => P_ret ⟨e1, b1, e3, Or.inr (Or.inr ⟨c, d, rfl⟩)⟩))
def Lgt (P : Nat → Prop) (p : Nat) (L L1 : Nat → Int32) : Prop := (∀ q, q < 12 → (P q → L1 (12 * p + q) = -2) ∧ (¬ P q → L1 (12 * p + q) = L (12 * p + q))) ∧ ∀ i, i < 96 → (∀ q, q < 12 → i ≠ 12 * p + q) → L1 i = L i
theorem d_27 {n p k : Nat} (hp : p < 8) (hk : k < 12) (s0 : Int32) (M : qM) {old vd : Int32} (hs : (s0 = 0 ∧ old.toInt < vd.toInt) ∨ (s0 = 1 ∧ vd.toInt ≤ old.toInt)) : qP (f_X12_triesNow_27 n (nI p) (nI k) s0 M) (fun v m => (∀ i, i < 96 → m 78 i = if i = 12 * p + k then qmin 999 (M 78 i + 1) else M 78 i) ∧ (∀ i, i < 96 → m 78 (96 + i) = if i = 12 * p + k then M 78 313 else M 78 (96 + i)) ∧ Att old vd (hcv (fun i => M 78 (192 + i)) p (M 83 k) 12) v (12 * p + k) (fun i => M 78 (192 + i)) (fun i => m 78 (192 + i))) := by
  have hix := ixm (p := p) (k := k) (by omega) (by omega)
  unfold f_X12_triesNow_27
  refine P_qc (d_needs hp hk M) ?_
  rintro r1 m2 ⟨hr1, rfl⟩
  unfold f_X12_at
  rw [qc_v]
  have fin : ∀ (M' : qM) (m : qM) (N2 : Nat → Int32), (m 78 (12 * p + k) = qmin 999 (M' 78 (12 * p + k) + 1) ∧ m 78 (96 + (12 * p + k)) = M' 78 313 ∧ (∀ i, i ≠ 12 * p + k → i ≠ 96 + (12 * p + k) → m 78 i = M' 78 i)) → (∀ i, i < 192 ∨ 288 ≤ i → M' 78 i = m2 78 i) → (∀ i, i < 96 → m 78 i = if i = 12 * p + k then qmin 999 (m2 78 i + 1) else m2 78 i) ∧ (∀ i, i < 96 → m 78 (96 + i) = if i = 12 * p + k then m2 78 313 else m2 78 (96 + i)) := by
    rintro M' m N2 ⟨e1, e2, e3⟩ hM
    refine ⟨fun i hi => ?_, fun i hi => ?_⟩
    · by_cases e : i = 12 * p + k
      · rw [if_pos e, e, e1, hM _ (by omega)]
      · rw [if_neg e, e3 i e (by omega), hM _ (by omega)]
    · by_cases e : i = 12 * p + k
      · rw [if_pos e, e, e2, hM _ (by omega)]
      · rw [if_neg e, e3 _ (by omega) (by omega), hM _ (by omega)]
  refine P_if (fun c => ?_) (fun c => ?_)
  · refine P_mono (d_84 hp hk s0 r1 m2) (fun v m h => ?_)
    obtain ⟨e1, e2, e3, e4⟩ := h
    obtain ⟨q1, q2⟩ := fin m2 m (fun _ => 0) ⟨e1, e2, e3⟩ (fun _ _ => rfl)
    refine ⟨q1, q2, Or.inl ⟨?_, ?_, fun i hi => ?_⟩⟩
    · rcases hs with z | z
      · exact z.2
      · rw [z.1] at c; exact absurd c (by decide)
    · rcases e4 with z | z | z
      · exact z.2
      · exact absurd c z.1
      · exact absurd c z.1
    · exact e3 _ (by omega) (by omega)
  · have hvo : vd.toInt ≤ old.toInt := by
      rcases hs with z | z
      · exact absurd z.1 c
      · exact z.2
    refine P_if (fun d => ?_) (fun d => ?_)
    · refine P_mono (d_84 hp hk s0 r1 m2) (fun v m h => ?_)
      obtain ⟨e1, e2, e3, e4⟩ := h
      obtain ⟨q1, q2⟩ := fin m2 m (fun _ => 0) ⟨e1, e2, e3⟩ (fun _ _ => rfl)
      refine ⟨q1, q2, Or.inr (Or.inl ⟨hvo, by rw [← hr1]; exact d, ?_, fun i hi => e3 _ (by omega) (by omega)⟩)⟩
      rcases e4 with z | z | z
      · exact absurd z.1 c
      · exact z.2.2
      · exact absurd d z.2.1
    · refine P_qg (fun _ _ => ?_)
      rw [hix.2.2, d_min, qc_v]
      refine P_qg (fun _ _ => P_m (fun m7 a1 a2 a3 => ?_))
      refine P_mono (d_84 hp hk s0 r1 m7) (fun v m h => ?_)
      obtain ⟨e1, e2, e3, e4⟩ := h
      obtain ⟨q1, q2⟩ := fin m7 m (fun _ => 0) ⟨e1, e2, e3⟩ (fun i hi => a2 i (by omega))
      refine ⟨q1, q2, Or.inr (Or.inr ⟨hvo, by rw [← hr1]; exact d, ?_, fun i hi => ?_⟩)⟩
      · rcases e4 with z | z | z
        · exact absurd z.1 c
        · exact absurd z.2.1 d
        · exact z.2.2
      · show m 78 (192 + i) = if i = 12 * p + k then qmin 999 (m2 78 (192 + i) + 1) else m2 78 (192 + i)
        rw [e3 _ (by omega) (by omega)]
        by_cases e : i = 12 * p + k
        · rw [if_pos e, e]; exact a1
        · rw [if_neg e]; exact a2 _ (by omega)
theorem d_void {n : Nat} (hn : 200000 ≤ n) {p k : Nat} (hp : p < 8) (hk : k < 12) {C : List Int} {K : List Kl} (hK : Kg (cdl C) C.length K) (h240 : C.length ≤ 240) (w : Int32) (hw : 0 ≤ w.toInt ∧ w.toInt ≤ 8) (M : qM) (hG : G M) (hL : LM M C K) : qP (f_X12_voidFor n (nI p) (nI k) w M) (fun v m => v = vdV C K n (M 81) (M 82) (M 78 313) p k w (M 78) (fun i => M 78 (192 + i)) ∧ (∀ c, c ≠ 96 → c ≠ 97 → m c = M c) ∧ G m) := by
  have tp : (nI p).toInt = (p : Int) := nI_toInt (by omega)
  have tk : (nI k).toInt = (k : Int) := nI_toInt (by omega)
  unfold f_X12_voidFor
  refine P_qc (P_and (d_tell hp hk w M) (P_T (t_X12_feels hn (nI p) (nI k) w M hG (by omega) (by omega) hw))) ?_
  rintro _ m1 ⟨⟨hF, e1⟩, _, g1, _⟩
  have l1 : LM m1 C K := LM_cg hL (fun c q1 q2 => e1 c (by omega)) (by rw [e1 77 (by decide)])
  refine P_qc (P_and (d_amt hn hK h240 118 99 1 m1 g1 l1 (by rw [l_118]; decide) (by decide)) (P_T (t_X12_byLaw hn 118 99 1 m1 g1 (by decide) (by decide) (by decide)))) ?_
  rintro r2 m3 ⟨hr2, _, g3, s3⟩
  refine P_ret ⟨?_, fun c q1 q2 => ?_, g3⟩
  · rw [hr2, l_118, amtL_F hF (by decide) hK]
    rfl
  · rw [← e1 c q2]; exact funext (fun s_ => s3 c s_ (out96 q1))
theorem d_att {n : Nat} (hn : 200000 ≤ n) {p k : Nat} (hp : p < 8) (hk : k < 12) {C : List Int} {K : List Kl} (hK : Kg (cdl C) C.length K) (h240 : C.length ≤ 240) (w : Int32) (hw : 0 ≤ w.toInt ∧ w.toInt ≤ 8) (M : qM) (hG : G M) (hL : LM M C K) {b : Int32} (hb : ∀ q, q < 12 → (bitI b q ↔ mA (M 77 6) C K n (M 81) (M 82) (M 78 313) k q)) (hT : ∀ i, i < 96 → 0 ≤ (M 78 i).toInt) : qP (f_X12_triesNow n (nI p) (nI k) w M) (fun v m => ∃ T1 L1 : Nat → Int32, Fgt (mP M C K n p k) p (M 78) T1 ∧ Lgt (mP M C K n p k) p (fun i => M 78 (96 + i)) L1 ∧ (∀ i, i < 96 → m 78 i = if i = 12 * p + k then qmin 999 (T1 i + 1) else T1 i) ∧ (∀ i, i < 96 → m 78 (96 + i) = if i = 12 * p + k then M 78 313 else L1 i) ∧ Att (smB T1 p b 12) (vdV C K n (M 81) (M 82) (M 78 313) p k w T1 (fun i => M 78 (192 + i))) (hcv (fun i => M 78 (192 + i)) p (M 83 k) 12) v (12 * p + k) (fun i => M 78 (192 + i)) (fun i => m 78 (192 + i))) := by
  unfold f_X12_triesNow
  refine P_qc (d_forget hn hp hk hK h240 M hG hL) ?_
  rintro _ m1 ⟨f1, f2, f3, g1, l1⟩
  have eD : m1 78 313 = M 78 313 := f2 313 (fun q hq => by omega)
  have eN : ∀ i, i < 96 → m1 78 (192 + i) = M 78 (192 + i) := fun i hi => f2 _ (fun q hq => by omega)
  have m77 : m1 77 = M 77 := f3 77 (by decide) (by decide) (by decide)
  have m81 : m1 81 = M 81 := f3 81 (by decide) (by decide) (by decide)
  have m82 : m1 82 = M 82 := f3 82 (by decide) (by decide) (by decide)
  have m83 : m1 83 = M 83 := f3 83 (by decide) (by decide) (by decide)
  have hFg : Fgt (mP M C K n p k) p (M 78) (m1 78) := ⟨fun q hq => ⟨fun z => ((f1 q hq).1 z).1, fun z => ((f1 q hq).2 z).1⟩, fun i hi h => f2 i (fun q hq => ⟨h q hq, by omega⟩)⟩
  have hLg : Lgt (mP M C K n p k) p (fun i => M 78 (96 + i)) (fun i => m1 78 (96 + i)) := ⟨fun q hq => ⟨fun z => ((f1 q hq).1 z).2, fun z => ((f1 q hq).2 z).2⟩, fun i hi h => f2 _ (fun q hq => ⟨by omega, by have := h q hq; omega⟩)⟩
  have hT1 : ∀ i, i < 96 → 0 ≤ (m1 78 i).toInt := by
    intro i hi
    by_cases c : ∃ q, q < 12 ∧ i = 12 * p + q
    · obtain ⟨q, hq, rfl⟩ := c
      by_cases z : mP M C K n p k q
      · rw [((f1 q hq).1 z).1]; decide
      · rw [((f1 q hq).2 z).1]; exact hT _ hi
    · rw [f2 i (fun q hq => ⟨fun e => c ⟨q, hq, e⟩, by omega⟩)]; exact hT i hi
  refine P_qc (d_old hn hp hk hK h240 m1 (b := b) (by rw [m77, m81, m82, eD]; exact hb) hT1 g1 l1) ?_
  rintro r2 m3 ⟨hr2, o3, g3⟩
  have l3 : LM m3 C K := LM_cg l1 (fun c q1 q2 => o3 c (by omega) (by omega)) (by rw [o3 77 (by decide) (by decide)])
  refine P_qc (d_void hn hp hk hK h240 w hw m3 g3 l3) ?_
  rintro r4 m5 ⟨hr4, o5, g5⟩
  rw [o3 81 (by decide) (by decide), o3 82 (by decide) (by decide), o3 78 (by decide) (by decide), m81, m82, eD] at hr4
  have hvN : vdV C K n (M 81) (M 82) (M 78 313) p k w (m1 78) (fun i => m1 78 (192 + i)) = vdV C K n (M 81) (M 82) (M 78 313) p k w (m1 78) (fun i => M 78 (192 + i)) := by
    unfold vdV
    simp only [eN (12 * p + k) (show 12 * p + k < 96 by omega)]
  rw [hvN] at hr4
  have m578 : m5 78 = m1 78 := by rw [o5 78 (by decide) (by decide), o3 78 (by decide) (by decide)]
  have m583 : m5 83 = M 83 := by rw [o5 83 (by decide) (by decide), o3 83 (by decide) (by decide), m83]
  have hh : hcv (fun i => m1 78 (192 + i)) p (M 83 k) 12 = hcv (fun i => M 78 (192 + i)) p (M 83 k) 12 := hcv_cg hp (fun i hi => eN i hi) (Nat.le_refl _)
  have done : ∀ (v : Int32) (m : qM), ((∀ i, i < 96 → m 78 i = if i = 12 * p + k then qmin 999 (m5 78 i + 1) else m5 78 i) ∧ (∀ i, i < 96 → m 78 (96 + i) = if i = 12 * p + k then m5 78 313 else m5 78 (96 + i)) ∧ Att r2 r4 (hcv (fun i => m5 78 (192 + i)) p (m5 83 k) 12) v (12 * p + k) (fun i => m5 78 (192 + i)) (fun i => m 78 (192 + i))) → ∃ T1 L1 : Nat → Int32, Fgt (mP M C K n p k) p (M 78) T1 ∧ Lgt (mP M C K n p k) p (fun i => M 78 (96 + i)) L1 ∧ (∀ i, i < 96 → m 78 i = if i = 12 * p + k then qmin 999 (T1 i + 1) else T1 i) ∧ (∀ i, i < 96 → m 78 (96 + i) = if i = 12 * p + k then M 78 313 else L1 i) ∧ Att (smB T1 p b 12) (vdV C K n (M 81) (M 82) (M 78 313) p k w T1 (fun i => M 78 (192 + i))) (hcv (fun i => M 78 (192 + i)) p (M 83 k) 12) v (12 * p + k) (fun i => M 78 (192 + i)) (fun i => m 78 (192 + i)) := by
    rintro v m ⟨q1, q2, q3⟩
    rw [m578] at q1 q2 q3
    rw [m583, hh] at q3
    rw [eD] at q2
    refine ⟨m1 78, fun i => m1 78 (96 + i), hFg, hLg, q1, q2, ?_⟩
    rw [← hr2, ← hr4]
    rcases q3 with ⟨x1, x2, x3⟩ | ⟨x1, x2, x3, x4⟩ | ⟨x1, x2, x3, x4⟩
    · exact Or.inl ⟨x1, x2, fun i hi => by rw [x3 i hi]; exact eN i hi⟩
    · exact Or.inr (Or.inl ⟨x1, x2, x3, fun i hi => by rw [x4 i hi]; exact eN i hi⟩)
    · refine Or.inr (Or.inr ⟨x1, x2, x3, fun i hi => ?_⟩)
      have := x4 i hi
      rw [show (fun i => m1 78 (192 + i)) i = M 78 (192 + i) from eN i hi] at this
      exact this
  refine P_lt rfl rfl (fun z => ?_) (fun z => ?_)
  · exact P_mono (d_27 hp hk 0 m5 (old := r2) (vd := r4) (Or.inl ⟨rfl, z⟩)) done
  · exact P_mono (d_27 hp hk 1 m5 (old := r2) (vd := r4) (Or.inr ⟨rfl, z⟩)) done
