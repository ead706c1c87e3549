theorem q_le0 {s : List (Option qV)} : q_le [] s := trivial
theorem q_leS {v : qV} {r s : List (Option qV)} (h : q_le r s) : q_le (some v :: r) (some v :: s) := ⟨rfl, h⟩
theorem q_leN {w : Option qV} {r s : List (Option qV)} (h : q_le r s) : q_le (none :: r) (w :: s) := h
theorem qr_lt {g : qG} {k : qK} {y : qMY} {pc : Nat} {Z X : List qSh} {L : List (Option qV)} {S : List qV} {M : qM} {v : Int32} {f : Int32 → qR} (h : ∀ x : Int32, qAE g k y Z pc L (.inl x :: S) (X, M) (f x)) : qAE g k y Z pc L (.inl v :: S) (X, M) (ql v f) := h v

theorem qg_in {j : Int32} {n : Nat} {E : qR} (h : ¬ (j < 0 ∨ n ≤ j.toNatClampNeg)) : qg j n E = E := if_neg h

theorem qr_iald0 {g : qG} {k : qK} {d : Nat} {y : qMY} {pc : Nat} {Z X : List qSh} {L : List (Option qV)} {S : List qV} {M : qM} {E : qR} (o : qOk g d y k) {i n c : Nat} {j : Int32} (hsh : X[i]? = some (.inl (0, n))) (hin : ¬ (j < 0 ∨ n ≤ j.toNatClampNeg)) (hc : j.toNatClampNeg = c) (hdg : decode y.2.1 pc = .ok (.iaload, 1)) (h : qAE g k y Z (pc + 1) L (.inl (M i c) :: S) (X, M) E) : qAE g k y Z pc L (.inl j :: .inr (some i) :: S) (X, M) E := by
  subst hc
  have h9 := qr_iald o hsh hdg h
  rwa [qg_in hin] at h9

theorem qr_bald0 {g : qG} {k : qK} {d : Nat} {y : qMY} {pc : Nat} {Z X : List qSh} {L : List (Option qV)} {S : List qV} {M : qM} {E : qR} (o : qOk g d y k) {i n c : Nat} {j : Int32} (hsh : X[i]? = some (.inl (1, n))) (hin : ¬ (j < 0 ∨ n ≤ j.toNatClampNeg)) (hc : j.toNatClampNeg = c) (hdg : decode y.2.1 pc = .ok (.baload, 1)) (h : qAE g k y Z (pc + 1) L (.inl (M i c) :: S) (X, M) E) : qAE g k y Z pc L (.inl j :: .inr (some i) :: S) (X, M) E := by
  subst hc
  have h9 := qr_bald o hsh hdg h
  rwa [qg_in hin] at h9

theorem qr_zald0 {g : qG} {k : qK} {d : Nat} {y : qMY} {pc : Nat} {Z X : List qSh} {L : List (Option qV)} {S : List qV} {M : qM} {E : qR} (o : qOk g d y k) {i n c : Nat} {j : Int32} (hsh : X[i]? = some (.inl (2, n))) (hin : ¬ (j < 0 ∨ n ≤ j.toNatClampNeg)) (hc : j.toNatClampNeg = c) (hdg : decode y.2.1 pc = .ok (.baload, 1)) (h : qAE g k y Z (pc + 1) L (.inl (M i c) :: S) (X, M) E) : qAE g k y Z pc L (.inl j :: .inr (some i) :: S) (X, M) E := by
  subst hc
  have h9 := qr_zald o hsh hdg h
  rwa [qg_in hin] at h9

theorem qr_iast0 {g : qG} {k : qK} {d : Nat} {y : qMY} {pc : Nat} {Z X : List qSh} {L : List (Option qV)} {S : List qV} {M : qM} {E : qR} (o : qOk g d y k) {i n c : Nat} {j x : Int32} (hsh : X[i]? = some (.inl (0, n))) (hin : ¬ (j < 0 ∨ n ≤ j.toNatClampNeg)) (hc : j.toNatClampNeg = c) (hdg : decode y.2.1 pc = .ok (.iastore, 1)) (h : qAE g k y Z (pc + 1) L S (X, mu M i c (x)) E) : qAE g k y Z pc L (.inl x :: .inl j :: .inr (some i) :: S) (X, M) E := by
  subst hc
  have h9 := qr_iast o hsh hdg h
  rwa [qg_in hin] at h9

theorem qr_bast0 {g : qG} {k : qK} {d : Nat} {y : qMY} {pc : Nat} {Z X : List qSh} {L : List (Option qV)} {S : List qV} {M : qM} {E : qR} (o : qOk g d y k) {i n c : Nat} {j x : Int32} (hsh : X[i]? = some (.inl (1, n))) (hin : ¬ (j < 0 ∨ n ≤ j.toNatClampNeg)) (hc : j.toNatClampNeg = c) (hdg : decode y.2.1 pc = .ok (.bastore, 1)) (h : qAE g k y Z (pc + 1) L S (X, mu M i c (vp_nar .byte x)) E) : qAE g k y Z pc L (.inl x :: .inl j :: .inr (some i) :: S) (X, M) E := by
  subst hc
  have h9 := qr_bast o hsh hdg h
  rwa [qg_in hin] at h9

theorem qr_zast0 {g : qG} {k : qK} {d : Nat} {y : qMY} {pc : Nat} {Z X : List qSh} {L : List (Option qV)} {S : List qV} {M : qM} {E : qR} (o : qOk g d y k) {i n c : Nat} {j x : Int32} (hsh : X[i]? = some (.inl (2, n))) (hin : ¬ (j < 0 ∨ n ≤ j.toNatClampNeg)) (hc : j.toNatClampNeg = c) (hdg : decode y.2.1 pc = .ok (.bastore, 1)) (h : qAE g k y Z (pc + 1) L S (X, mu M i c (vp_nar .boolean x)) E) : qAE g k y Z pc L (.inl x :: .inl j :: .inr (some i) :: S) (X, M) E := by
  subst hc
  have h9 := qr_zast o hsh hdg h
  rwa [qg_in hin] at h9

theorem qs_iincl2 {g : qG} {k : qK} {d : Nat} {y : qMY} {pc : Nat} {Z X : List qSh} {L : List (Option qV)} {S : List qV} {M : qM} {f : Int32 → qR} (o : qOk g d y k) {L' : Int32 → List (Option qV)} {i : Nat} {n : Int} {v c : Int32} (hdg : decode y.2.1 pc = .ok (.iinc i n, 3)) (hv : L[i]? = some (some (.inl v))) (hc : Int32.ofInt n = c) (hn : i < y.2.2.1) (hL : ∀ x : Int32, L.set i (some (.inl x)) = L' x) (h : ∀ x : Int32, qAE g k y Z (pc + 3) (L' x) S (X, M) (f x)) : qAE g k y Z pc L S (X, M) (ql (v + c) f) := by
  subst hc
  exact qr_iinc o hdg hv rfl hn (by rw [hL]; exact h _)
def q_tb (g : qG) (k : qK) (y : qMY) (Z : List qSh) (pc : Nat) (L : List (Option qV)) (S : List qV) (st : qSt) (offs : Array Int) : Int → Nat → List (Int32 × qR) → Prop
  | _, _, [] => True
  | lo, n, q :: r => q.1.toInt = lo ∧ (∃ (off : Int) (t : Nat), offs[n]? = some off ∧ (pc : Int) + off = (t : Int) ∧ qAE g k y Z t L S st q.2) ∧ q_tb g k y Z pc L S st offs (lo + 1) (n + 1) r
theorem q_tbn {g : qG} {k : qK} {y : qMY} {Z : List qSh} {pc : Nat} {L : List (Option qV)} {S : List qV} {st : qSt} {offs : Array Int} {lo : Int} {n : Nat} : q_tb g k y Z pc L S st offs lo n [] := trivial
theorem q_tbc {g : qG} {k : qK} {y : qMY} {Z : List qSh} {pc : Nat} {L : List (Option qV)} {S : List qV} {st : qSt} {offs : Array Int} {lo : Int} {n : Nat} {cst : Int32} {E : qR} {r : List (Int32 × qR)} (off : Int) (t : Nat) (h1 : cst.toInt = lo) (h2 : offs[n]? = some off) (h3 : (pc : Int) + off = (t : Int)) (h4 : qAE g k y Z t L S st E) (h5 : q_tb g k y Z pc L S st offs (lo + 1) (n + 1) r) : q_tb g k y Z pc L S st offs lo n ((cst, E) :: r) := ⟨h1, ⟨off, t, h2, h3, h4⟩, h5⟩
theorem q_tb_at {g : qG} {k : qK} {y : qMY} {Z : List qSh} {pc : Nat} {L : List (Option qV)} {S : List qV} {st : qSt} {offs : Array Int} : ∀ (cs : List (Int32 × qR)) (lo : Int) (n : Nat), q_tb g k y Z pc L S st offs lo n cs → ∀ (i : Nat) (q : Int32 × qR), cs[i]? = some q → q.1.toInt = lo + i ∧ ∃ (off : Int) (t : Nat), offs[n + i]? = some off ∧ (pc : Int) + off = (t : Int) ∧ qAE g k y Z t L S st q.2
  | [], _, _, _, i, q, h => by simp at h
  | a :: r, lo, n, hb, 0, q, h => by
    simp at h
    subst h
    exact ⟨by simpa using hb.1, hb.2.1⟩
  | a :: r, lo, n, hb, i + 1, q, h => by
    obtain ⟨h1, h2⟩ := q_tb_at r (lo + 1) (n + 1) hb.2.2 i q (by simpa using h)
    refine ⟨by rw [h1]; omega, ?_⟩
    rw [show n + (i + 1) = n + 1 + i by omega]
    exact h2
theorem qr_tablep {g : qG} {k : qK} {d : Nat} {y : qMY} {pc : Nat} {Z X : List qSh} {L : List (Option qV)} {S : List qV} {M : qM} (o : qOk g d y k) {x : Int32} {dflt lo hi : Int} {offs : Array Int} {len tgt : Nat} {cs : List (Int32 × qR)} {D : qR} (hdg : decode y.2.1 pc = .ok (.tableswitch dflt lo hi offs, len)) (hlen : lo + cs.length = hi + 1) (ht : (pc : Int) + dflt = (tgt : Int)) (hD : qAE g k y Z tgt L S (X, M) D) (hB : q_tb g k y Z pc L S (X, M) offs lo 0 cs) : qAE g k y Z pc L (.inl x :: S) (X, M) (qsw x cs D) := by
  refine qr_table o hdg (fun n q h => (q_tb_at cs lo 0 hB n q h).1) hlen ht hD (fun n q h => ?_)
  have := (q_tb_at cs lo 0 hB n q h).2
  rwa [Nat.zero_add] at this
def q_lb (g : qG) (k : qK) (y : qMY) (Z : List qSh) (pc : Nat) (L : List (Option qV)) (S : List qV) (st : qSt) (ps : List (Int × Int)) : Nat → List (Int32 × qR) → Prop
  | _, [] => True
  | n, q :: r => (∃ (t : Nat), (pc : Int) + (ps[n]?.getD (0, 0)).2 = (t : Int) ∧ qAE g k y Z t L S st q.2) ∧ q_lb g k y Z pc L S st ps (n + 1) r
theorem q_lbn {g : qG} {k : qK} {y : qMY} {Z : List qSh} {pc : Nat} {L : List (Option qV)} {S : List qV} {st : qSt} {ps : List (Int × Int)} {n : Nat} : q_lb g k y Z pc L S st ps n [] := trivial
theorem q_lbc {g : qG} {k : qK} {y : qMY} {Z : List qSh} {pc : Nat} {L : List (Option qV)} {S : List qV} {st : qSt} {ps : List (Int × Int)} {n : Nat} {cst : Int32} {E : qR} {r : List (Int32 × qR)} (t : Nat) (h3 : (pc : Int) + (ps[n]?.getD (0, 0)).2 = (t : Int)) (h4 : qAE g k y Z t L S st E) (h5 : q_lb g k y Z pc L S st ps (n + 1) r) : q_lb g k y Z pc L S st ps n ((cst, E) :: r) := ⟨⟨t, h3, h4⟩, h5⟩
theorem q_lb_at {g : qG} {k : qK} {y : qMY} {Z : List qSh} {pc : Nat} {L : List (Option qV)} {S : List qV} {st : qSt} {ps : List (Int × Int)} : ∀ (cs : List (Int32 × qR)) (n : Nat), q_lb g k y Z pc L S st ps n cs → ∀ (i : Nat) (q : Int32 × qR), cs[i]? = some q → ∃ (t : Nat), (pc : Int) + (ps[n + i]?.getD (0, 0)).2 = (t : Int) ∧ qAE g k y Z t L S st q.2
  | [], _, _, i, q, h => by simp at h
  | a :: r, n, hb, 0, q, h => by
    simp at h
    subst h
    exact hb.1
  | a :: r, n, hb, i + 1, q, h => by
    have h2 := q_lb_at r (n + 1) hb.2 i q (by simpa using h)
    rw [show n + (i + 1) = n + 1 + i by omega]
    exact h2
theorem qr_lookupp {g : qG} {k : qK} {d : Nat} {y : qMY} {pc : Nat} {Z X : List qSh} {L : List (Option qV)} {S : List qV} {M : qM} (o : qOk g d y k) {x : Int32} {dflt : Int} {ps : Array (Int × Int)} {len tgt : Nat} {cs : List (Int32 × qR)} {D : qR} (hdg : decode y.2.1 pc = .ok (.lookupswitch dflt ps, len)) (hp : (ps.toList.zip (ps.toList.drop 1)).all (fun (a, next) => a.1 < next.1) = true) (hcs : cs.map (fun q => q.1.toInt) = ps.toList.map (fun q => q.1)) (ht : (pc : Int) + dflt = (tgt : Int)) (hD : qAE g k y Z tgt L S (X, M) D) (hB : q_lb g k y Z pc L S (X, M) ps.toList 0 cs) : qAE g k y Z pc L (.inl x :: S) (X, M) (qsw x cs D) := by
  refine qr_lookup o hdg hp hcs ht hD (fun n q h => ?_)
  have := q_lb_at cs 0 hB n q h
  rwa [Nat.zero_add] at this
def qcp (sp dp n : Int32) (n0 n1 : Nat) (E : qR) : qR := if sp < 0 ∨ dp < 0 ∨ n < 0 ∨ n0 < sp.toNatClampNeg + n.toNatClampNeg ∨ n1 < dp.toNatClampNeg + n.toNatClampNeg then none else E
theorem qr_copyp {g : qG} {k : qK} {d : Nat} {y : qMY} {pc : Nat} {Z X : List qSh} {L : List (Option qV)} {S : List qV} {M : qM} {E : qR} (o : qOk g d y k) {i j n0 n1 idx : Nat} {sp dp n : Int32} (h0 : X[i]? = some (.inl (0, n0))) (h1 : X[j]? = some (.inl (0, n1))) (hlk : Cond.methodLink y.1.cls idx arraycopyName ∈ q_tbl) (hd : 1 ≤ d) (hw : S.length + (nativeFrameWords "java/lang/System" "arraycopy" 5 + 11) ≤ 64) (hdg : decode y.2.1 pc = .ok (.invokestatic idx, 3))
    (h : qAE g k y Z (pc + 3) L S (X, mr M j (va_cpy (M i) (M j) sp.toNatClampNeg dp.toNatClampNeg n.toNatClampNeg)) E) :
    qAE g k y Z pc L (.inl n :: .inl dp :: .inr (some j) :: .inl sp :: .inr (some i) :: S) (X, M) (qcp sp dp n n0 n1 E) := qr_copy o h0 h1 hlk ac_nat ac_stat ac_ini hd hw hdg h
