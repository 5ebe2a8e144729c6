/-! ===== the code is what the bytes decode to, its operands are resolved rightly ===== -/
def zi_tswb (pc : Nat) : Int → List Int → List (Int32 × Nat) → Bool
  | _, [], [] => true
  | lo, off :: offs, e :: z => decide (e.1.toInt = lo) && (decide ((pc : Int) + off = e.2) && zi_tswb pc (lo + 1) offs z)
  | _, _, _ => false
theorem zi_tswb_ok {pc : Nat} : ∀ {offs : List Int} {z : List (Int32 × Nat)} {lo : Int}, zi_tswb pc lo offs z = true → zi_tsw pc lo offs z
  | [], [], lo, _ => ⟨rfl, fun k hk => absurd hk (Nat.not_lt_zero k)⟩
  | [], _ :: _, lo, h => by cases h
  | _ :: _, [], lo, h => by cases h
  | off :: offs, e :: z, lo, h => by
    simp only [zi_tswb, Bool.and_eq_true, decide_eq_true_eq] at h
    obtain ⟨h1, h2, h3⟩ := h
    obtain ⟨g1, g2⟩ := zi_tswb_ok h3
    refine ⟨by simp [g1], fun k hk => ?_⟩
    cases k with
    | zero => exact ⟨e, off, rfl, rfl, by simpa using h1, h2⟩
    | succ k =>
      obtain ⟨e', off', a, b, c, d⟩ := g2 k (by simpa using hk)
      exact ⟨e', off', by simpa using a, by simpa using b, by rw [c]; push_cast; omega, d⟩
def zi_lswb (pc : Nat) : List (Int × Int) → List (Int32 × Nat) → Bool
  | [], [] => true
  | a :: as, b :: bs => decide (b.1.toInt = a.1) && (decide ((pc : Int) + a.2 = b.2) && zi_lswb pc as bs)
  | _, _ => false
theorem zi_lswb_ok {pc : Nat} : ∀ {ps : List (Int × Int)} {z : List (Int32 × Nat)}, zi_lswb pc ps z = true → zi_lsw pc ps z
  | [], [], _ => trivial
  | [], _ :: _, h => by cases h
  | _ :: _, [], h => by cases h
  | a :: as, b :: bs, h => by
    simp only [zi_lswb, Bool.and_eq_true, decide_eq_true_eq] at h
    exact ⟨h.1, h.2.1, zi_lswb_ok h.2.2⟩
def zi_q4 (l : List (Nat × Nat × Nat × Nat)) (a b c d : Nat) : Bool := l.any fun q => Nat.beq q.1 a && (Nat.beq q.2.1 b && (Nat.beq q.2.2.1 c && Nat.beq q.2.2.2 d))
def zi_q3 (l : List (Nat × Nat × Nat)) (a b c : Nat) : Bool := l.any fun q => Nat.beq q.1 a && (Nat.beq q.2.1 b && Nat.beq q.2.2 c)
def zi_q2 (l : List (Nat × Nat)) (a b : Nat) : Bool := l.any fun q => Nat.beq q.1 a && Nat.beq q.2 b
theorem zi_q4_ok {l : List (Nat × Nat × Nat × Nat)} {a b c d : Nat} (h : zi_q4 l a b c d = true) : (a, b, c, d) ∈ l := by
  obtain ⟨q, hq, h⟩ := List.any_eq_true.mp h
  simp only [Bool.and_eq_true] at h
  obtain ⟨q1, q2, q3, q4⟩ := q
  have e1 : q1 = a := zi_beq h.1
  have e2 : q2 = b := zi_beq h.2.1
  have e3 : q3 = c := zi_beq h.2.2.1
  have e4 : q4 = d := zi_beq h.2.2.2
  subst e1; subst e2; subst e3; subst e4
  exact hq
theorem zi_q3_ok {l : List (Nat × Nat × Nat)} {a b c : Nat} (h : zi_q3 l a b c = true) : (a, b, c) ∈ l := by
  obtain ⟨q, hq, h⟩ := List.any_eq_true.mp h
  simp only [Bool.and_eq_true] at h
  obtain ⟨q1, q2, q3⟩ := q
  have e1 : q1 = a := zi_beq h.1
  have e2 : q2 = b := zi_beq h.2.1
  have e3 : q3 = c := zi_beq h.2.2
  subst e1; subst e2; subst e3
  exact hq
theorem zi_q2_ok {l : List (Nat × Nat)} {a b : Nat} (h : zi_q2 l a b = true) : (a, b) ∈ l := by
  obtain ⟨q, hq, h⟩ := List.any_eq_true.mp h
  simp only [Bool.and_eq_true] at h
  obtain ⟨q1, q2⟩ := q
  have e1 : q1 = a := zi_beq h.1
  have e2 : q2 = b := zi_beq h.2
  subst e1; subst e2
  exact hq
def zi_gCb (o ix x y : Nat) : Bool := match y with
  | 0 => zi_q3 zi_KT o ix x
  | _ => Nat.beq x (2 * (x / 2)) && zi_q3 zi_TT o ix (x / 2)
theorem zi_gCb_ok {o ix x y : Nat} (h : zi_gCb o ix x y = true) : zi_gC o ix x y := by
  unfold zi_gCb at h
  unfold zi_gC
  split at h
  · exact zi_KT_ok _ (zi_q3_ok h)
  · rw [Bool.and_eq_true] at h
    split
    · contradiction
    · exact ⟨x / 2, zi_beq h.1, zi_q3_ok h.2⟩
def zi_goodb (ini : Bool) (o pc : Nat) (q : zi_I) : Bool := match q.1 with
  | .ldc ix => zi_gCb o ix q.2.2.1 q.2.2.2.1
  | .ldc_w ix => zi_gCb o ix q.2.2.1 q.2.2.2.1
  | .getstatic ix => Nat.beq q.2.2.1 1 && zi_q2 zi_GT o ix
  | .ldc2_w ix => zi_q3 zi_LT o ix q.2.2.1
  | .goto off => decide ((pc : Int) + off = q.2.2.1)
  | .ifCond _ off => decide ((pc : Int) + off = q.2.2.1)
  | .if_icmp _ off => decide ((pc : Int) + off = q.2.2.1)
  | .tableswitch d lo hi offs => decide ((pc : Int) + d = q.2.2.1) && (decide (hi = lo + offs.size - 1) && zi_tswb pc lo offs.toList q.2.2.2.2)
  | .lookupswitch d ps => decide ((pc : Int) + d = q.2.2.1) && ((ps.toList.zip (ps.toList.drop 1)).all (fun (a, next) => a.1 < next.1) && zi_lswb pc ps.toList q.2.2.2.2)
  | .getfield ix => zi_q4 zi_FT o ix q.2.2.1 q.2.2.2.1
  | .putfield ix => zi_q4 zi_PN o ix q.2.2.1 q.2.2.2.1 || (ini && zi_q4 zi_PF o ix q.2.2.1 q.2.2.2.1)
  | .newarray .int => true
  | .newarray .long => true
  | .newarray .boolean => true
  | .newarray _ => false
  | .anewarray ix => zi_q2 zi_AT o ix
  | .new ix => zi_q3 zi_NT o ix q.2.2.1
  | .invokevirtual ix => zi_q4 zi_VT o ix q.2.2.1 q.2.2.2.1
  | .invokespecial ix => match q.2.2.1 with
    | 9000 => zi_q2 zi_OT o ix
    | n => zi_q4 zi_IT o ix n q.2.2.2.1 && !(Nat.beq n 9000)
  | .invokestatic ix => match q.2.2.1 with
    | 9001 => zi_q2 zi_T1 o ix
    | 9002 => zi_q2 zi_T2 o ix
    | 9003 => zi_q2 zi_T3 o ix
    | n => zi_q4 zi_ST o ix n q.2.2.2.1 && (!(Nat.beq n 9001) && (!(Nat.beq n 9002) && !(Nat.beq n 9003)))
  | _ => true
theorem zi_nbeq {a b : Nat} (h : Nat.beq a b = false) : ¬ a = b := fun e => by
  subst e
  rw [Nat.beq_refl] at h
  cases h
theorem zi_goodb_ok {ini : Bool} {nm : String} {o pc : Nat} {q : zi_I} (hi : ini = true → nm = "<init>") (h : zi_goodb ini o pc q = true) : zi_good zi_M nm o pc q := by
  obtain ⟨i, len, x, y, z⟩ := q
  cases i with
  | ldc ix => exact zi_gCb_ok h
  | ldc_w ix => exact zi_gCb_ok h
  | getstatic ix =>
    simp only [zi_goodb, Bool.and_eq_true] at h
    exact ⟨zi_beq h.1, zi_GT_ok _ (zi_q2_ok h.2)⟩
  | ldc2_w ix => exact zi_LT_ok _ (zi_q3_ok h)
  | goto off =>
    have h : (pc : Int) + off = x := of_decide_eq_true h
    exact h
  | ifCond k off =>
    have h : (pc : Int) + off = x := of_decide_eq_true h
    exact h
  | if_icmp k off =>
    have h : (pc : Int) + off = x := of_decide_eq_true h
    exact h
  | tableswitch d lo hi offs =>
    simp only [zi_goodb, Bool.and_eq_true, decide_eq_true_eq] at h
    exact ⟨h.1, h.2.1, zi_tswb_ok h.2.2⟩
  | lookupswitch d ps =>
    simp only [zi_goodb, Bool.and_eq_true, decide_eq_true_eq] at h
    exact ⟨h.1, h.2.1, zi_lswb_ok h.2.2⟩
  | getfield ix => exact zi_FT_ok _ (zi_q4_ok h)
  | putfield ix =>
    simp only [zi_goodb, Bool.or_eq_true, Bool.and_eq_true] at h
    rcases h with h | ⟨h1, h⟩
    · exact zi_PN_ok _ (zi_q4_ok h) nm
    · rw [hi h1]
      exact zi_PF_ok _ (zi_q4_ok h)
  | newarray t =>
    cases t with
    | int => exact zi_AR_int
    | long => exact zi_AR_long
    | boolean => exact zi_AR_boolean
    | _ => cases h
  | anewarray ix => exact zi_AT_ok _ (zi_q2_ok h)
  | new ix => exact zi_NT_ok _ (zi_q3_ok h)
  | invokevirtual ix => exact zi_VT_ok _ (zi_q4_ok h)
  | invokespecial ix =>
    simp only [zi_goodb] at h
    split at h
    · exact zi_OT_ok _ (zi_q2_ok h)
    · simp only [Bool.and_eq_true, Bool.not_eq_true'] at h
      simp only [zi_good, if_neg (zi_nbeq h.2)]
      exact zi_IT_ok _ (zi_q4_ok h.1)
  | invokestatic ix =>
    simp only [zi_goodb] at h
    split at h
    · exact zi_T1_ok _ (zi_q2_ok h)
    · exact zi_T2_ok _ (zi_q2_ok h)
    · exact zi_T3_ok _ (zi_q2_ok h)
    · simp only [Bool.and_eq_true, Bool.not_eq_true'] at h
      simp only [zi_good, if_neg (zi_nbeq h.2.1), if_neg (zi_nbeq h.2.2.1), if_neg (zi_nbeq h.2.2.2)]
      exact zi_ST_ok _ (zi_q4_ok h.1)
  | _ => trivial
def zi_chk (b : ByteArray) (ini : Bool) (o : Nat) : Nat → List (Option zi_I) → Bool
  | _, [] => true
  | pc, none :: r => zi_chk b ini o (pc + 1) r
  | pc, some q :: r => (decide (decode b pc = .ok (q.1, q.2.1)) && (Nat.beq q.2.1 (zi_ln q.1 q.2.1) && zi_goodb ini o pc q)) && zi_chk b ini o (pc + 1) r
theorem zi_chk_ok {b : ByteArray} {ini : Bool} {nm : String} {o : Nat} (hi : ini = true → nm = "<init>") : ∀ {l : List (Option zi_I)} {s : Nat}, zi_chk b ini o s l = true → ∀ k q, l[k]? = some (some q) → decode b (s + k) = .ok (q.1, q.2.1) ∧ q.2.1 = zi_ln q.1 q.2.1 ∧ zi_good zi_M nm o (s + k) q
  | [], s, _, k, q, hk => by simp at hk
  | none :: r, s, h, k, q, hk => by
    cases k with
    | zero => cases hk
    | succ k =>
      have := zi_chk_ok hi (l := r) (s := s + 1) h k q (by simpa using hk)
      rwa [show s + 1 + k = s + (k + 1) by omega] at this
  | some q0 :: r, s, h, k, q, hk => by
    simp only [zi_chk, Bool.and_eq_true, decide_eq_true_eq] at h
    cases k with
    | zero =>
      have e : q0 = q := by simpa using hk
      subst e
      exact ⟨h.1.1, zi_beq h.1.2.1, zi_goodb_ok hi h.1.2.2⟩
    | succ k =>
      have := zi_chk_ok hi (l := r) (s := s + 1) h.2 k q (by simpa using hk)
      rwa [show s + 1 + k = s + (k + 1) by omega] at this
/-- what zi_Prog asks of a method -/
def zi_pg (e : Nat × zi_MI) : Prop := plainName e.2.1.cls = true ∧ e.2.1.cls = zi_cn (e.1 / 200) ∧ ∀ (pc : Nat) (q : zi_I), zi_P e.1 pc = some q → decode e.2.2.1 pc = .ok (q.1, q.2.1) ∧ q.2.1 = zi_ln q.1 q.2.1 ∧ zi_good zi_M e.2.1.name (e.1 / 200) pc q
theorem zi_pg_of {x : Nat} {d : zi_MI} {ini : Bool} {l : List (Option zi_I)} (hm : zi_mf x d) (hl : zi_kod x = l) (hi : ini = true → d.1.name = "<init>") (h : zi_chk d.2.1 ini (x / 200) 0 l = true) : zi_pg (x, d) := by
  refine ⟨hm.2.2.2.2.2.2, hm.2.1, fun pc q hq => ?_⟩
  have h1 : l[pc]? = some (some q) := by
    rw [← hl]
    have hq' : ((zi_kod x)[pc]?).join = some q := hq
    cases hc : (zi_kod x)[pc]? with
    | none => rw [hc] at hq'; cases hq'
    | some w => rw [hc] at hq'; exact congrArg some hq'
  have := zi_chk_ok hi h pc q h1
  rwa [Nat.zero_add] at this
