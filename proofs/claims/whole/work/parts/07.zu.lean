/-! ===== the steps that touch the heap ===== -/
theorem zi_blt {a b : Nat} (h : Nat.blt a b = true) : a < b := Nat.le_of_ble_eq_true h
theorem zi_or {a n : Nat} (h : (Nat.blt a n || Nat.ble 1000000 a) = true) : a < n ∨ 1000000 ≤ a := by
  rw [Bool.or_eq_true] at h
  exact h.imp zi_blt Nat.le_of_ble_eq_true
theorem zi_beq {a b : Nat} (h : Nat.beq a b = true) : a = b := Nat.eq_of_beq_eq_true h
theorem zi_getf_inv {pc pc' x y : Nat} {L L' : zi_L} {st st' : List Value} {S S' : zi_S} (h : zi_getf pc L st S x y = some (.inl (pc', L', st', S'))) : ∃ (a : Nat) (r fs : List Value) (v : Value), st = .ref a :: r ∧ S.1 a = .inr (x, fs) ∧ (a < S.2.1 ∨ 1000000 ≤ a) ∧ fs[y]? = some v ∧ pc' = pc + 3 ∧ L' = L ∧ st' = v :: r ∧ S' = S := by
  unfold zi_getf at h
  split at h
  · rename_i a r
    split at h
    · rename_i ci fs hc
      obtain ⟨h1, h2⟩ := zi_cond_inv h
      rw [Bool.and_eq_true] at h1
      have hx := zi_beq h1.1
      subst hx
      split at h2
      · rename_i v hv
        exact ⟨a, r, fs, v, rfl, hc, zi_or h1.2, hv, zi_nx_inv h2⟩
      · cases h2
    · cases h
  · cases h
theorem zi_putf_inv {pc pc' x y : Nat} {L L' : zi_L} {st st' : List Value} {S S' : zi_S} (h : zi_putf pc L st S x y = some (.inl (pc', L', st', S'))) : ∃ a fs v, st = v :: .ref a :: st' ∧ S.1 a = .inr (x, fs) ∧ a < S.2.1 ∧ y < fs.length ∧ zi_fv (zi_ft x y) v = true ∧ pc' = pc + 3 ∧ L' = L ∧ S' = (zi_put S.1 a (.inr (x, fs.set y v)), S.2) := by
  unfold zi_putf at h
  split at h
  · rename_i v a r
    split at h
    · rename_i ci fs hc
      obtain ⟨h1, h2⟩ := zi_cond_inv h
      simp only [Bool.and_eq_true] at h1
      have hx := zi_beq h1.1
      subst hx
      obtain ⟨rfl, rfl, rfl, rfl⟩ := zi_nx_inv h2
      exact ⟨a, fs, v, rfl, hc, zi_blt h1.2.1, zi_blt h1.2.2.1, h1.2.2.2, rfl, rfl, rfl⟩
    · cases h
  · cases h
theorem zi_ald_inv {pc pc' t : Nat} {L L' : zi_L} {st st' : List Value} {S S' : zi_S} (h : zi_ald pc L st S t = some (.inl (pc', L', st', S'))) : ∃ i a r n f, st = .int i :: .ref a :: r ∧ S.1 a = .inl (t, n, .inl f) ∧ a < S.2.1 ∧ vp_in i n ∧ pc' = pc + 1 ∧ L' = L ∧ st' = .int (f i.toNatClampNeg) :: r ∧ S' = S := by
  unfold zi_ald at h
  split at h
  · rename_i i a r
    split at h
    · rename_i t' n f hc
      obtain ⟨h1, h2⟩ := zi_cond_inv h
      simp only [Bool.and_eq_true] at h1
      have hx := zi_beq h1.1
      subst hx
      exact ⟨i, a, r, n, f, rfl, hc, zi_blt h1.2.1, zi_in_vp h1.2.2, zi_nx_inv h2⟩
    · cases h
  · cases h
theorem zi_bald_inv {pc pc' : Nat} {L L' : zi_L} {st st' : List Value} {S S' : zi_S} (h : zi_bald pc L st S = some (.inl (pc', L', st', S'))) : ∃ (i : Int32) (a : Nat) (r : List Value) (t n : Nat) (f : Nat → Int32), st = .int i :: .ref a :: r ∧ S.1 a = .inl (t, n, .inl f) ∧ ((t = 2 ∧ a < S.2.1) ∨ (t = 4 ∧ 1000000 ≤ a)) ∧ vp_in i n ∧ pc' = pc + 1 ∧ L' = L ∧ st' = .int (f i.toNatClampNeg) :: r ∧ S' = S := by
  unfold zi_bald at h
  split at h
  · rename_i i a r
    split at h
    · rename_i t' n f hc
      obtain ⟨h1, h2⟩ := zi_cond_inv h
      simp only [Bool.or_eq_true, Bool.and_eq_true] at h1
      exact ⟨i, a, r, t', n, f, rfl, hc, h1.1.imp (fun h => ⟨zi_beq h.1, zi_blt h.2⟩) (fun h => ⟨zi_beq h.1, Nat.le_of_ble_eq_true h.2⟩), zi_in_vp h1.2, zi_nx_inv h2⟩
    · cases h
  · cases h
/-- the texts' cells -/
theorem zi_ro_2 (m : Nat) : zi_ro (1000000 + m) = zi_ro2 1000000 m := by
  unfold zi_ro
  exact congrArg (zi_ro2 1000000) (Nat.add_sub_cancel_left _ _)
theorem zi_ro2_obj {b m ci : Nat} {fs : List Value} (h : zi_ro2 b m = .inr (ci, fs)) : ∃ j, j < 6 ∧ m = 2 * j ∧ ci = 15 ∧ fs = [.ref (b + 2 * j + 1), .int 0] := by
  unfold zi_ro2 at h
  split at h
  · rename_i l hl
    have hj : m / 2 < 6 := (List.getElem?_eq_some_iff.mp hl).1
    cases hb : Nat.beq (m % 2) 0 with
    | false => rw [hb] at h; cases h
    | true =>
      rw [hb] at h
      have e := zi_beq hb
      obtain ⟨e1, e2⟩ := Prod.mk.inj (Sum.inr.inj h)
      have e3 : m = 2 * (m / 2) := by omega
      exact ⟨m / 2, hj, e3, e1.symm, by rw [← e2, ← e3]⟩
  · cases h
theorem zi_ro2_arr {b m n : Nat} {f : Nat → Int32} (h : zi_ro2 b m = .inl (4, n, .inl f)) : ∃ j, j < 6 ∧ m = 2 * j + 1 ∧ n = zi_len.getD j 0 ∧ f = fun i => (zi_txt.getD j []).getD i 0 := by
  unfold zi_ro2 at h
  split at h
  · rename_i l hl
    have hj : m / 2 < 6 := (List.getElem?_eq_some_iff.mp hl).1
    have hl2 : zi_txt.getD (m / 2) [] = l := by simp [List.getD, hl]
    cases hb : Nat.beq (m % 2) 0 with
    | true => rw [hb] at h; cases h
    | false =>
      rw [hb] at h
      have e : ¬ m % 2 = 0 := fun e => by rw [e] at hb; cases hb
      obtain ⟨e1, e2⟩ := Prod.mk.inj (Sum.inl.inj h)
      obtain ⟨e3, e4⟩ := Prod.mk.inj e2
      have e5 := Sum.inl.inj e4
      have this : ∀ j, j < 6 → zi_len.getD j 0 = (zi_txt.getD j []).length := by decide
      exact ⟨m / 2, hj, by omega, by rw [this _ hj, hl2]; exact e3.symm, by rw [hl2]; exact e5.symm⟩
  · obtain ⟨e1, e2⟩ := Prod.mk.inj (Sum.inl.inj h)
    cases e1
theorem zi_ro_obj {k ci : Nat} {fs : List Value} (hk : 1000000 ≤ k) (h : zi_ro k = .inr (ci, fs)) : ∃ j, j < 6 ∧ k = 1000000 + 2 * j ∧ ci = 15 ∧ fs = [.ref (1000001 + 2 * j), .int 0] := by
  obtain ⟨m, rfl⟩ : ∃ m, k = 1000000 + m := ⟨k - 1000000, by omega⟩
  rw [zi_ro_2] at h
  obtain ⟨j, h1, h2, h3, h4⟩ := zi_ro2_obj h
  refine ⟨j, h1, by omega, h3, ?_⟩
  rw [h4]
  have e : 1000000 + 2 * j + 1 = 1000001 + 2 * j := by omega
  rw [e]
theorem zi_ro_arr {k t n : Nat} {f : Nat → Int32} (hk : 1000000 ≤ k) (ht : t = 4) (h : zi_ro k = .inl (t, n, .inl f)) : ∃ j, j < 6 ∧ k = 1000001 + 2 * j ∧ n = zi_len.getD j 0 ∧ f = fun i => (zi_txt.getD j []).getD i 0 := by
  subst ht
  obtain ⟨m, rfl⟩ : ∃ m, k = 1000000 + m := ⟨k - 1000000, by omega⟩
  rw [zi_ro_2] at h
  obtain ⟨j, h1, h2, h3, h4⟩ := zi_ro2_arr h
  exact ⟨j, h1, by omega, h3, h4⟩
theorem zi_lald_inv {pc pc' : Nat} {L L' : zi_L} {st st' : List Value} {S S' : zi_S} (h : zi_lald pc L st S = some (.inl (pc', L', st', S'))) : ∃ i a r n f, st = .int i :: .ref a :: r ∧ S.1 a = .inl (1, n, .inr (.inl f)) ∧ a < S.2.1 ∧ vp_in i n ∧ pc' = pc + 1 ∧ L' = L ∧ st' = .long (f i.toNatClampNeg) :: r ∧ S' = S := by
  unfold zi_lald at h
  split at h
  · rename_i i a r
    split at h
    · rename_i t' n f hc
      obtain ⟨h1, h2⟩ := zi_cond_inv h
      simp only [Bool.and_eq_true] at h1
      have hx := zi_beq h1.1
      subst hx
      exact ⟨i, a, r, n, f, rfl, hc, zi_blt h1.2.1, zi_in_vp h1.2.2, zi_nx_inv h2⟩
    · cases h
  · cases h
theorem zi_aald_inv {pc pc' : Nat} {L L' : zi_L} {st st' : List Value} {S S' : zi_S} (h : zi_aald pc L st S = some (.inl (pc', L', st', S'))) : ∃ i a r n f, st = .int i :: .ref a :: r ∧ S.1 a = .inl (3, n, .inr (.inr (.inr (.inr f)))) ∧ a < S.2.1 ∧ vp_in i n ∧ pc' = pc + 1 ∧ L' = L ∧ st' = va_rf (f i.toNatClampNeg) :: r ∧ S' = S := by
  unfold zi_aald at h
  split at h
  · rename_i i a r
    split at h
    · rename_i t' n f hc
      obtain ⟨h1, h2⟩ := zi_cond_inv h
      simp only [Bool.and_eq_true] at h1
      have hx := zi_beq h1.1
      subst hx
      exact ⟨i, a, r, n, f, rfl, hc, zi_blt h1.2.1, zi_in_vp h1.2.2, zi_nx_inv h2⟩
    · cases h
  · cases h
theorem zi_ast_inv {pc pc' t : Nat} {g : Int32 → Int32} {L L' : zi_L} {st st' : List Value} {S S' : zi_S} (h : zi_ast pc L st S t g = some (.inl (pc', L', st', S'))) : ∃ v i a n f, st = .int v :: .int i :: .ref a :: st' ∧ S.1 a = .inl (t, n, .inl f) ∧ a < S.2.1 ∧ vp_in i n ∧ pc' = pc + 1 ∧ L' = L ∧ S' = (zi_put S.1 a (.inl (t, n, .inl (upd f i.toNatClampNeg (g v)))), S.2) := by
  unfold zi_ast at h
  split at h
  · rename_i v i a r
    split at h
    · rename_i t' n f hc
      obtain ⟨h1, h2⟩ := zi_cond_inv h
      simp only [Bool.and_eq_true] at h1
      have hx := zi_beq h1.1
      subst hx
      obtain ⟨rfl, rfl, rfl, rfl⟩ := zi_nx_inv h2
      exact ⟨v, i, a, n, f, rfl, hc, zi_blt h1.2.1, zi_in_vp h1.2.2, rfl, rfl, rfl⟩
    · cases h
  · cases h
theorem zi_last_inv {pc pc' : Nat} {L L' : zi_L} {st st' : List Value} {S S' : zi_S} (h : zi_last pc L st S = some (.inl (pc', L', st', S'))) : ∃ v i a n f, st = .long v :: .int i :: .ref a :: st' ∧ S.1 a = .inl (1, n, .inr (.inl f)) ∧ a < S.2.1 ∧ vp_in i n ∧ pc' = pc + 1 ∧ L' = L ∧ S' = (zi_put S.1 a (.inl (1, n, .inr (.inl (vp_updL f i.toNatClampNeg v)))), S.2) := by
  unfold zi_last at h
  split at h
  · rename_i v i a r
    split at h
    · rename_i t' n f hc
      obtain ⟨h1, h2⟩ := zi_cond_inv h
      simp only [Bool.and_eq_true] at h1
      have hx := zi_beq h1.1
      subst hx
      obtain ⟨rfl, rfl, rfl, rfl⟩ := zi_nx_inv h2
      exact ⟨v, i, a, n, f, rfl, hc, zi_blt h1.2.1, zi_in_vp h1.2.2, rfl, rfl, rfl⟩
    · cases h
  · cases h
theorem zi_aast_inv {pc pc' : Nat} {L L' : zi_L} {st st' : List Value} {S S' : zi_S} (h : zi_aast pc L st S = some (.inl (pc', L', st', S'))) : ∃ v i a n f fs, st = .ref v :: .int i :: .ref a :: st' ∧ S.1 a = .inl (3, n, .inr (.inr (.inr (.inr f)))) ∧ S.1 v = .inr (3, fs) ∧ a < S.2.1 ∧ v < S.2.1 ∧ vp_in i n ∧ pc' = pc + 1 ∧ L' = L ∧ S' = (zi_put S.1 a (.inl (3, n, .inr (.inr (.inr (.inr (va_up f i.toNatClampNeg (some v))))))), S.2) := by
  unfold zi_aast at h
  split at h
  · rename_i v i a r
    split at h
    · rename_i t' n f ci fs hc hc2
      obtain ⟨h1, h2⟩ := zi_cond_inv h
      simp only [Bool.and_eq_true] at h1
      have hx := zi_beq h1.1
      subst hx
      have hy := zi_beq h1.2.2.2.1
      subst hy
      obtain ⟨rfl, rfl, rfl, rfl⟩ := zi_nx_inv h2
      exact ⟨v, i, a, n, f, fs, rfl, hc, hc2, zi_blt h1.2.1, zi_blt h1.2.2.1, zi_in_vp h1.2.2.2.2, rfl, rfl, rfl⟩
    · cases h
  · cases h
theorem zi_alen_inv {pc pc' : Nat} {L L' : zi_L} {st st' : List Value} {S S' : zi_S} (h : zi_alen pc L st S = some (.inl (pc', L', st', S'))) : ∃ (a : Nat) (r : List Value) (t : Nat) (q : vp_A), st = .ref a :: r ∧ S.1 a = .inl (t, q) ∧ ((t < 4 ∧ a < S.2.1) ∨ (t = 4 ∧ 1000000 ≤ a)) ∧ pc' = pc + 1 ∧ L' = L ∧ st' = .int (Int32.ofNat q.1) :: r ∧ S' = S := by
  unfold zi_alen at h
  split at h
  · rename_i a r
    split at h
    · rename_i t q hc
      obtain ⟨h1, h2⟩ := zi_cond_inv h
      simp only [Bool.or_eq_true, Bool.and_eq_true] at h1
      exact ⟨a, r, t, q, rfl, hc, h1.imp (fun h => ⟨zi_blt h.1, zi_blt h.2⟩) (fun h => ⟨zi_beq h.1, Nat.le_of_ble_eq_true h.2⟩), zi_nx_inv h2⟩
    · cases h
  · cases h
theorem zi_cpy_inv {pc pc' : Nat} {L L' : zi_L} {st st' : List Value} {S S' : zi_S} (h : zi_cpy pc L st S = some (.inl (pc', L', st', S'))) : ∃ n dp a sp b n1 g nz f, st = .int n :: .int dp :: .ref a :: .int sp :: .ref b :: st' ∧ S.1 a = .inl (0, n1, .inl g) ∧ S.1 b = .inl (0, nz, .inl f) ∧ a < S.2.1 ∧ b < S.2.1 ∧ ¬ sp < 0 ∧ ¬ dp < 0 ∧ ¬ n < 0 ∧ sp.toNatClampNeg + n.toNatClampNeg ≤ nz ∧ dp.toNatClampNeg + n.toNatClampNeg ≤ n1 ∧ zi_sm st' = true ∧ pc' = pc + 3 ∧ L' = L ∧ S' = (zi_put S.1 a (.inl (0, n1, .inl (va_cpy f g sp.toNatClampNeg dp.toNatClampNeg n.toNatClampNeg))), S.2) := by
  unfold zi_cpy at h
  split at h
  · rename_i n dp a sp b r
    split at h
    · rename_i t1 n1 g t0 nz f hc hc2
      obtain ⟨h1, h2⟩ := zi_cond_inv h
      simp only [Bool.and_eq_true] at h1
      obtain ⟨q1, q2, q3, q4, q5, q6, q7, q8, q9, q10⟩ := h1
      have e1 := zi_beq q1
      have e2 := zi_beq q2
      subst e1
      subst e2
      obtain ⟨rfl, rfl, rfl, rfl⟩ := zi_nx_inv h2
      exact ⟨n, dp, a, sp, b, n1, g, nz, f, rfl, hc, hc2, zi_blt q3, zi_blt q4, fun q => zi_in_vp q5 (Or.inl q), fun q => zi_in_vp q6 (Or.inl q), fun q => zi_in_vp q7 (Or.inl q), Nat.le_of_ble_eq_true q8, Nat.le_of_ble_eq_true q9, q10, rfl, rfl, rfl⟩
    · cases h
  · cases h
theorem zi_alloc_inv {n pc pc' w : Nat} {L L' : zi_L} {r st' : List Value} {S S' : zi_S} {c : zi_C} (h : zi_alloc n pc L r S c w = some (.inl (pc', L', st', S'))) : S.2.1 < 1000000 ∧ pc' = pc + n ∧ L' = L ∧ st' = .ref S.2.1 :: r ∧ S' = (zi_put S.1 S.2.1 c, S.2.1 + 1, S.2.2.1 + 1, S.2.2.2 + w) := by
  obtain ⟨h1, h2⟩ := zi_cond_inv h
  exact ⟨zi_blt h1, zi_nx_inv h2⟩
theorem zi_mka_inv {n pc pc' t : Nat} {L L' : zi_L} {st st' : List Value} {S S' : zi_S} (h : zi_mka n pc L st S t = some (.inl (pc', L', st', S'))) : ∃ k r, st = .int k :: r ∧ vp_in k 100000 ∧ S.2.1 < 1000000 ∧ pc' = pc + n ∧ L' = L ∧ st' = .ref S.2.1 :: r ∧ S' = (zi_put S.1 S.2.1 (.inl (t, zi_arr t k.toNatClampNeg)), S.2.1 + 1, S.2.2.1 + 1, S.2.2.2 + k.toNatClampNeg) := by
  unfold zi_mka at h
  split at h
  · rename_i k r
    obtain ⟨h1, h2⟩ := zi_cond_inv h
    exact ⟨k, r, rfl, zi_in_vp h1, zi_alloc_inv h2⟩
  · cases h
theorem zi_m2_inv {pc pc' : Nat} {L L' : zi_L} {st st' : List Value} {S S' : zi_S} {f : Int32 → Int32 → Int32} (h : zi_m2 pc L st S f = some (.inl (pc', L', st', S'))) : ∃ x y r, st = .int y :: .int x :: r ∧ zi_sm r = true ∧ pc' = pc + 3 ∧ L' = L ∧ st' = .int (f x y) :: r ∧ S' = S := by
  unfold zi_m2 at h
  split at h
  · obtain ⟨h1, h2⟩ := zi_cond_inv h
    exact ⟨_, _, _, rfl, h1, zi_nx_inv h2⟩
  · cases h
theorem zi_sm_map {ad : Nat → Nat} {r : List Value} (h : zi_sm r = true) : ((r.map (zi_v ad)).map fun v => v.category).sum ≤ 8 := by
  have h1 : (r.map fun v => v.category).sum ≤ 8 := Nat.le_of_ble_eq_true h
  rw [List.map_map]
  have e : ((fun v : Value => v.category) ∘ zi_v ad) = fun v => v.category := funext fun v => zi_v_cat ad v
  rw [e]
  exact h1
/-- a cell is written anew: the picture goes on -/
theorem zi_Hp.put {D : va_G} {cy : Nat → ClassId} {A : Nat → Prop} {ad : Nat → Nat} {H0 H H1 : Heap} {locs locs1 : List Loc} {S : zi_S} {k : Nat} {c : zi_C} (h : zi_Hp D cy A ad H0 H locs S) (hk : k < S.2.1) (hc : zi_okC S.2.1 c)
    (hP : va_P D vwCl ((zi_w cy ad S.1 S.2.1).set k (ad k, zi_e cy ad c)) H1) (hD : va_D A ((zi_w cy ad S.1 S.2.1).set k (ad k, zi_e cy ad c))) (hS : va_S A H0 H1 locs1) : zi_Hp D cy A ad H0 H1 locs1 (zi_put S.1 k c, S.2) := by
  rw [zi_w_set hk] at hP hD
  refine ⟨hP, hD, hS, fun j hj => ?_, h.2.2.2.2.1, fun j hj => ?_⟩
  rotate_left
  · have hk1 : k < S.2.1 := hk
    have hn1 := h.2.2.2.2.1
    have e : j ≠ k := by omega
    show zi_put S.1 k c j = zi_ro j
    simp only [zi_put, va_up, if_neg e]
    exact h.2.2.2.2.2 j hj
  by_cases e : j = k
  · subst e
    simp only [zi_put, va_up, if_true]
    exact hc
  · simp only [zi_put, va_up, if_neg e]
    exact h.2.2.2.1 j hj
theorem zi_fv_nf {ty : FieldType} {v : Value} (h : zi_fv ty v = true) (ad : Nat → Nat) : narrow ty (zi_v ad v) = zi_v ad v ∧ fits ty (zi_v ad v) = true := by
  cases ty <;> cases v <;> first | exact ⟨rfl, rfl⟩ | cases h
theorem zi_set_map {ad : Nat → Nat} {fs : List Value} {y : Nat} {v : Value} : (fs.map (zi_v ad)).set y (zi_v ad v) = (fs.set y v).map (zi_v ad) := by
  rw [List.map_set]
theorem zi_okC_set {n ci y : Nat} {fs : List Value} {v : Value} (h : zi_okC n (.inr (ci, fs))) (hv : zi_ok n v) : zi_okC n (.inr (ci, fs.set y v)) := by
  intro w hw
  rcases List.mem_or_eq_of_mem_set hw with h1 | rfl
  · exact h w h1
  · exact hv
