/-! ===== the abstract machine and the machine: pictures ===== -/
def zi_v (ad : Nat → Nat) : Value → Value
  | .ref k => .ref (ad k)
  | v => v
def zi_e (cy : Nat → ClassId) (ad : Nat → Nat) : zi_C → va_E
  | .inl (t, n, .inl f) => .inl (cy t, n, .inl f)
  | .inl (t, n, .inr (.inl f)) => .inl (cy t, n, .inr (.inl f))
  | .inl (t, n, .inr (.inr (.inl f))) => .inl (cy t, n, .inr (.inr (.inl f)))
  | .inl (t, n, .inr (.inr (.inr (.inl f)))) => .inl (cy t, n, .inr (.inr (.inr (.inl f))))
  | .inl (t, n, .inr (.inr (.inr (.inr f)))) => .inl (cy t, n, .inr (.inr (.inr (.inr (fun i => (f i).map ad)))))
  | .inr (ci, fs) => .inr (ci, fs.map (zi_v ad))
def zi_w (cy : Nat → ClassId) (ad : Nat → Nat) (h : Nat → zi_C) (n : Nat) : va_W := (List.range n).map (fun k => (ad k, zi_e cy ad (h k)))
theorem zi_w_get {cy : Nat → ClassId} {ad : Nat → Nat} {h : Nat → zi_C} {n k : Nat} (hk : k < n) : (zi_w cy ad h n)[k]? = some (ad k, zi_e cy ad (h k)) := by
  simp [zi_w, hk]
theorem zi_w_len {cy : Nat → ClassId} {ad : Nat → Nat} {h : Nat → zi_C} {n : Nat} : (zi_w cy ad h n).length = n := by simp [zi_w]
theorem zi_w_inv {cy : Nat → ClassId} {ad : Nat → Nat} {h : Nat → zi_C} {n k : Nat} {q : Nat × va_E} (hq : (zi_w cy ad h n)[k]? = some q) : k < n ∧ q = (ad k, zi_e cy ad (h k)) := by
  have hl : k < n := by
    have := (List.getElem?_eq_some_iff.mp hq).1
    rwa [zi_w_len] at this
  rw [zi_w_get hl] at hq
  exact ⟨hl, (Option.some.inj hq).symm⟩
theorem zi_w_set {cy : Nat → ClassId} {ad : Nat → Nat} {h : Nat → zi_C} {n k : Nat} {c : zi_C} (hk : k < n) : (zi_w cy ad h n).set k (ad k, zi_e cy ad c) = zi_w cy ad (zi_put h k c) n := by
  apply List.ext_getElem?
  intro j
  rw [List.getElem?_set]
  by_cases hj : k = j
  · subst hj
    rw [if_pos rfl, zi_w_len, if_pos hk, zi_w_get hk]
    simp [zi_put, va_up]
  · rw [if_neg hj]
    by_cases hn : j < n
    · rw [zi_w_get hn, zi_w_get hn]
      simp [zi_put, va_up, Ne.symm hj]
    · rw [List.getElem?_eq_none (by rw [zi_w_len]; omega), List.getElem?_eq_none (by rw [zi_w_len]; omega)]
def zi_ok (n : Nat) : Value → Prop
  | .ref k => k < n ∨ 1000000 ≤ k
  | _ => True
def zi_okC (n : Nat) : zi_C → Prop
  | .inl (_, _, .inr (.inr (.inr (.inr f)))) => ∀ i k, f i = some k → k < n ∨ 1000000 ≤ k
  | .inl _ => True
  | .inr (_, fs) => ∀ v ∈ fs, zi_ok n v
def zi_ag (n : Nat) (ad ad' : Nat → Nat) : Prop := ∀ k, (k < n ∨ 1000000 ≤ k) → ad' k = ad k
theorem zi_ag.rf {n : Nat} {ad : Nat → Nat} : zi_ag n ad ad := fun _ _ => rfl
theorem zi_ok.mono {n n' : Nat} {v : Value} (hn : n ≤ n') (h : zi_ok n v) : zi_ok n' v := by
  cases v with
  | ref k => exact h.imp (fun q => Nat.lt_of_lt_of_le q hn) id
  | _ => trivial
theorem zi_okC.mono {n n' : Nat} {c : zi_C} (hn : n ≤ n') (h : zi_okC n c) : zi_okC n' c := by
  rcases c with ⟨t, k, f | f | f | f | f⟩ | ⟨ci, fs⟩
  · trivial
  · trivial
  · trivial
  · trivial
  · intro i k hk
    have := h i k hk
    omega
  · intro v hv
    exact (h v hv).mono hn
theorem zi_v_ag {n : Nat} {ad ad' : Nat → Nat} (ha : zi_ag n ad ad') {v : Value} (h : zi_ok n v) : zi_v ad' v = zi_v ad v := by
  cases v <;> simp only [zi_v]
  exact congrArg _ (ha _ h)
theorem zi_map_ag {n : Nat} {ad ad' : Nat → Nat} (ha : zi_ag n ad ad') {vs : List Value} (h : ∀ v ∈ vs, zi_ok n v) : vs.map (zi_v ad') = vs.map (zi_v ad) :=
  List.map_congr_left fun v hv => zi_v_ag ha (h v hv)
theorem zi_e_ag {n : Nat} {cy : Nat → ClassId} {ad ad' : Nat → Nat} (ha : zi_ag n ad ad') {c : zi_C} (h : zi_okC n c) : zi_e cy ad' c = zi_e cy ad c := by
  rcases c with ⟨t, k, f | f | f | f | f⟩ | ⟨ci, fs⟩
  · rfl
  · rfl
  · rfl
  · rfl
  · simp only [zi_e]
    refine congrArg (fun g => Sum.inl (cy t, k, Sum.inr (Sum.inr (Sum.inr (Sum.inr g))))) (funext fun i => ?_)
    cases hf : f i with
    | none => rfl
    | some j => exact congrArg some (ha _ (h i j hf))
  · simp only [zi_e]
    rw [zi_map_ag ha h]
theorem zi_w_push {cy : Nat → ClassId} {ad ad' : Nat → Nat} {h : Nat → zi_C} {n q : Nat} {c : zi_C} (ha : zi_ag n ad ad') (hq : ad' n = q) (hw : ∀ k, k < n → zi_okC n (h k)) : zi_w cy ad h n ++ [(q, zi_e cy ad' c)] = zi_w cy ad' (zi_put h n c) (n + 1) := by
  apply List.ext_getElem?
  intro j
  by_cases h1 : j < n
  · rw [List.getElem?_append_left (by rw [zi_w_len]; exact h1), zi_w_get h1, zi_w_get (by omega)]
    have e1 : zi_put h n c j = h j := by simp [zi_put, va_up, Nat.ne_of_lt h1]
    rw [e1, zi_e_ag ha (hw j h1), ha j (Or.inl h1)]
  · rw [List.getElem?_append_right (by rw [zi_w_len]; omega), zi_w_len]
    by_cases h2 : j = n
    · subst h2
      rw [Nat.sub_self, zi_w_get (by omega), hq]
      simp [zi_put, va_up]
    · have e1 : j - n = (j - n - 1) + 1 := by omega
      rw [e1, List.getElem?_eq_none (by simp), List.getElem?_eq_none (by rw [zi_w_len]; omega)]
/-! locals -/
def zi_Lv (ad : Nat → Nat) (ls : Array Slot) (nL n : Nat) (L : zi_L) : Prop := ls.size = nL ∧ L.length = nL ∧ lv_wf ls ∧ ∀ k v, zi_ld L k = some v → ls[k]? = some (.val (zi_v ad v)) ∧ zi_ok n v
def zi_as (ad : Nat → Nat) (L : zi_L) : List (Nat × Value) := (List.range L.length).filterMap fun k => (zi_ld L k).map fun v => (k, zi_v ad v)
theorem zi_as_mem {ad : Nat → Nat} {L : zi_L} {q : Nat × Value} : q ∈ zi_as ad L ↔ ∃ v, zi_ld L q.1 = some v ∧ q.2 = zi_v ad v := by
  unfold zi_as
  rw [List.mem_filterMap]
  constructor
  · rintro ⟨k, hk, h⟩
    cases hv : zi_ld L k with
    | none => rw [hv] at h; cases h
    | some v =>
      rw [hv] at h
      cases h
      exact ⟨v, hv, rfl⟩
  · rintro ⟨v, hv, h⟩
    refine ⟨q.1, ?_, by rw [hv]; simp [← h]⟩
    rw [List.mem_range]
    rcases Nat.lt_or_ge q.1 L.length with hl | hl
    · exact hl
    · simp [zi_ld, List.getElem?_eq_none hl] at hv
theorem zi_Lv.has {ad : Nat → Nat} {ls : Array Slot} {nL n : Nat} {L : zi_L} (h : zi_Lv ad ls nL n L) : lv_has ls nL (zi_as ad L) := by
  refine ⟨h.1, h.2.2.1, fun q hq => ?_⟩
  obtain ⟨v, hv, e⟩ := zi_as_mem.mp hq
  rw [e]
  exact (h.2.2.2 _ _ hv).1
theorem zi_v_cat (ad : Nat → Nat) (v : Value) : (zi_v ad v).category = v.category := by cases v <;> rfl
theorem zi_Lv.ag {ad ad' : Nat → Nat} {ls : Array Slot} {nL n n' : Nat} {L : zi_L} (ha : zi_ag n ad ad') (hn : n ≤ n') (h : zi_Lv ad ls nL n L) : zi_Lv ad' ls nL n' L :=
  ⟨h.1, h.2.1, h.2.2.1, fun k v hv => ⟨by rw [zi_v_ag ha (h.2.2.2 k v hv).2]; exact (h.2.2.2 k v hv).1, (h.2.2.2 k v hv).2.mono hn⟩⟩
theorem zi_kill_len (L : zi_L) (i : Nat) : (zi_kill L i).length = L.length := by
  cases i with
  | zero => rfl
  | succ i =>
    simp only [zi_kill]
    split <;> simp
theorem zi_kill_ld {L : zi_L} {i k : Nat} {v : Value} (h : zi_ld (zi_kill L i) k = some v) : zi_ld L k = some v ∧ ¬ (k + 1 = i ∧ v.category = 2) := by
  cases i with
  | zero => exact ⟨h, by omega⟩
  | succ i =>
    simp only [zi_kill] at h
    have key : ∀ (w : Value), L[i]? = some (some w) → zi_ld (L.set i none) k = some v → zi_ld L k = some v ∧ ¬ (k + 1 = i + 1 ∧ v.category = 2) := by
      intro w hw h
      simp only [zi_ld, List.getElem?_set] at h
      by_cases e : i = k
      · subst e
        simp only [if_true] at h
        split at h <;> simp_all
      · rw [if_neg e] at h
        exact ⟨h, by omega⟩
    split at h
    · exact key _ (by assumption) h
    · exact key _ (by assumption) h
    · rename_i h1 h2
      refine ⟨h, ?_⟩
      rintro ⟨e, hc⟩
      have e : k = i := by omega
      subst e
      simp only [zi_ld] at h
      split at h
      · rename_i w hw
        cases h
        cases v <;> simp [Value.category] at hc
        · exact h1 _ hw
        · exact h2 _ hw
      · cases h
theorem zi_st1_inv {L L' : zi_L} {i : Nat} {v : Value} (h : zi_st1 L i v = some L') : i < L.length ∧ L' = (zi_kill L i).set i (some v) := by
  unfold zi_st1 at h
  cases hb : Nat.blt i L.length with
  | false => rw [hb] at h; cases h
  | true =>
    rw [hb] at h
    exact ⟨Nat.le_of_ble_eq_true hb, (Option.some.inj h).symm⟩
theorem zi_st2_inv {L L' : zi_L} {i : Nat} {v : Value} (h : zi_st2 L i v = some L') : i + 1 < L.length ∧ L' = ((zi_kill L i).set i (some v)).set (i + 1) none := by
  unfold zi_st2 at h
  cases hb : Nat.blt (i + 1) L.length with
  | false => rw [hb] at h; cases h
  | true =>
    rw [hb] at h
    exact ⟨Nat.le_of_ble_eq_true hb, (Option.some.inj h).symm⟩
theorem zi_st1_ld {L L' : zi_L} {i k : Nat} {v w : Value} (h : zi_st1 L i v = some L') (hk : zi_ld L' k = some w) : (k = i ∧ w = v) ∨ (k ≠ i ∧ zi_ld L k = some w ∧ ¬ (k + 1 = i ∧ w.category = 2)) := by
  obtain ⟨hi, rfl⟩ := zi_st1_inv h
  by_cases e : k = i
  · subst e
    simp [zi_ld, List.getElem?_set, zi_kill_len, hi] at hk
    exact Or.inl ⟨rfl, hk.symm⟩
  · have h2 : zi_ld (zi_kill L i) k = some w := by
      simp only [zi_ld, List.getElem?_set, if_neg (Ne.symm e)] at hk
      exact hk
    exact Or.inr ⟨e, zi_kill_ld h2⟩
theorem zi_st2_ld {L L' : zi_L} {i k : Nat} {v w : Value} (h : zi_st2 L i v = some L') (hk : zi_ld L' k = some w) : (k = i ∧ w = v) ∨ (k ≠ i ∧ k ≠ i + 1 ∧ zi_ld L k = some w ∧ ¬ (k + 1 = i ∧ w.category = 2)) := by
  obtain ⟨hi, rfl⟩ := zi_st2_inv h
  by_cases e1 : k = i + 1
  · subst e1
    exfalso
    simp [zi_ld, List.getElem?_set, zi_kill_len] at hk
  · have h1 : zi_ld ((zi_kill L i).set i (some v)) k = some w := by
      simp only [zi_ld, List.getElem?_set (i := i + 1), if_neg (Ne.symm e1)] at hk
      exact hk
    by_cases e : k = i
    · subst e
      simp [zi_ld, List.getElem?_set, zi_kill_len, Nat.lt_of_succ_lt hi] at h1
      exact Or.inl ⟨rfl, h1.symm⟩
    · have h2 : zi_ld (zi_kill L i) k = some w := by
        simp only [zi_ld, List.getElem?_set, if_neg (Ne.symm e)] at h1
        exact h1
      exact Or.inr ⟨e, e1, zi_kill_ld h2⟩
theorem zi_Lv.st1 {ad : Nat → Nat} {ls ls' : Array Slot} {nL n : Nat} {L L' : zi_L} {i : Nat} {v : Value} (h : zi_Lv ad ls nL n L) (hs : zi_st1 L i v = some L') (hv : zi_ok n v)
    (h' : lv_has ls' nL ((i, zi_v ad v) :: (zi_as ad L).filter (fun q => !(q.1 == i) && !(q.1 + 1 == i && q.2.category == 2)))) : zi_Lv ad ls' nL n L' := by
  refine ⟨h'.1, ?_, h'.2.1, fun k w hk => ?_⟩
  · obtain ⟨-, rfl⟩ := zi_st1_inv hs
    rw [List.length_set, zi_kill_len]
    exact h.2.1
  · rcases zi_st1_ld hs hk with ⟨rfl, rfl⟩ | ⟨e, h1, h2⟩
    · exact ⟨h'.2.2 _ List.mem_cons_self, hv⟩
    · refine ⟨h'.2.2 (k, zi_v ad w) (List.mem_cons_of_mem _ (List.mem_filter.mpr ⟨zi_as_mem.mpr ⟨w, h1, rfl⟩, ?_⟩)), (h.2.2.2 _ _ h1).2⟩
      simp only [zi_v_cat]
      simp [e]
      exact Decidable.not_and_iff_or_not.mp h2
theorem zi_Lv.st2 {ad : Nat → Nat} {ls ls' : Array Slot} {nL n : Nat} {L L' : zi_L} {i : Nat} {v : Value} (h : zi_Lv ad ls nL n L) (hs : zi_st2 L i v = some L') (hv : zi_ok n v)
    (h' : lv_has ls' nL ((i, zi_v ad v) :: (zi_as ad L).filter (fun q => !(q.1 == i) && (!(q.1 == i + 1) && !(q.1 + 1 == i && q.2.category == 2))))) : zi_Lv ad ls' nL n L' := by
  refine ⟨h'.1, ?_, h'.2.1, fun k w hk => ?_⟩
  · obtain ⟨-, rfl⟩ := zi_st2_inv hs
    rw [List.length_set, List.length_set, zi_kill_len]
    exact h.2.1
  · rcases zi_st2_ld hs hk with ⟨rfl, rfl⟩ | ⟨e, e1, h1, h2⟩
    · exact ⟨h'.2.2 _ List.mem_cons_self, hv⟩
    · refine ⟨h'.2.2 (k, zi_v ad w) (List.mem_cons_of_mem _ (List.mem_filter.mpr ⟨zi_as_mem.mpr ⟨w, h1, rfl⟩, ?_⟩)), (h.2.2.2 _ _ h1).2⟩
      simp only [zi_v_cat]
      simp [e, e1]
      exact Decidable.not_and_iff_or_not.mp h2
