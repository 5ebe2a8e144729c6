/-! ===== fewer locals do as well ===== -/
def zi_Lle : zi_L → zi_L → Prop
  | [], [] => True
  | none :: r, _ :: r' => zi_Lle r r'
  | some v :: r, some w :: r' => v = w ∧ zi_Lle r r'
  | _, _ => False
theorem zi_Lle.len : ∀ {L L' : zi_L}, zi_Lle L L' → L.length = L'.length
  | [], [], _ => rfl
  | none :: r, _ :: r', h => congrArg (· + 1) (zi_Lle.len (L := r) (L' := r') h)
  | some v :: r, some w :: r', h => congrArg (· + 1) (zi_Lle.len h.2)
  | some v :: r, none :: r', h => h.elim
  | [], _ :: _, h => h.elim
  | some _ :: _, [], h => h.elim
  | none :: _, [], h => h.elim
theorem zi_Lle.get : ∀ {L L' : zi_L}, zi_Lle L L' → ∀ (i : Nat) (v : Value), L[i]? = some (some v) → L'[i]? = some (some v)
  | [], [], _, i, v, hi => by simp at hi
  | none :: r, _ :: r', h, i, v, hi => by
    cases i with
    | zero => simp at hi
    | succ i =>
      have := zi_Lle.get (L := r) (L' := r') h i v (by simpa using hi)
      simpa using this
  | some a :: r, some w :: r', h, i, v, hi => by
    cases i with
    | zero =>
      have e : a = v := by simpa using hi
      rw [← e, h.1]
      rfl
    | succ i =>
      have := zi_Lle.get h.2 i v (by simpa using hi)
      simpa using this
  | some v :: r, none :: r', h, _, _, _ => h.elim
  | [], _ :: _, h, _, _, _ => h.elim
  | some _ :: _, [], h, _, _, _ => h.elim
  | none :: _, [], h, _, _, _ => h.elim
theorem zi_Lle.of {L L' : zi_L} (h1 : L.length = L'.length) (h2 : ∀ (i : Nat) (v : Value), L[i]? = some (some v) → L'[i]? = some (some v)) : zi_Lle L L' := by
  induction L generalizing L' with
  | nil =>
    cases L' with
    | nil => trivial
    | cons a r => cases h1
  | cons a r ih =>
    cases L' with
    | nil => cases h1
    | cons b r' =>
      have hr : zi_Lle r r' := ih (by simpa using h1) fun i v h => by
        have := h2 (i + 1) v (by simpa using h)
        simpa using this
      cases a with
      | none => exact hr
      | some v =>
        have h0 := h2 0 v rfl
        have e : b = some v := by simpa using h0
        subst e
        exact ⟨rfl, hr⟩
theorem zi_Lle.rf (L : zi_L) : zi_Lle L L := zi_Lle.of rfl fun _ _ h => h
theorem zi_Lle.ld {L L' : zi_L} (h : zi_Lle L L') {i : Nat} {v : Value} (hi : zi_ld L i = some v) : zi_ld L' i = some v := by
  unfold zi_ld at hi ⊢
  split at hi
  · rename_i w hw
    cases hi
    rw [h.get i v hw]
  · cases hi
theorem zi_ld_get {L : zi_L} {i : Nat} {v : Value} : zi_ld L i = some v ↔ L[i]? = some (some v) := by
  unfold zi_ld
  constructor
  · intro h
    split at h
    · rename_i w hw
      cases h
      exact hw
    · cases h
  · intro h
    rw [h]
theorem zi_kill_ge {L : zi_L} {i k : Nat} {v : Value} (h : zi_ld L k = some v) (hn : ¬ (k + 1 = i ∧ v.category = 2)) : zi_ld (zi_kill L i) k = some v := by
  cases i with
  | zero => exact h
  | succ i =>
    have key : ∀ w : Value, w.category = 2 → L[i]? = some (some w) → zi_ld (L.set i none) k = some v := by
      intro w hc hw
      have e : i ≠ k := by
        intro e
        subst e
        rw [zi_ld_get, hw] at h
        cases h
        exact hn ⟨rfl, hc⟩
      rw [zi_ld_get] at h ⊢
      rw [List.getElem?_set, if_neg e]
      exact h
    simp only [zi_kill]
    split
    · exact key _ rfl (by assumption)
    · exact key _ rfl (by assumption)
    · exact h
theorem zi_Lle.st1 {L L' L1 : zi_L} (h : zi_Lle L L') {i : Nat} {v : Value} (hs : zi_st1 L i v = some L1) : ∃ L2, zi_st1 L' i v = some L2 ∧ zi_Lle L1 L2 := by
  obtain ⟨hi, hL1⟩ := zi_st1_inv hs
  have hi' : i < L'.length := by rw [← h.len]; exact hi
  refine ⟨(zi_kill L' i).set i (some v), ?_, ?_⟩
  · unfold zi_st1
    rw [show Nat.blt i L'.length = true from Nat.ble_eq_true_of_le hi']
    rfl
  · refine zi_Lle.of (by rw [hL1, List.length_set, List.length_set, zi_kill_len, zi_kill_len, h.len]) fun k w hk => ?_
    rcases zi_st1_ld hs (zi_ld_get.mpr hk) with ⟨rfl, rfl⟩ | ⟨e, h1, h2⟩
    · rw [List.getElem?_set, if_pos rfl, if_pos (by rw [zi_kill_len]; exact hi')]
    · rw [List.getElem?_set, if_neg (Ne.symm e)]
      exact zi_ld_get.mp (zi_kill_ge (h.ld h1) h2)
theorem zi_Lle.st2 {L L' L1 : zi_L} (h : zi_Lle L L') {i : Nat} {v : Value} (hs : zi_st2 L i v = some L1) : ∃ L2, zi_st2 L' i v = some L2 ∧ zi_Lle L1 L2 := by
  obtain ⟨hi, hL1⟩ := zi_st2_inv hs
  have hi' : i + 1 < L'.length := by rw [← h.len]; exact hi
  refine ⟨((zi_kill L' i).set i (some v)).set (i + 1) none, ?_, ?_⟩
  · unfold zi_st2
    rw [show Nat.blt (i + 1) L'.length = true from Nat.ble_eq_true_of_le hi']
    rfl
  · refine zi_Lle.of (by rw [hL1]; simp [zi_kill_len, h.len]) fun k w hk => ?_
    rcases zi_st2_ld hs (zi_ld_get.mpr hk) with ⟨rfl, rfl⟩ | ⟨e, e1, h1, h2⟩
    · rw [List.getElem?_set, if_neg (by omega), List.getElem?_set, if_pos rfl, if_pos (by rw [zi_kill_len]; omega)]
    · rw [List.getElem?_set, if_neg (Ne.symm e1), List.getElem?_set, if_neg (Ne.symm e)]
      exact zi_ld_get.mp (zi_kill_ge (h.ld h1) h2)
/-- the locals of an outcome are others -/
def zi_sl (L : zi_L) : zi_O → zi_O
  | .inl w => .inl (w.1, L, w.2.2)
  | .inr w => .inr w
def zi_isL : ClassFile.Instr → Bool
  | .iload_n _ => true
  | .iload _ => true
  | .lload_n _ => true
  | .lload _ => true
  | .aload_n _ => true
  | .aload _ => true
  | .istore_n _ => true
  | .istore _ => true
  | .astore_n _ => true
  | .astore _ => true
  | .lstore_n _ => true
  | .lstore _ => true
  | .iinc _ _ => true
  | _ => false
