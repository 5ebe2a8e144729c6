/-! ===== what a step can be ===== -/
def zi_pl (S : zi_S) (r : Option zi_O) : Prop := ∀ o, r = some o → ∃ w, o = .inl w ∧ zi_le S w.2.2.2
theorem zi_pl_none {S : zi_S} : zi_pl S none := fun _ h => by cases h
theorem zi_pl_nx {S d : zi_S} {a : Nat} {b : zi_L} {c : List Value} (h : zi_le S d) : zi_pl S (zi_nx a b c d) := fun o ho => by
  cases ho
  exact ⟨_, rfl, h⟩
theorem zi_pl_cond {S : zi_S} {b : Bool} {x : Option zi_O} (h : zi_pl S x) : zi_pl S (cond b x none) := by
  cases b
  · exact zi_pl_none
  · exact h
theorem zi_pl_bind {S : zi_S} {x : Option zi_L} {f : zi_L → Option zi_O} (h : ∀ L, zi_pl S (f L)) : zi_pl S (x.bind f) := by
  cases x
  · exact zi_pl_none
  · exact h _
theorem zi_pl_br {S : zi_S} {pc t : Nat} {L : zi_L} {r : List Value} {b : Prop} [Decidable b] : zi_pl S (zi_br pc t L r S b) := by
  unfold zi_br
  split <;> exact zi_pl_nx zi_le.rf
theorem zi_pl_put {S : zi_S} {h : Nat → zi_C} : zi_le S (h, S.2) := zi_le.rf
theorem zi_pl_alloc {S : zi_S} {n pc w : Nat} {L : zi_L} {r : List Value} {c : zi_C} : zi_pl S (zi_alloc n pc L r S c w) := by
  unfold zi_alloc
  exact zi_pl_cond (zi_pl_nx ⟨Nat.le_succ _, Nat.le_succ _, Nat.le_add_right _ _⟩)
theorem zi_pl_i1 {S : zi_S} {pc : Nat} {L : zi_L} {st : List Value} {f1 : Int32 → Int32} : zi_pl S (zi_i1 pc L st S f1) := by
  unfold zi_i1
  (repeat' split) <;> first | exact zi_pl_none | exact zi_pl_nx zi_le.rf | exact zi_pl_br | exact zi_pl_cond (zi_pl_nx zi_le.rf) | exact zi_pl_cond (zi_pl_nx zi_pl_put) | exact zi_pl_cond (zi_pl_bind fun _ => zi_pl_nx zi_le.rf) | exact zi_pl_bind (fun _ => zi_pl_nx zi_le.rf) | exact zi_pl_cond zi_pl_alloc
theorem zi_pl_i2 {S : zi_S} {pc : Nat} {L : zi_L} {st : List Value} {f2 : Int32 → Int32 → Int32} : zi_pl S (zi_i2 pc L st S f2) := by
  unfold zi_i2
  (repeat' split) <;> first | exact zi_pl_none | exact zi_pl_nx zi_le.rf | exact zi_pl_br | exact zi_pl_cond (zi_pl_nx zi_le.rf) | exact zi_pl_cond (zi_pl_nx zi_pl_put) | exact zi_pl_cond (zi_pl_bind fun _ => zi_pl_nx zi_le.rf) | exact zi_pl_bind (fun _ => zi_pl_nx zi_le.rf) | exact zi_pl_cond zi_pl_alloc
theorem zi_pl_l2 {S : zi_S} {pc : Nat} {L : zi_L} {st : List Value} {f3 : Int64 → Int64 → Int64} : zi_pl S (zi_l2 pc L st S f3) := by
  unfold zi_l2
  (repeat' split) <;> first | exact zi_pl_none | exact zi_pl_nx zi_le.rf | exact zi_pl_br | exact zi_pl_cond (zi_pl_nx zi_le.rf) | exact zi_pl_cond (zi_pl_nx zi_pl_put) | exact zi_pl_cond (zi_pl_bind fun _ => zi_pl_nx zi_le.rf) | exact zi_pl_bind (fun _ => zi_pl_nx zi_le.rf) | exact zi_pl_cond zi_pl_alloc
theorem zi_pl_lod {S : zi_S} {n : Nat} {pc : Nat} {L : zi_L} {st : List Value} {i : Nat} {kv : Value → Bool} : zi_pl S (zi_lod n pc L st S i kv) := by
  unfold zi_lod
  (repeat' split) <;> first | exact zi_pl_none | exact zi_pl_nx zi_le.rf | exact zi_pl_br | exact zi_pl_cond (zi_pl_nx zi_le.rf) | exact zi_pl_cond (zi_pl_nx zi_pl_put) | exact zi_pl_cond (zi_pl_bind fun _ => zi_pl_nx zi_le.rf) | exact zi_pl_bind (fun _ => zi_pl_nx zi_le.rf) | exact zi_pl_cond zi_pl_alloc
theorem zi_pl_sto {S : zi_S} {n : Nat} {pc : Nat} {L : zi_L} {st : List Value} {i : Nat} {kv : Value → Bool} : zi_pl S (zi_sto n pc L st S i kv) := by
  unfold zi_sto
  (repeat' split) <;> first | exact zi_pl_none | exact zi_pl_nx zi_le.rf | exact zi_pl_br | exact zi_pl_cond (zi_pl_nx zi_le.rf) | exact zi_pl_cond (zi_pl_nx zi_pl_put) | exact zi_pl_cond (zi_pl_bind fun _ => zi_pl_nx zi_le.rf) | exact zi_pl_bind (fun _ => zi_pl_nx zi_le.rf) | exact zi_pl_cond zi_pl_alloc
theorem zi_pl_sto2 {S : zi_S} {n : Nat} {pc : Nat} {L : zi_L} {st : List Value} {i : Nat} : zi_pl S (zi_sto2 n pc L st S i) := by
  unfold zi_sto2
  (repeat' split) <;> first | exact zi_pl_none | exact zi_pl_nx zi_le.rf | exact zi_pl_br | exact zi_pl_cond (zi_pl_nx zi_le.rf) | exact zi_pl_cond (zi_pl_nx zi_pl_put) | exact zi_pl_cond (zi_pl_bind fun _ => zi_pl_nx zi_le.rf) | exact zi_pl_bind (fun _ => zi_pl_nx zi_le.rf) | exact zi_pl_cond zi_pl_alloc
theorem zi_pl_if1 {S : zi_S} {pc : Nat} {t : Nat} {L : zi_L} {st : List Value} {q : ClassFile.Cond} : zi_pl S (zi_if1 pc t L st S q) := by
  unfold zi_if1
  (repeat' split) <;> first | exact zi_pl_none | exact zi_pl_nx zi_le.rf | exact zi_pl_br | exact zi_pl_cond (zi_pl_nx zi_le.rf) | exact zi_pl_cond (zi_pl_nx zi_pl_put) | exact zi_pl_cond (zi_pl_bind fun _ => zi_pl_nx zi_le.rf) | exact zi_pl_bind (fun _ => zi_pl_nx zi_le.rf) | exact zi_pl_cond zi_pl_alloc
theorem zi_pl_if2 {S : zi_S} {pc : Nat} {t : Nat} {L : zi_L} {st : List Value} {q : ClassFile.Cond} : zi_pl S (zi_if2 pc t L st S q) := by
  unfold zi_if2
  (repeat' split) <;> first | exact zi_pl_none | exact zi_pl_nx zi_le.rf | exact zi_pl_br | exact zi_pl_cond (zi_pl_nx zi_le.rf) | exact zi_pl_cond (zi_pl_nx zi_pl_put) | exact zi_pl_cond (zi_pl_bind fun _ => zi_pl_nx zi_le.rf) | exact zi_pl_bind (fun _ => zi_pl_nx zi_le.rf) | exact zi_pl_cond zi_pl_alloc
theorem zi_pl_putf {S : zi_S} {pc : Nat} {L : zi_L} {st : List Value} {x : Nat} {y : Nat} : zi_pl S (zi_putf pc L st S x y) := by
  unfold zi_putf
  (repeat' split) <;> first | exact zi_pl_none | exact zi_pl_nx zi_le.rf | exact zi_pl_br | exact zi_pl_cond (zi_pl_nx zi_le.rf) | exact zi_pl_cond (zi_pl_nx zi_pl_put) | exact zi_pl_cond (zi_pl_bind fun _ => zi_pl_nx zi_le.rf) | exact zi_pl_bind (fun _ => zi_pl_nx zi_le.rf) | exact zi_pl_cond zi_pl_alloc
theorem zi_pl_ald {S : zi_S} {pc : Nat} {L : zi_L} {st : List Value} {t : Nat} : zi_pl S (zi_ald pc L st S t) := by
  unfold zi_ald
  (repeat' split) <;> first | exact zi_pl_none | exact zi_pl_nx zi_le.rf | exact zi_pl_br | exact zi_pl_cond (zi_pl_nx zi_le.rf) | exact zi_pl_cond (zi_pl_nx zi_pl_put) | exact zi_pl_cond (zi_pl_bind fun _ => zi_pl_nx zi_le.rf) | exact zi_pl_bind (fun _ => zi_pl_nx zi_le.rf) | exact zi_pl_cond zi_pl_alloc
theorem zi_pl_bald {S : zi_S} {pc : Nat} {L : zi_L} {st : List Value} : zi_pl S (zi_bald pc L st S) := by
  unfold zi_bald
  (repeat' split) <;> first | exact zi_pl_none | exact zi_pl_nx zi_le.rf | exact zi_pl_br | exact zi_pl_cond (zi_pl_nx zi_le.rf) | exact zi_pl_cond (zi_pl_nx zi_pl_put) | exact zi_pl_cond (zi_pl_bind fun _ => zi_pl_nx zi_le.rf) | exact zi_pl_bind (fun _ => zi_pl_nx zi_le.rf) | exact zi_pl_cond zi_pl_alloc
theorem zi_pl_lald {S : zi_S} {pc : Nat} {L : zi_L} {st : List Value} : zi_pl S (zi_lald pc L st S) := by
  unfold zi_lald
  (repeat' split) <;> first | exact zi_pl_none | exact zi_pl_nx zi_le.rf | exact zi_pl_br | exact zi_pl_cond (zi_pl_nx zi_le.rf) | exact zi_pl_cond (zi_pl_nx zi_pl_put) | exact zi_pl_cond (zi_pl_bind fun _ => zi_pl_nx zi_le.rf) | exact zi_pl_bind (fun _ => zi_pl_nx zi_le.rf) | exact zi_pl_cond zi_pl_alloc
theorem zi_pl_aald {S : zi_S} {pc : Nat} {L : zi_L} {st : List Value} : zi_pl S (zi_aald pc L st S) := by
  unfold zi_aald
  (repeat' split) <;> first | exact zi_pl_none | exact zi_pl_nx zi_le.rf | exact zi_pl_br | exact zi_pl_cond (zi_pl_nx zi_le.rf) | exact zi_pl_cond (zi_pl_nx zi_pl_put) | exact zi_pl_cond (zi_pl_bind fun _ => zi_pl_nx zi_le.rf) | exact zi_pl_bind (fun _ => zi_pl_nx zi_le.rf) | exact zi_pl_cond zi_pl_alloc
theorem zi_pl_ast {S : zi_S} {pc : Nat} {L : zi_L} {st : List Value} {t : Nat} {f1 : Int32 → Int32} : zi_pl S (zi_ast pc L st S t f1) := by
  unfold zi_ast
  (repeat' split) <;> first | exact zi_pl_none | exact zi_pl_nx zi_le.rf | exact zi_pl_br | exact zi_pl_cond (zi_pl_nx zi_le.rf) | exact zi_pl_cond (zi_pl_nx zi_pl_put) | exact zi_pl_cond (zi_pl_bind fun _ => zi_pl_nx zi_le.rf) | exact zi_pl_bind (fun _ => zi_pl_nx zi_le.rf) | exact zi_pl_cond zi_pl_alloc
theorem zi_pl_last {S : zi_S} {pc : Nat} {L : zi_L} {st : List Value} : zi_pl S (zi_last pc L st S) := by
  unfold zi_last
  (repeat' split) <;> first | exact zi_pl_none | exact zi_pl_nx zi_le.rf | exact zi_pl_br | exact zi_pl_cond (zi_pl_nx zi_le.rf) | exact zi_pl_cond (zi_pl_nx zi_pl_put) | exact zi_pl_cond (zi_pl_bind fun _ => zi_pl_nx zi_le.rf) | exact zi_pl_bind (fun _ => zi_pl_nx zi_le.rf) | exact zi_pl_cond zi_pl_alloc
theorem zi_pl_aast {S : zi_S} {pc : Nat} {L : zi_L} {st : List Value} : zi_pl S (zi_aast pc L st S) := by
  unfold zi_aast
  (repeat' split) <;> first | exact zi_pl_none | exact zi_pl_nx zi_le.rf | exact zi_pl_br | exact zi_pl_cond (zi_pl_nx zi_le.rf) | exact zi_pl_cond (zi_pl_nx zi_pl_put) | exact zi_pl_cond (zi_pl_bind fun _ => zi_pl_nx zi_le.rf) | exact zi_pl_bind (fun _ => zi_pl_nx zi_le.rf) | exact zi_pl_cond zi_pl_alloc
theorem zi_pl_alen {S : zi_S} {pc : Nat} {L : zi_L} {st : List Value} : zi_pl S (zi_alen pc L st S) := by
  unfold zi_alen
  (repeat' split) <;> first | exact zi_pl_none | exact zi_pl_nx zi_le.rf | exact zi_pl_br | exact zi_pl_cond (zi_pl_nx zi_le.rf) | exact zi_pl_cond (zi_pl_nx zi_pl_put) | exact zi_pl_cond (zi_pl_bind fun _ => zi_pl_nx zi_le.rf) | exact zi_pl_bind (fun _ => zi_pl_nx zi_le.rf) | exact zi_pl_cond zi_pl_alloc
theorem zi_pl_cpy {S : zi_S} {pc : Nat} {L : zi_L} {st : List Value} : zi_pl S (zi_cpy pc L st S) := by
  unfold zi_cpy
  (repeat' split) <;> first | exact zi_pl_none | exact zi_pl_nx zi_le.rf | exact zi_pl_br | exact zi_pl_cond (zi_pl_nx zi_le.rf) | exact zi_pl_cond (zi_pl_nx zi_pl_put) | exact zi_pl_cond (zi_pl_bind fun _ => zi_pl_nx zi_le.rf) | exact zi_pl_bind (fun _ => zi_pl_nx zi_le.rf) | exact zi_pl_cond zi_pl_alloc
theorem zi_pl_mka {S : zi_S} {n : Nat} {pc : Nat} {L : zi_L} {st : List Value} {t : Nat} : zi_pl S (zi_mka n pc L st S t) := by
  unfold zi_mka
  (repeat' split) <;> first | exact zi_pl_none | exact zi_pl_nx zi_le.rf | exact zi_pl_br | exact zi_pl_cond (zi_pl_nx zi_le.rf) | exact zi_pl_cond (zi_pl_nx zi_pl_put) | exact zi_pl_cond (zi_pl_bind fun _ => zi_pl_nx zi_le.rf) | exact zi_pl_bind (fun _ => zi_pl_nx zi_le.rf) | exact zi_pl_cond zi_pl_alloc
theorem zi_pl_m2 {S : zi_S} {pc : Nat} {L : zi_L} {st : List Value} {f2 : Int32 → Int32 → Int32} : zi_pl S (zi_m2 pc L st S f2) := by
  unfold zi_m2
  (repeat' split) <;> first | exact zi_pl_none | exact zi_pl_nx zi_le.rf | exact zi_pl_br | exact zi_pl_cond (zi_pl_nx zi_le.rf) | exact zi_pl_cond (zi_pl_nx zi_pl_put) | exact zi_pl_cond (zi_pl_bind fun _ => zi_pl_nx zi_le.rf) | exact zi_pl_bind (fun _ => zi_pl_nx zi_le.rf) | exact zi_pl_cond zi_pl_alloc
theorem zi_pl_getf {S : zi_S} {pc : Nat} {L : zi_L} {st : List Value} {x : Nat} {y : Nat} : zi_pl S (zi_getf pc L st S x y) := by
  unfold zi_getf
  split
  · split
    · refine zi_pl_cond ?_
      split
      · exact zi_pl_nx zi_le.rf
      · exact zi_pl_none
    · exact zi_pl_none
  · exact zi_pl_none
theorem zi_ex_kind {rt pc : Nat} {q : zi_I} {L : zi_L} {st : List Value} {S : zi_S} : zi_pl S (zi_ex rt q pc L st S) ∨ (∃ ix, q.1 = .invokevirtual ix ∧ zi_ex rt q pc L st S = zi_inv st S q.2.2.1 q.2.2.2.1) ∨ (∃ ix, q.1 = .invokespecial ix ∧ q.2.2.1 ≠ 9000 ∧ zi_ex rt q pc L st S = zi_inv st S q.2.2.1 q.2.2.2.1) ∨ (∃ ix, q.1 = .invokestatic ix ∧ q.2.2.1 ≠ 9001 ∧ q.2.2.1 ≠ 9002 ∧ q.2.2.1 ≠ 9003 ∧ zi_ex rt q pc L st S = zi_invs st q.2.2.1 q.2.2.2.1) ∨ ((q.1 = .ireturn ∨ q.1 = .lreturn ∨ q.1 = .return_) ∧ ∀ o, zi_ex rt q pc L st S = some o → ∃ v, o = .inr (.inl v)) := by
  obtain ⟨i, len, x, y, z⟩ := q
  cases i with
  | iconst => 
    left
    exact zi_pl_nx zi_le.rf
  | bipush => 
    left
    exact zi_pl_nx zi_le.rf
  | sipush => 
    left
    exact zi_pl_nx zi_le.rf
  | lconst => 
    left
    exact zi_pl_nx zi_le.rf
  | ldc => 
    left
    exact zi_pl_nx zi_le.rf
  | ldc_w => 
    left
    exact zi_pl_nx zi_le.rf
  | ldc2_w => 
    left
    exact zi_pl_nx zi_le.rf
  | getstatic => 
    left
    exact zi_pl_nx zi_le.rf
  | iload_n => 
    left
    exact zi_pl_lod
  | iload => 
    left
    exact zi_pl_lod
  | lload_n => 
    left
    exact zi_pl_lod
  | lload => 
    left
    exact zi_pl_lod
  | aload_n => 
    left
    exact zi_pl_lod
  | aload => 
    left
    exact zi_pl_lod
  | istore_n => 
    left
    exact zi_pl_sto
  | istore => 
    left
    exact zi_pl_sto
  | astore_n => 
    left
    exact zi_pl_sto
  | astore => 
    left
    exact zi_pl_sto
  | lstore_n => 
    left
    exact zi_pl_sto2
  | lstore => 
    left
    exact zi_pl_sto2
  | iinc => 
    left
    simp only [zi_ex]
    (repeat' split) <;> first | exact zi_pl_none | exact zi_pl_nx zi_le.rf | exact zi_pl_cond (zi_pl_nx zi_le.rf) | exact zi_pl_bind (fun _ => zi_pl_nx zi_le.rf)
  | iadd => 
    left
    exact zi_pl_i2
  | isub => 
    left
    exact zi_pl_i2
  | imul => 
    left
    exact zi_pl_i2
  | iand => 
    left
    exact zi_pl_i2
  | ior => 
    left
    exact zi_pl_i2
  | ixor => 
    left
    exact zi_pl_i2
  | ishl => 
    left
    exact zi_pl_i2
  | ishr => 
    left
    exact zi_pl_i2
  | iushr => 
    left
    exact zi_pl_i2
  | idiv => 
    left
    simp only [zi_ex]
    (repeat' split) <;> first | exact zi_pl_none | exact zi_pl_nx zi_le.rf | exact zi_pl_cond (zi_pl_nx zi_le.rf) | exact zi_pl_bind (fun _ => zi_pl_nx zi_le.rf)
  | irem => 
    left
    simp only [zi_ex]
    (repeat' split) <;> first | exact zi_pl_none | exact zi_pl_nx zi_le.rf | exact zi_pl_cond (zi_pl_nx zi_le.rf) | exact zi_pl_bind (fun _ => zi_pl_nx zi_le.rf)
  | ineg => 
    left
    exact zi_pl_i1
  | i2b => 
    left
    exact zi_pl_i1
  | i2s => 
    left
    exact zi_pl_i1
  | i2c => 
    left
    exact zi_pl_i1
  | i2l => 
    left
    simp only [zi_ex]
    (repeat' split) <;> first | exact zi_pl_none | exact zi_pl_nx zi_le.rf | exact zi_pl_cond (zi_pl_nx zi_le.rf) | exact zi_pl_bind (fun _ => zi_pl_nx zi_le.rf)
  | ladd => 
    left
    exact zi_pl_l2
  | lsub => 
    left
    exact zi_pl_l2
  | lmul => 
    left
    exact zi_pl_l2
  | ldiv => 
    left
    simp only [zi_ex]
    (repeat' split) <;> first | exact zi_pl_none | exact zi_pl_nx zi_le.rf | exact zi_pl_cond (zi_pl_nx zi_le.rf) | exact zi_pl_bind (fun _ => zi_pl_nx zi_le.rf)
  | lrem => 
    left
    simp only [zi_ex]
    (repeat' split) <;> first | exact zi_pl_none | exact zi_pl_nx zi_le.rf | exact zi_pl_cond (zi_pl_nx zi_le.rf) | exact zi_pl_bind (fun _ => zi_pl_nx zi_le.rf)
  | lcmp => 
    left
    simp only [zi_ex]
    (repeat' split) <;> first | exact zi_pl_none | exact zi_pl_nx zi_le.rf | exact zi_pl_cond (zi_pl_nx zi_le.rf) | exact zi_pl_bind (fun _ => zi_pl_nx zi_le.rf)
  | dup => 
    left
    simp only [zi_ex]
    (repeat' split) <;> first | exact zi_pl_none | exact zi_pl_nx zi_le.rf | exact zi_pl_cond (zi_pl_nx zi_le.rf) | exact zi_pl_bind (fun _ => zi_pl_nx zi_le.rf)
  | dup2 => 
    left
    simp only [zi_ex]
    (repeat' split) <;> first | exact zi_pl_none | exact zi_pl_nx zi_le.rf | exact zi_pl_cond (zi_pl_nx zi_le.rf) | exact zi_pl_bind (fun _ => zi_pl_nx zi_le.rf)
  | pop => 
    left
    simp only [zi_ex]
    (repeat' split) <;> first | exact zi_pl_none | exact zi_pl_nx zi_le.rf | exact zi_pl_cond (zi_pl_nx zi_le.rf) | exact zi_pl_bind (fun _ => zi_pl_nx zi_le.rf)
  | goto => 
    left
    exact zi_pl_nx zi_le.rf
  | ifCond => 
    left
    exact zi_pl_if1
  | if_icmp => 
    left
    exact zi_pl_if2
  | tableswitch => 
    left
    simp only [zi_ex]
    (repeat' split) <;> first | exact zi_pl_none | exact zi_pl_nx zi_le.rf | exact zi_pl_cond (zi_pl_nx zi_le.rf) | exact zi_pl_bind (fun _ => zi_pl_nx zi_le.rf)
  | lookupswitch => 
    left
    simp only [zi_ex]
    (repeat' split) <;> first | exact zi_pl_none | exact zi_pl_nx zi_le.rf | exact zi_pl_cond (zi_pl_nx zi_le.rf) | exact zi_pl_bind (fun _ => zi_pl_nx zi_le.rf)
  | getfield => 
    left
    exact zi_pl_getf
  | putfield => 
    left
    exact zi_pl_putf
  | iaload => 
    left
    exact zi_pl_ald
  | baload => 
    left
    exact zi_pl_bald
  | laload => 
    left
    exact zi_pl_lald
  | aaload => 
    left
    exact zi_pl_aald
  | iastore => 
    left
    exact zi_pl_ast
  | bastore => 
    left
    exact zi_pl_ast
  | lastore => 
    left
    exact zi_pl_last
  | aastore => 
    left
    exact zi_pl_aast
  | arraylength => 
    left
    exact zi_pl_alen
  | anewarray => 
    left
    exact zi_pl_mka
  | new => 
    left
    exact zi_pl_cond zi_pl_alloc
  | newarray t =>
    left
    cases t <;> first | exact zi_pl_mka | exact zi_pl_none
  | invokevirtual ix => exact Or.inr (Or.inl ⟨ix, rfl, rfl⟩)
  | invokespecial ix =>
    cases hb9 : Nat.beq x 9000 with
    | true =>
      left
      simp only [zi_ex, hb9, cond_true]
      split
      · exact zi_pl_cond (zi_pl_nx zi_le.rf)
      · exact zi_pl_none
    | false => exact Or.inr (Or.inr (Or.inl ⟨ix, rfl, (fun h => by rw [show x = 9000 from h] at hb9; exact absurd hb9 (by decide)), by simp only [zi_ex, hb9, cond_false]⟩))
  | invokestatic ix =>
    by_cases h1 : x = 9001
    · subst h1
      exact Or.inl zi_pl_m2
    · by_cases h2 : x = 9002
      · subst h2
        exact Or.inl zi_pl_m2
      · by_cases h3 : x = 9003
        · subst h3
          exact Or.inl zi_pl_cpy
        · refine Or.inr (Or.inr (Or.inr (Or.inl ⟨ix, rfl, h1, h2, h3, ?_⟩)))
          simp only [zi_ex]
  | ireturn =>
    refine Or.inr (Or.inr (Or.inr (Or.inr ⟨Or.inl rfl, fun o h => ?_⟩)))
    simp only [zi_ex] at h
    (repeat' split at h) <;> first | (cases h; done) | (cases h; exact ⟨_, rfl⟩)
  | lreturn =>
    refine Or.inr (Or.inr (Or.inr (Or.inr ⟨Or.inr (Or.inl rfl), fun o h => ?_⟩)))
    simp only [zi_ex] at h
    (repeat' split at h) <;> first | (cases h; done) | (cases h; exact ⟨_, rfl⟩)
  | return_ =>
    refine Or.inr (Or.inr (Or.inr (Or.inr ⟨Or.inr (Or.inr rfl), fun o h => ?_⟩)))
    simp only [zi_ex] at h
    (repeat' split at h) <;> first | (cases h; done) | (cases h; exact ⟨_, rfl⟩)
  | _ => exact Or.inl zi_pl_none
