def zi_p (f : zi_L → Option zi_O) : Prop := ∀ L L2 o, f L = some o → f L2 = some (zi_sl L2 o)
theorem zi_p_none : zi_p (fun _ => none) := fun _ _ _ h => by cases h
theorem zi_p_nx {a : Nat} {c : List Value} {d : zi_S} : zi_p (fun L => zi_nx a L c d) := fun _ _ _ h => by
  cases h
  rfl
theorem zi_p_k {w : Option Value ⊕ (Nat × List Value × List Value)} : zi_p (fun _ => some (.inr w)) := fun _ _ _ h => by
  cases h
  rfl
theorem zi_p_cond {b : Bool} {f : zi_L → Option zi_O} (hf : zi_p f) : zi_p (fun L => cond b (f L) none) := by
  cases b
  · exact zi_p_none
  · exact hf
theorem zi_p_ite {b : Prop} [Decidable b] {f g : zi_L → Option zi_O} (hf : zi_p f) (hg : zi_p g) : zi_p (fun L => if b then f L else g L) := by
  by_cases h : b
  · simp only [if_pos h]
    exact hf
  · simp only [if_neg h]
    exact hg
theorem zi_p_i1 {pc : Nat} {st : List Value} {S : zi_S} {f : Int32 → Int32} : zi_p (fun L => zi_i1 pc L st S f) := by
  unfold zi_i1
  rcases st with _ | ⟨v0, st⟩
  · exact zi_p_none
  cases v0 with
  | int x =>
    exact zi_p_nx
  | _ => exact zi_p_none
theorem zi_p_i2 {pc : Nat} {st : List Value} {S : zi_S} {f : Int32 → Int32 → Int32} : zi_p (fun L => zi_i2 pc L st S f) := by
  unfold zi_i2
  rcases st with _ | ⟨v0, st⟩
  · exact zi_p_none
  cases v0 with
  | int x =>
    rcases st with _ | ⟨v1, st⟩
    · exact zi_p_none
    cases v1 with
    | int y =>
      exact zi_p_nx
    | _ => exact zi_p_none
  | _ => exact zi_p_none
theorem zi_p_m2 {pc : Nat} {st : List Value} {S : zi_S} {f : Int32 → Int32 → Int32} : zi_p (fun L => zi_m2 pc L st S f) := by
  unfold zi_m2
  rcases st with _ | ⟨v0, st⟩
  · exact zi_p_none
  cases v0 with
  | int x =>
    rcases st with _ | ⟨v1, st⟩
    · exact zi_p_none
    cases v1 with
    | int y =>
      exact zi_p_cond zi_p_nx
    | _ => exact zi_p_none
  | _ => exact zi_p_none
theorem zi_p_l2 {pc : Nat} {st : List Value} {S : zi_S} {f : Int64 → Int64 → Int64} : zi_p (fun L => zi_l2 pc L st S f) := by
  unfold zi_l2
  rcases st with _ | ⟨v0, st⟩
  · exact zi_p_none
  cases v0 with
  | long x =>
    rcases st with _ | ⟨v1, st⟩
    · exact zi_p_none
    cases v1 with
    | long y =>
      exact zi_p_nx
    | _ => exact zi_p_none
  | _ => exact zi_p_none
theorem zi_p_if1 {pc t : Nat} {st : List Value} {S : zi_S} {q : ClassFile.Cond} : zi_p (fun L => zi_if1 pc t L st S q) := by
  unfold zi_if1
  rcases st with _ | ⟨v0, st⟩
  · exact zi_p_none
  cases v0 with
  | int x =>
    cases q <;> exact zi_p_ite zi_p_nx zi_p_nx
  | _ => exact zi_p_none
theorem zi_p_if2 {pc t : Nat} {st : List Value} {S : zi_S} {q : ClassFile.Cond} : zi_p (fun L => zi_if2 pc t L st S q) := by
  unfold zi_if2
  rcases st with _ | ⟨v0, st⟩
  · exact zi_p_none
  cases v0 with
  | int x =>
    rcases st with _ | ⟨v1, st⟩
    · exact zi_p_none
    cases v1 with
    | int y =>
      cases q <;> exact zi_p_ite zi_p_nx zi_p_nx
    | _ => exact zi_p_none
  | _ => exact zi_p_none
theorem zi_p_getf {pc x y : Nat} {st : List Value} {S : zi_S} : zi_p (fun L => zi_getf pc L st S x y) := by
  unfold zi_getf
  rcases st with _ | ⟨v0, st⟩
  · exact zi_p_none
  cases v0 with
  | ref a =>
    dsimp only
    generalize S.1 a = cell
    rcases cell with ⟨t1, n1, f1 | f1 | f1 | f1 | f1⟩ | ⟨ci, fs⟩
    · exact zi_p_none
    · exact zi_p_none
    · exact zi_p_none
    · exact zi_p_none
    · exact zi_p_none
    refine zi_p_cond ?_
    generalize fs[y]? = fo
    cases fo
    · exact zi_p_none
    · exact zi_p_nx
  | _ => exact zi_p_none
theorem zi_p_putf {pc x y : Nat} {st : List Value} {S : zi_S} : zi_p (fun L => zi_putf pc L st S x y) := by
  unfold zi_putf
  rcases st with _ | ⟨v, st⟩
  · exact zi_p_none
  rcases st with _ | ⟨w, st⟩
  · exact zi_p_none
  cases w with
  | ref a =>
    dsimp only
    generalize S.1 a = cell
    rcases cell with ⟨t1, n1, f1 | f1 | f1 | f1 | f1⟩ | ⟨ci, fs⟩ <;> first | exact zi_p_none | exact zi_p_cond zi_p_nx
  | _ => exact zi_p_none
theorem zi_p_ald {pc t : Nat} {st : List Value} {S : zi_S} : zi_p (fun L => zi_ald pc L st S t) := by
  unfold zi_ald
  rcases st with _ | ⟨v0, st⟩
  · exact zi_p_none
  cases v0 with
  | int i =>
    rcases st with _ | ⟨v1, st⟩
    · exact zi_p_none
    cases v1 with
    | ref a =>
      dsimp only
      generalize S.1 a = cell
      rcases cell with ⟨t1, n1, f1 | f1 | f1 | f1 | f1⟩ | ⟨ci, fs⟩ <;> first | exact zi_p_none | exact zi_p_cond zi_p_nx
    | _ => exact zi_p_none
  | _ => exact zi_p_none
theorem zi_p_bald {pc : Nat} {st : List Value} {S : zi_S} : zi_p (fun L => zi_bald pc L st S) := by
  unfold zi_bald
  rcases st with _ | ⟨v0, st⟩
  · exact zi_p_none
  cases v0 with
  | int i =>
    rcases st with _ | ⟨v1, st⟩
    · exact zi_p_none
    cases v1 with
    | ref a =>
      dsimp only
      generalize S.1 a = cell
      rcases cell with ⟨t1, n1, f1 | f1 | f1 | f1 | f1⟩ | ⟨ci, fs⟩ <;> first | exact zi_p_none | exact zi_p_cond zi_p_nx
    | _ => exact zi_p_none
  | _ => exact zi_p_none
theorem zi_p_lald {pc : Nat} {st : List Value} {S : zi_S} : zi_p (fun L => zi_lald pc L st S) := by
  unfold zi_lald
  rcases st with _ | ⟨v0, st⟩
  · exact zi_p_none
  cases v0 with
  | int i =>
    rcases st with _ | ⟨v1, st⟩
    · exact zi_p_none
    cases v1 with
    | ref a =>
      dsimp only
      generalize S.1 a = cell
      rcases cell with ⟨t1, n1, f1 | f1 | f1 | f1 | f1⟩ | ⟨ci, fs⟩ <;> first | exact zi_p_none | exact zi_p_cond zi_p_nx
    | _ => exact zi_p_none
  | _ => exact zi_p_none
theorem zi_p_aald {pc : Nat} {st : List Value} {S : zi_S} : zi_p (fun L => zi_aald pc L st S) := by
  unfold zi_aald
  rcases st with _ | ⟨v0, st⟩
  · exact zi_p_none
  cases v0 with
  | int i =>
    rcases st with _ | ⟨v1, st⟩
    · exact zi_p_none
    cases v1 with
    | ref a =>
      dsimp only
      generalize S.1 a = cell
      rcases cell with ⟨t1, n1, f1 | f1 | f1 | f1 | f1⟩ | ⟨ci, fs⟩ <;> first | exact zi_p_none | exact zi_p_cond zi_p_nx
    | _ => exact zi_p_none
  | _ => exact zi_p_none
theorem zi_p_ast {pc t : Nat} {g : Int32 → Int32} {st : List Value} {S : zi_S} : zi_p (fun L => zi_ast pc L st S t g) := by
  unfold zi_ast
  rcases st with _ | ⟨v0, st⟩
  · exact zi_p_none
  cases v0 with
  | int v =>
    rcases st with _ | ⟨v1, st⟩
    · exact zi_p_none
    cases v1 with
    | int i =>
      rcases st with _ | ⟨v2, st⟩
      · exact zi_p_none
      cases v2 with
      | ref a =>
        dsimp only
        generalize S.1 a = cell
        rcases cell with ⟨t1, n1, f1 | f1 | f1 | f1 | f1⟩ | ⟨ci, fs⟩ <;> first | exact zi_p_none | exact zi_p_cond zi_p_nx
      | _ => exact zi_p_none
    | _ => exact zi_p_none
  | _ => exact zi_p_none
theorem zi_p_last {pc : Nat} {st : List Value} {S : zi_S} : zi_p (fun L => zi_last pc L st S) := by
  unfold zi_last
  rcases st with _ | ⟨v0, st⟩
  · exact zi_p_none
  cases v0 with
  | long v =>
    rcases st with _ | ⟨v1, st⟩
    · exact zi_p_none
    cases v1 with
    | int i =>
      rcases st with _ | ⟨v2, st⟩
      · exact zi_p_none
      cases v2 with
      | ref a =>
        dsimp only
        generalize S.1 a = cell
        rcases cell with ⟨t1, n1, f1 | f1 | f1 | f1 | f1⟩ | ⟨ci, fs⟩ <;> first | exact zi_p_none | exact zi_p_cond zi_p_nx
      | _ => exact zi_p_none
    | _ => exact zi_p_none
  | _ => exact zi_p_none
theorem zi_p_aast {pc : Nat} {st : List Value} {S : zi_S} : zi_p (fun L => zi_aast pc L st S) := by
  unfold zi_aast
  rcases st with _ | ⟨v0, st⟩
  · exact zi_p_none
  cases v0 with
  | ref b =>
    rcases st with _ | ⟨v1, st⟩
    · exact zi_p_none
    cases v1 with
    | int i =>
      rcases st with _ | ⟨v2, st⟩
      · exact zi_p_none
      cases v2 with
      | ref a =>
        dsimp only
        generalize S.1 a = cell
        generalize S.1 b = cell2
        rcases cell with ⟨t1, n1, f1 | f1 | f1 | f1 | f1⟩ | ⟨ci, fs⟩ <;> rcases cell2 with ⟨t2, n2, f2 | f2 | f2 | f2 | f2⟩ | ⟨ci2, fs2⟩ <;> first | exact zi_p_none | exact zi_p_cond zi_p_nx
      | _ => exact zi_p_none
    | _ => exact zi_p_none
  | _ => exact zi_p_none
theorem zi_p_cpy {pc : Nat} {st : List Value} {S : zi_S} : zi_p (fun L => zi_cpy pc L st S) := by
  unfold zi_cpy
  rcases st with _ | ⟨v0, st⟩
  · exact zi_p_none
  cases v0 with
  | int n =>
    rcases st with _ | ⟨v1, st⟩
    · exact zi_p_none
    cases v1 with
    | int dp =>
      rcases st with _ | ⟨v2, st⟩
      · exact zi_p_none
      cases v2 with
      | ref a =>
        rcases st with _ | ⟨v3, st⟩
        · exact zi_p_none
        cases v3 with
        | int sp =>
          rcases st with _ | ⟨v4, st⟩
          · exact zi_p_none
          cases v4 with
          | ref b =>
            dsimp only
            generalize S.1 a = cell
            generalize S.1 b = cell2
            rcases cell with ⟨t1, n1, f1 | f1 | f1 | f1 | f1⟩ | ⟨ci, fs⟩ <;> rcases cell2 with ⟨t2, n2, f2 | f2 | f2 | f2 | f2⟩ | ⟨ci2, fs2⟩ <;> first | exact zi_p_none | exact zi_p_cond zi_p_nx
          | _ => exact zi_p_none
        | _ => exact zi_p_none
      | _ => exact zi_p_none
    | _ => exact zi_p_none
  | _ => exact zi_p_none
theorem zi_p_alen {pc : Nat} {st : List Value} {S : zi_S} : zi_p (fun L => zi_alen pc L st S) := by
  unfold zi_alen
  rcases st with _ | ⟨v0, st⟩
  · exact zi_p_none
  cases v0 with
  | ref a =>
    dsimp only
    generalize S.1 a = cell
    rcases cell with ⟨t1, x1⟩ | ⟨ci, fs⟩
    · exact zi_p_cond zi_p_nx
    · exact zi_p_none
  | _ => exact zi_p_none
theorem zi_p_alloc {n pc w : Nat} {r : List Value} {S : zi_S} {c : zi_C} : zi_p (fun L => zi_alloc n pc L r S c w) := zi_p_cond zi_p_nx
theorem zi_p_mka {n pc t : Nat} {st : List Value} {S : zi_S} : zi_p (fun L => zi_mka n pc L st S t) := by
  unfold zi_mka
  rcases st with _ | ⟨v0, st⟩
  · exact zi_p_none
  cases v0 with
  | int k =>
    exact zi_p_cond zi_p_alloc
  | _ => exact zi_p_none
theorem zi_p_any {r : Option zi_O} (h : ∀ w, r ≠ some (.inl w)) : zi_p (fun _ => r) := fun _ _ o ho => by
  cases o with
  | inl w => exact absurd ho (h w)
  | inr w => exact ho
theorem zi_ex_par {rt pc : Nat} {q : zi_I} {st : List Value} {S : zi_S} (hq : zi_isL q.1 = false) : zi_p (fun L => zi_ex rt q pc L st S) := by
  obtain ⟨i, len, x, y, z⟩ := q
  cases i with
  | iconst => exact zi_p_nx
  | bipush => exact zi_p_nx
  | sipush => exact zi_p_nx
  | lconst => exact zi_p_nx
  | ldc => exact zi_p_nx
  | ldc_w => exact zi_p_nx
  | ldc2_w => exact zi_p_nx
  | goto => exact zi_p_nx
  | iadd => exact zi_p_i2
  | isub => exact zi_p_i2
  | imul => exact zi_p_i2
  | iand => exact zi_p_i2
  | ior => exact zi_p_i2
  | ixor => exact zi_p_i2
  | ishl => exact zi_p_i2
  | ishr => exact zi_p_i2
  | iushr => exact zi_p_i2
  | ineg => exact zi_p_i1
  | i2b => exact zi_p_i1
  | i2s => exact zi_p_i1
  | i2c => exact zi_p_i1
  | ladd => exact zi_p_l2
  | lsub => exact zi_p_l2
  | lmul => exact zi_p_l2
  | ifCond => exact zi_p_if1
  | if_icmp => exact zi_p_if2
  | getfield => exact zi_p_getf
  | putfield => exact zi_p_putf
  | iaload => exact zi_p_ald
  | baload => exact zi_p_bald
  | getstatic => exact zi_p_nx
  | laload => exact zi_p_lald
  | aaload => exact zi_p_aald
  | iastore => exact zi_p_ast
  | bastore => exact zi_p_ast
  | lastore => exact zi_p_last
  | aastore => exact zi_p_aast
  | arraylength => exact zi_p_alen
  | anewarray => exact zi_p_mka
  | iload_n => cases hq
  | iload => cases hq
  | lload_n => cases hq
  | lload => cases hq
  | aload_n => cases hq
  | aload => cases hq
  | istore_n => cases hq
  | istore => cases hq
  | astore_n => cases hq
  | astore => cases hq
  | lstore_n => cases hq
  | lstore => cases hq
  | iinc => cases hq
  | newarray t => cases t <;> first | exact zi_p_mka | exact zi_p_none
  | new ix => exact zi_p_cond zi_p_alloc
  | invokevirtual ix => exact zi_p_any (fun w => zi_inv_nx)
  | invokespecial ix =>
    show zi_p (fun L => zi_ex rt (.invokespecial ix, len, x, y, z) pc L st S)
    simp only [zi_ex]
    cases Nat.beq x 9000
    · exact zi_p_any (fun w => zi_inv_nx)
    · rcases st with _ | ⟨v, st⟩
      · exact zi_p_none
      · cases v with
        | ref a => exact zi_p_cond zi_p_nx
        | _ => exact zi_p_none
  | invokestatic ix =>
    show zi_p (fun L => zi_ex rt (.invokestatic ix, len, x, y, z) pc L st S)
    simp only [zi_ex]
    split
    · exact zi_p_m2
    · exact zi_p_m2
    · exact zi_p_cpy
    · exact zi_p_any (fun w => zi_invs_nx)
  | idiv =>
    rcases st with _ | ⟨v, _ | ⟨w, st⟩⟩
    · exact zi_p_none
    · cases v <;> exact zi_p_none
    · cases v <;> cases w <;> first | exact zi_p_none | exact zi_p_ite zi_p_none zi_p_nx
  | irem =>
    rcases st with _ | ⟨v, _ | ⟨w, st⟩⟩
    · exact zi_p_none
    · cases v <;> exact zi_p_none
    · cases v <;> cases w <;> first | exact zi_p_none | exact zi_p_ite zi_p_none zi_p_nx
  | ldiv =>
    rcases st with _ | ⟨v, _ | ⟨w, st⟩⟩
    · exact zi_p_none
    · cases v <;> exact zi_p_none
    · cases v <;> cases w <;> first | exact zi_p_none | exact zi_p_ite zi_p_none zi_p_nx
  | lrem =>
    rcases st with _ | ⟨v, _ | ⟨w, st⟩⟩
    · exact zi_p_none
    · cases v <;> exact zi_p_none
    · cases v <;> cases w <;> first | exact zi_p_none | exact zi_p_ite zi_p_none zi_p_nx
  | lcmp =>
    rcases st with _ | ⟨v, _ | ⟨w, st⟩⟩
    · exact zi_p_none
    · cases v <;> exact zi_p_none
    · cases v <;> cases w <;> first | exact zi_p_none | exact zi_p_nx
  | i2l =>
    rcases st with _ | ⟨v, st⟩
    · exact zi_p_none
    · cases v <;> first | exact zi_p_none | exact zi_p_nx
  | tableswitch =>
    rcases st with _ | ⟨v, st⟩
    · exact zi_p_none
    · cases v <;> first | exact zi_p_none | exact zi_p_nx
  | lookupswitch =>
    rcases st with _ | ⟨v, st⟩
    · exact zi_p_none
    · cases v <;> first | exact zi_p_none | exact zi_p_nx
  | dup =>
    rcases st with _ | ⟨v, st⟩
    · exact zi_p_none
    · exact zi_p_cond zi_p_nx
  | pop =>
    rcases st with _ | ⟨v, st⟩
    · exact zi_p_none
    · exact zi_p_cond zi_p_nx
  | dup2 =>
    rcases st with _ | ⟨v, _ | ⟨w, st⟩⟩
    · exact zi_p_none
    · exact zi_p_none
    · exact zi_p_cond zi_p_nx
  | ireturn => exact zi_p_any (r := zi_ex rt (.ireturn, len, x, y, z) pc [] st S) (fun w h => by simp only [zi_ex] at h; (repeat' split at h) <;> cases h)
  | lreturn => exact zi_p_any (r := zi_ex rt (.lreturn, len, x, y, z) pc [] st S) (fun w h => by simp only [zi_ex] at h; (repeat' split at h) <;> cases h)
  | return_ => exact zi_p_any (r := zi_ex rt (.return_, len, x, y, z) pc [] st S) (fun w h => by simp only [zi_ex] at h; (repeat' split at h) <;> cases h)
  | _ => exact zi_p_none
def zi_ow (o o2 : zi_O) : Prop := match o, o2 with
  | .inl w, .inl w2 => w2.1 = w.1 ∧ zi_Lle w.2.1 w2.2.1 ∧ w2.2.2 = w.2.2
  | .inr a, .inr b => b = a
  | _, _ => False
theorem zi_lod_wk {n pc i : Nat} {L L2 : zi_L} {st : List Value} {S : zi_S} {kv : Value → Bool} {o : zi_O} (h : zi_Lle L L2) (hex : zi_lod n pc L st S i kv = some o) : ∃ o2, zi_lod n pc L2 st S i kv = some o2 ∧ zi_ow o o2 := by
  unfold zi_lod at hex
  split at hex
  · rename_i v hv
    obtain ⟨h1, h2⟩ := zi_cond_inv hex
    cases h2
    exact ⟨.inl (pc + n, L2, v :: st, S), by simp only [zi_lod, h.ld hv, h1]; rfl, rfl, h, rfl⟩
  · cases hex
theorem zi_sto_wk {n pc i : Nat} {L L2 : zi_L} {st : List Value} {S : zi_S} {kv : Value → Bool} {o : zi_O} (h : zi_Lle L L2) (hex : zi_sto n pc L st S i kv = some o) : ∃ o2, zi_sto n pc L2 st S i kv = some o2 ∧ zi_ow o o2 := by
  unfold zi_sto at hex
  split at hex
  · rename_i v r
    obtain ⟨h1, h2⟩ := zi_cond_inv hex
    obtain ⟨L1, h3, h4⟩ := Option.bind_eq_some_iff.mp h2
    cases h4
    obtain ⟨L3, h5, h6⟩ := h.st1 h3
    exact ⟨.inl (pc + n, L3, r, S), by simp only [zi_sto, h1, h5]; rfl, rfl, h6, rfl⟩
  · cases hex
theorem zi_sto2_wk {n pc i : Nat} {L L2 : zi_L} {st : List Value} {S : zi_S} {o : zi_O} (h : zi_Lle L L2) (hex : zi_sto2 n pc L st S i = some o) : ∃ o2, zi_sto2 n pc L2 st S i = some o2 ∧ zi_ow o o2 := by
  unfold zi_sto2 at hex
  split at hex
  · rename_i v r
    obtain ⟨L1, h3, h4⟩ := Option.bind_eq_some_iff.mp hex
    cases h4
    obtain ⟨L3, h5, h6⟩ := h.st2 h3
    exact ⟨.inl (pc + n, L3, r, S), by simp only [zi_sto2, h5]; rfl, rfl, h6, rfl⟩
  · cases hex
theorem zi_ex_wk {rt pc : Nat} {q : zi_I} {L L2 : zi_L} {st : List Value} {S : zi_S} {o : zi_O} (h : zi_Lle L L2) (hex : zi_ex rt q pc L st S = some o) : ∃ o2, zi_ex rt q pc L2 st S = some o2 ∧ zi_ow o o2 := by
  cases hq : zi_isL q.1 with
  | false =>
    have h1 := zi_ex_par (rt := rt) (pc := pc) (st := st) (S := S) hq L L o hex
    have h2 := zi_ex_par (rt := rt) (pc := pc) (st := st) (S := S) hq L L2 o hex
    refine ⟨_, h2, ?_⟩
    have e : o = zi_sl L o := Option.some.inj (hex.symm.trans h1)
    cases o with
    | inl w =>
      have e2 : w.2.1 = L := by
        have := congrArg (fun q : zi_O => match q with
          | .inl w => w.2.1
          | .inr _ => L) e
        exact this
      exact ⟨rfl, by rw [e2]; exact h, rfl⟩
    | inr w => rfl
  | true =>
    obtain ⟨i, len, x, y, z⟩ := q
    cases i with
    | iload_n n => exact zi_lod_wk h hex
    | iload n => exact zi_lod_wk h hex
    | lload_n n => exact zi_lod_wk h hex
    | lload n => exact zi_lod_wk h hex
    | aload_n n => exact zi_lod_wk h hex
    | aload n => exact zi_lod_wk h hex
    | istore_n n => exact zi_sto_wk h hex
    | istore n => exact zi_sto_wk h hex
    | astore_n n => exact zi_sto_wk h hex
    | astore n => exact zi_sto_wk h hex
    | lstore_n n => exact zi_sto2_wk h hex
    | lstore n => exact zi_sto2_wk h hex
    | iinc i n =>
      simp only [zi_ex] at hex
      split at hex
      · rename_i v hv
        obtain ⟨L1, h3, h4⟩ := Option.bind_eq_some_iff.mp hex
        cases h4
        obtain ⟨L3, h5, h6⟩ := h.st1 h3
        exact ⟨.inl (pc + 3, L3, st, S), by simp only [zi_ex, h.ld hv, h5]; rfl, rfl, h6, rfl⟩
      · cases hex
    | _ => cases hq
theorem zi_steps_wk {P : Nat → Option zi_I} {rt : Nat} {call : Nat → List Value → zi_S → Option (Option Value × zi_S)} : ∀ (f pc : Nat) (L L2 : zi_L) (st : List Value) (S : zi_S) (r : Option Value × zi_S), zi_Lle L L2 → zi_steps P rt call f pc L st S = some r → zi_steps P rt call f pc L2 st S = some r
  | 0, _, _, _, _, _, _, _, h => by cases h
  | f + 1, pc, L, L2, st, S, r, hL, h => by
    simp only [zi_steps] at h
    split at h
    · cases h
    · rename_i q hq
      split at h
      · cases h
      · rename_i w hw
        obtain ⟨o2, h1, h2⟩ := zi_ex_wk hL hw
        cases o2 with
        | inl w2 =>
          obtain ⟨e1, e2, e3⟩ := h2
          rw [zi_st_inl hq h1, e1, e3]
          exact zi_steps_wk f _ _ _ _ _ _ e2 h
        | inr w2 => exact h2.elim
      · rename_i w hw
        obtain ⟨o2, h1, h2⟩ := zi_ex_wk hL hw
        cases o2 with
        | inl w2 => exact h2.elim
        | inr w2 =>
          have h2 : w2 = .inl w := h2
          subst h2
          rw [zi_st_ret hq h1]
          exact h
      · rename_i w hw
        obtain ⟨o2, h1, h2⟩ := zi_ex_wk hL hw
        cases o2 with
        | inl w2 => exact h2.elim
        | inr w2 =>
          have h2 : w2 = .inr w := h2
          subst h2
          split at h
          · cases h
          · rename_i u hu
            rw [zi_st_cal hq h1 hu]
            exact zi_steps_wk f _ _ _ _ _ _ hL h
theorem zr_wk {k : List (Option zi_I)} {rt d pc : Nat} {L : zi_L} (L' : zi_L) {st : List Value} {S S' : zi_S} {v : Option Value} (hL : zi_Lle L' L) (h : zr k rt d pc L' st S v S') : zr k rt d pc L st S v S' := fun pr hp => by
  obtain ⟨f, h⟩ := h pr hp
  exact ⟨f, zi_steps_wk f _ _ _ _ _ _ hL h⟩
