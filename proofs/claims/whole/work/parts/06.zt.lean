/-! ===== the steps, by their kinds ===== -/
section ZT
variable {p : Program} {l : Launch} {e : Env} {R : Room} {s : State} {m : MethodId} {args : Array Value} {below : List Frame} {meth : Method} {c : Code} {Q : State → Prop} {D : va_G} {cy : Nat → ClassId} {A : Nat → Prop} {cc : ByteArray} {nL n0 k0 s0 o rt n i : Nat} {nm : String} {ad0 : Nat → Nat} {pc pc' : Nat} {L L' : zi_L} {st st' : List Value} {S S' : zi_S}
theorem zi_q_push {v : Value} (hv : v.category = 1 ∨ v.category = 2) (hv2 : ∀ n, zi_ok n v) (hv3 : ∀ ad, zi_v ad v = v) (row : ∀ {H : Heap} {locs : List Loc} {cells slots : Nat} {ls : Array Slot} {rest : List Value}, W p l e R s m args below meth c H locs cells slots Q (F0 m (pc + n) ls (v :: rest)) → W p l e R s m args below meth c H locs cells slots Q (F0 m pc ls rest)) (hex : zi_nx (pc + n) L (v :: st) S = some (.inl (pc', L', st', S'))) (kk : zi_Go p l e R s m args below meth c Q D cy A nL n0 ad0 k0 s0 pc' L' st' S') : zi_Go p l e R s m args below meth c Q D cy A nL n0 ad0 k0 s0 pc L st S := by
  obtain ⟨rfl, rfl, rfl, rfl⟩ := zi_nx_inv hex
  intro ad ls H locs hag hH hL hst
  have k := kk ad ls H locs hag hH hL (zi_all_cons (hv2 _) hst)
  rw [List.map_cons, hv3] at k
  exact row k
theorem zi_q_i1 {f : Int32 → Int32} (row : ∀ {H : Heap} {locs : List Loc} {cells slots : Nat} {ls : Array Slot} {rest : List Value} {x : Int32}, W p l e R s m args below meth c H locs cells slots Q (F0 m (pc + 1) ls (.int (f x) :: rest)) → W p l e R s m args below meth c H locs cells slots Q (F0 m pc ls (.int x :: rest))) (hex : zi_i1 pc L st S f = some (.inl (pc', L', st', S'))) (kk : zi_Go p l e R s m args below meth c Q D cy A nL n0 ad0 k0 s0 pc' L' st' S') : zi_Go p l e R s m args below meth c Q D cy A nL n0 ad0 k0 s0 pc L st S := by
  obtain ⟨x, r, rfl, rfl, rfl, rfl, rfl⟩ := zi_i1_inv hex
  intro ad ls H locs hag hH hL hst
  exact row (kk ad ls H locs hag hH hL (zi_all_cons trivial (zi_all_tail hst)))
theorem zi_q_i2 {f : Int32 → Int32 → Int32} (row : ∀ {H : Heap} {locs : List Loc} {cells slots : Nat} {ls : Array Slot} {rest : List Value} {x y : Int32}, W p l e R s m args below meth c H locs cells slots Q (F0 m (pc + 1) ls (.int (f x y) :: rest)) → W p l e R s m args below meth c H locs cells slots Q (F0 m pc ls (.int y :: .int x :: rest))) (hex : zi_i2 pc L st S f = some (.inl (pc', L', st', S'))) (kk : zi_Go p l e R s m args below meth c Q D cy A nL n0 ad0 k0 s0 pc' L' st' S') : zi_Go p l e R s m args below meth c Q D cy A nL n0 ad0 k0 s0 pc L st S := by
  obtain ⟨x, y, r, rfl, rfl, rfl, rfl, rfl⟩ := zi_i2_inv hex
  intro ad ls H locs hag hH hL hst
  exact row (kk ad ls H locs hag hH hL (zi_all_cons trivial (zi_all_tail (zi_all_tail hst))))
theorem zi_q_l2 {f : Int64 → Int64 → Int64} (row : ∀ {H : Heap} {locs : List Loc} {cells slots : Nat} {ls : Array Slot} {rest : List Value} {x y : Int64}, W p l e R s m args below meth c H locs cells slots Q (F0 m (pc + 1) ls (.long (f x y) :: rest)) → W p l e R s m args below meth c H locs cells slots Q (F0 m pc ls (.long y :: .long x :: rest))) (hex : zi_l2 pc L st S f = some (.inl (pc', L', st', S'))) (kk : zi_Go p l e R s m args below meth c Q D cy A nL n0 ad0 k0 s0 pc' L' st' S') : zi_Go p l e R s m args below meth c Q D cy A nL n0 ad0 k0 s0 pc L st S := by
  obtain ⟨x, y, r, rfl, rfl, rfl, rfl, rfl⟩ := zi_l2_inv hex
  intro ad ls H locs hag hH hL hst
  exact row (kk ad ls H locs hag hH hL (zi_all_cons trivial (zi_all_tail (zi_all_tail hst))))
theorem zi_q_iload (row : ∀ {H : Heap} {locs : List Loc} {cells slots : Nat} {ls : Array Slot} {rest : List Value} {x : Int32}, ls[i]? = some (.val (.int x)) → W p l e R s m args below meth c H locs cells slots Q (F0 m (pc + n) ls (.int x :: rest)) → W p l e R s m args below meth c H locs cells slots Q (F0 m pc ls rest)) (hex : zi_lod n pc L st S i zi_kI = some (.inl (pc', L', st', S'))) (kk : zi_Go p l e R s m args below meth c Q D cy A nL n0 ad0 k0 s0 pc' L' st' S') : zi_Go p l e R s m args below meth c Q D cy A nL n0 ad0 k0 s0 pc L st S := by
  obtain ⟨v, hv, hk, rfl, rfl, rfl, rfl⟩ := zi_lod_inv hex
  obtain ⟨x, rfl⟩ := zi_kI_inv hk
  intro ad ls H locs hag hH hL hst
  exact row (hL.2.2.2 _ _ hv).1 (kk ad ls H locs hag hH hL (zi_all_cons trivial hst))
theorem zi_q_lload (row : ∀ {H : Heap} {locs : List Loc} {cells slots : Nat} {ls : Array Slot} {rest : List Value} {x : Int64}, ls[i]? = some (.val (.long x)) → W p l e R s m args below meth c H locs cells slots Q (F0 m (pc + n) ls (.long x :: rest)) → W p l e R s m args below meth c H locs cells slots Q (F0 m pc ls rest)) (hex : zi_lod n pc L st S i zi_kL = some (.inl (pc', L', st', S'))) (kk : zi_Go p l e R s m args below meth c Q D cy A nL n0 ad0 k0 s0 pc' L' st' S') : zi_Go p l e R s m args below meth c Q D cy A nL n0 ad0 k0 s0 pc L st S := by
  obtain ⟨v, hv, hk, rfl, rfl, rfl, rfl⟩ := zi_lod_inv hex
  obtain ⟨x, rfl⟩ := zi_kL_inv hk
  intro ad ls H locs hag hH hL hst
  exact row (hL.2.2.2 _ _ hv).1 (kk ad ls H locs hag hH hL (zi_all_cons trivial hst))
theorem zi_q_aload (row : ∀ {H : Heap} {locs : List Loc} {cells slots : Nat} {ls : Array Slot} {rest : List Value} {x : Nat}, ls[i]? = some (.val (.ref x)) → W p l e R s m args below meth c H locs cells slots Q (F0 m (pc + n) ls (.ref x :: rest)) → W p l e R s m args below meth c H locs cells slots Q (F0 m pc ls rest)) (hex : zi_lod n pc L st S i zi_kR = some (.inl (pc', L', st', S'))) (kk : zi_Go p l e R s m args below meth c Q D cy A nL n0 ad0 k0 s0 pc' L' st' S') : zi_Go p l e R s m args below meth c Q D cy A nL n0 ad0 k0 s0 pc L st S := by
  obtain ⟨v, hv, hk, rfl, rfl, rfl, rfl⟩ := zi_lod_inv hex
  obtain ⟨x, rfl⟩ := zi_kR_inv hk
  intro ad ls H locs hag hH hL hst
  exact row (hL.2.2.2 _ _ hv).1 (kk ad ls H locs hag hH hL (zi_all_cons (hL.2.2.2 _ _ hv).2 hst))
theorem zi_q_istore (row : ∀ {H : Heap} {locs : List Loc} {cells slots : Nat} {ls : Array Slot} {rest : List Value} {x : Int32} {lv : List (Nat × Value)}, lv_has ls nL lv → i < nL → (∀ ls' : Array Slot, lv_has ls' nL ((i, Value.int x) :: lv.filter (fun q => !(q.1 == i) && !(q.1 + 1 == i && q.2.category == 2))) → W p l e R s m args below meth c H locs cells slots Q (F0 m (pc + n) ls' rest)) → W p l e R s m args below meth c H locs cells slots Q (F0 m pc ls (.int x :: rest))) (hex : zi_sto n pc L st S i zi_kI = some (.inl (pc', L', st', S'))) (kk : zi_Go p l e R s m args below meth c Q D cy A nL n0 ad0 k0 s0 pc' L' st' S') : zi_Go p l e R s m args below meth c Q D cy A nL n0 ad0 k0 s0 pc L st S := by
  obtain ⟨v, rfl, hk, h1, rfl, rfl⟩ := zi_sto_inv hex
  obtain ⟨x, rfl⟩ := zi_kI_inv hk
  intro ad ls H locs hag hH hL hst
  exact row hL.has (by rw [← hL.2.1]; exact (zi_st1_inv h1).1) fun ls' hl' => kk ad ls' H locs hag hH (hL.st1 h1 trivial hl') (zi_all_tail hst)
theorem zi_q_astore (row : ∀ {H : Heap} {locs : List Loc} {cells slots : Nat} {ls : Array Slot} {rest : List Value} {x : Nat} {lv : List (Nat × Value)}, lv_has ls nL lv → i < nL → (∀ ls' : Array Slot, lv_has ls' nL ((i, Value.ref x) :: lv.filter (fun q => !(q.1 == i) && !(q.1 + 1 == i && q.2.category == 2))) → W p l e R s m args below meth c H locs cells slots Q (F0 m (pc + n) ls' rest)) → W p l e R s m args below meth c H locs cells slots Q (F0 m pc ls (.ref x :: rest))) (hex : zi_sto n pc L st S i zi_kR = some (.inl (pc', L', st', S'))) (kk : zi_Go p l e R s m args below meth c Q D cy A nL n0 ad0 k0 s0 pc' L' st' S') : zi_Go p l e R s m args below meth c Q D cy A nL n0 ad0 k0 s0 pc L st S := by
  obtain ⟨v, rfl, hk, h1, rfl, rfl⟩ := zi_sto_inv hex
  obtain ⟨x, rfl⟩ := zi_kR_inv hk
  intro ad ls H locs hag hH hL hst
  exact row hL.has (by rw [← hL.2.1]; exact (zi_st1_inv h1).1) fun ls' hl' => kk ad ls' H locs hag hH (hL.st1 h1 (zi_all_head hst) hl') (zi_all_tail hst)
theorem zi_q_lstore (row : ∀ {H : Heap} {locs : List Loc} {cells slots : Nat} {ls : Array Slot} {rest : List Value} {x : Int64} {lv : List (Nat × Value)}, lv_has ls nL lv → i + 1 < nL → (∀ ls' : Array Slot, lv_has ls' nL ((i, Value.long x) :: lv.filter (fun q => !(q.1 == i) && (!(q.1 == i + 1) && !(q.1 + 1 == i && q.2.category == 2)))) → W p l e R s m args below meth c H locs cells slots Q (F0 m (pc + n) ls' rest)) → W p l e R s m args below meth c H locs cells slots Q (F0 m pc ls (.long x :: rest))) (hex : zi_sto2 n pc L st S i = some (.inl (pc', L', st', S'))) (kk : zi_Go p l e R s m args below meth c Q D cy A nL n0 ad0 k0 s0 pc' L' st' S') : zi_Go p l e R s m args below meth c Q D cy A nL n0 ad0 k0 s0 pc L st S := by
  obtain ⟨x, rfl, h1, rfl, rfl⟩ := zi_sto2_inv hex
  intro ad ls H locs hag hH hL hst
  exact row hL.has (by rw [← hL.2.1]; exact (zi_st2_inv h1).1) fun ls' hl' => kk ad ls' H locs hag hH (hL.st2 h1 trivial hl') (zi_all_tail hst)
theorem zi_q_br {b : Prop} [Decidable b] {tgt : Nat} {r : List Value} (row : ∀ {H : Heap} {locs : List Loc} {cells slots : Nat} {ls : Array Slot} {rest : List Value}, (b → W p l e R s m args below meth c H locs cells slots Q (F0 m tgt ls rest)) → (¬ b → W p l e R s m args below meth c H locs cells slots Q (F0 m (pc + 3) ls rest)) → W p l e R s m args below meth c H locs cells slots Q (F0 m pc ls (st.map (zi_v ad0) ++ rest))) (hst0 : ∀ ad, st.map (zi_v ad) = st.map (zi_v ad0)) (hex : zi_br pc tgt L r S b = some (.inl (pc', L', st', S'))) (kk : zi_Go p l e R s m args below meth c Q D cy A nL n0 ad0 k0 s0 pc' L' st' S') : zi_Go p l e R s m args below meth c Q D cy A nL n0 ad0 k0 s0 pc L (st ++ r) S := by
  obtain ⟨rfl, rfl, rfl, h1, h2⟩ := zi_br_inv hex
  intro ad ls H locs hag hH hL hst
  rw [List.map_append, hst0 ad]
  refine row (fun hb => ?_) (fun hb => ?_)
  · have := kk ad ls H locs hag hH hL (fun v hv => hst v (List.mem_append_right _ hv))
    rw [h1 hb] at this
    exact this
  · have := kk ad ls H locs hag hH hL (fun v hv => hst v (List.mem_append_right _ hv))
    rw [h2 hb] at this
    exact this
end ZT
