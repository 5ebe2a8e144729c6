/-! ===== a step ===== -/
section ZY
variable {p : Program} {l : Launch} {e : Env} {R : Room} {s : State} {m : MethodId} {args : Array Value} {below : List Frame} {meth : Method} {c : Code} {Q : State → Prop} {D : va_G} {cy : Nat → ClassId} {A : Nat → Prop} {cc : ByteArray} {nL n0 k0 s0 o rt : Nat} {nm : String} {ad0 : Nat → Nat} {pc pc' : Nat} {L L' : zi_L} {st st' : List Value} {S S' : zi_S} {M : Nat → Option zi_MI}
theorem zi_q_if1 {k : ClassFile.Cond} {off : Int} {x : Nat} (X : zi_X p s m args meth c R D cy A cc nL o nm rt ad0) (hd : decode cc pc = .ok (.ifCond k off, 3)) (hg : (pc : Int) + off = x) (hex : zi_if1 pc x L st S k = some (.inl (pc', L', st', S'))) (kk : zi_Go p l e R s m args below meth c Q D cy A nL n0 ad0 k0 s0 pc' L' st' S') : zi_Go p l e R s m args below meth c Q D cy A nL n0 ad0 k0 s0 pc L st S := by
  obtain ⟨hx, hb, -⟩ := X
  unfold zi_if1 at hex
  split at hex
  · rename_i v r
    cases k
    · exact zi_q_br (st := [.int v]) (fun a b => lv_if_eq hx hb hd hg a b) (fun _ => rfl) hex kk
    · exact zi_q_br (st := [.int v]) (fun a b => lv_if_ne hx hb hd hg a (fun q => b (fun r => r q))) (fun _ => rfl) hex kk
    · exact zi_q_br (st := [.int v]) (fun a b => lv_if_lt hx hb hd hg a b) (fun _ => rfl) hex kk
    · exact zi_q_br (st := [.int v]) (fun a b => lv_if_ge hx hb hd hg a b) (fun _ => rfl) hex kk
    · exact zi_q_br (st := [.int v]) (fun a b => lv_if_gt hx hb hd hg a b) (fun _ => rfl) hex kk
    · exact zi_q_br (st := [.int v]) (fun a b => lv_if_le hx hb hd hg a b) (fun _ => rfl) hex kk
  · cases hex
theorem zi_q_if2 {k : ClassFile.Cond} {off : Int} {x : Nat} (X : zi_X p s m args meth c R D cy A cc nL o nm rt ad0) (hd : decode cc pc = .ok (.if_icmp k off, 3)) (hg : (pc : Int) + off = x) (hex : zi_if2 pc x L st S k = some (.inl (pc', L', st', S'))) (kk : zi_Go p l e R s m args below meth c Q D cy A nL n0 ad0 k0 s0 pc' L' st' S') : zi_Go p l e R s m args below meth c Q D cy A nL n0 ad0 k0 s0 pc L st S := by
  obtain ⟨hx, hb, -⟩ := X
  unfold zi_if2 at hex
  split at hex
  · rename_i v w r
    cases k
    · exact zi_q_br (st := [.int v, .int w]) (fun a b => lv_icmp_eq hx hb hd hg a b) (fun _ => rfl) hex kk
    · exact zi_q_br (st := [.int v, .int w]) (fun a b => lv_icmp_ne hx hb hd hg a (fun q => b (fun r => r q))) (fun _ => rfl) hex kk
    · exact zi_q_br (st := [.int v, .int w]) (fun a b => lv_icmp_lt hx hb hd hg a b) (fun _ => rfl) hex kk
    · exact zi_q_br (st := [.int v, .int w]) (fun a b => lv_icmp_ge hx hb hd hg a b) (fun _ => rfl) hex kk
    · exact zi_q_br (st := [.int v, .int w]) (fun a b => lv_icmp_gt hx hb hd hg a b) (fun _ => rfl) hex kk
    · exact zi_q_br (st := [.int v, .int w]) (fun a b => lv_icmp_le hx hb hd hg a b) (fun _ => rfl) hex kk
  · cases hex
theorem zi_q_idiv (X : zi_X p s m args meth c R D cy A cc nL o nm rt ad0) (hd : decode cc pc = .ok (.idiv, 1)) (hex : zi_ex rt (.idiv, 1, 0, 0, []) pc L st S = some (.inl (pc', L', st', S'))) (kk : zi_Go p l e R s m args below meth c Q D cy A nL n0 ad0 k0 s0 pc' L' st' S') : zi_Go p l e R s m args below meth c Q D cy A nL n0 ad0 k0 s0 pc L st S := by
  obtain ⟨hx, hb, -⟩ := X
  simp only [zi_ex] at hex
  split at hex
  · split at hex
    · cases hex
    · rename_i y x r hy
      obtain ⟨rfl, rfl, rfl, rfl⟩ := zi_nx_inv hex
      intro ad ls H locs hag hH hL hst
      exact lv_idiv hx hb hd hy (kk ad ls H locs hag hH hL (zi_all_cons trivial (zi_all_tail (zi_all_tail hst))))
  · cases hex
theorem zi_q_irem (X : zi_X p s m args meth c R D cy A cc nL o nm rt ad0) (hd : decode cc pc = .ok (.irem, 1)) (hex : zi_ex rt (.irem, 1, 0, 0, []) pc L st S = some (.inl (pc', L', st', S'))) (kk : zi_Go p l e R s m args below meth c Q D cy A nL n0 ad0 k0 s0 pc' L' st' S') : zi_Go p l e R s m args below meth c Q D cy A nL n0 ad0 k0 s0 pc L st S := by
  obtain ⟨hx, hb, -⟩ := X
  simp only [zi_ex] at hex
  split at hex
  · split at hex
    · cases hex
    · rename_i y x r hy
      obtain ⟨rfl, rfl, rfl, rfl⟩ := zi_nx_inv hex
      intro ad ls H locs hag hH hL hst
      exact lv_irem hx hb hd hy (kk ad ls H locs hag hH hL (zi_all_cons trivial (zi_all_tail (zi_all_tail hst))))
  · cases hex
theorem zi_q_ldiv (X : zi_X p s m args meth c R D cy A cc nL o nm rt ad0) (hd : decode cc pc = .ok (.ldiv, 1)) (hex : zi_ex rt (.ldiv, 1, 0, 0, []) pc L st S = some (.inl (pc', L', st', S'))) (kk : zi_Go p l e R s m args below meth c Q D cy A nL n0 ad0 k0 s0 pc' L' st' S') : zi_Go p l e R s m args below meth c Q D cy A nL n0 ad0 k0 s0 pc L st S := by
  obtain ⟨hx, hb, -⟩ := X
  simp only [zi_ex] at hex
  split at hex
  · split at hex
    · cases hex
    · rename_i y x r hy
      obtain ⟨rfl, rfl, rfl, rfl⟩ := zi_nx_inv hex
      intro ad ls H locs hag hH hL hst
      exact lv_ldiv hx hb hd hy (kk ad ls H locs hag hH hL (zi_all_cons trivial (zi_all_tail (zi_all_tail hst))))
  · cases hex
theorem zi_q_lrem (X : zi_X p s m args meth c R D cy A cc nL o nm rt ad0) (hd : decode cc pc = .ok (.lrem, 1)) (hex : zi_ex rt (.lrem, 1, 0, 0, []) pc L st S = some (.inl (pc', L', st', S'))) (kk : zi_Go p l e R s m args below meth c Q D cy A nL n0 ad0 k0 s0 pc' L' st' S') : zi_Go p l e R s m args below meth c Q D cy A nL n0 ad0 k0 s0 pc L st S := by
  obtain ⟨hx, hb, -⟩ := X
  simp only [zi_ex] at hex
  split at hex
  · split at hex
    · cases hex
    · rename_i y x r hy
      obtain ⟨rfl, rfl, rfl, rfl⟩ := zi_nx_inv hex
      intro ad ls H locs hag hH hL hst
      exact lv_lrem hx hb hd hy (kk ad ls H locs hag hH hL (zi_all_cons trivial (zi_all_tail (zi_all_tail hst))))
  · cases hex
theorem zi_inv_nx {x y : Nat} {w : Nat × zi_L × List Value × zi_S} : ¬ zi_inv st S x y = some (.inl w) := by
  intro h
  unfold zi_inv at h
  split at h
  · split at h
    · obtain ⟨-, h⟩ := zi_cond_inv h
      cases h
    · cases h
  · cases h
theorem zi_invs_nx {x y : Nat} {w : Nat × zi_L × List Value × zi_S} : ¬ zi_invs st x y = some (.inl w) := by
  intro h
  unfold zi_invs at h
  split at h
  · obtain ⟨-, h⟩ := zi_cond_inv h
    cases h
  · cases h
theorem zi_step {q : zi_I} (X0 : zi_X p s m args meth c R D cy A cc nL o nm rt ad0) (hd : decode cc pc = .ok (q.1, q.2.1)) (hlen : q.2.1 = zi_ln q.1 q.2.1) (hg : zi_good M nm o pc q) (hex : zi_ex rt q pc L st S = some (.inl (pc', L', st', S'))) (hn0 : n0 ≤ S.2.1) (hk : k0 ≤ S.2.2.1) (hs : s0 ≤ S.2.2.2) (hRc : S'.2.2.1 - k0 ≤ R.cells) (hRs : S'.2.2.2 - s0 ≤ R.slots) (kk : zi_Go p l e R s m args below meth c Q D cy A nL n0 ad0 k0 s0 pc' L' st' S') : zi_Go p l e R s m args below meth c Q D cy A nL n0 ad0 k0 s0 pc L st S := by
  obtain ⟨i, len, x, y, z⟩ := q
  obtain ⟨hx, hb, hml, hown, hts, hN, hK, hA, hcls, hnm, hret, hlk, hRf, hRl, hSF⟩ := id X0
  dsimp only at hd hlen
  cases i with
  | iconst n =>
    have hlen : len = 1 := hlen
    subst hlen
    exact zi_q_push (v := .int (Int32.ofInt n)) (n := 1) (Or.inl rfl) (fun _ => trivial) (fun _ => rfl) (fun k => lv_iconst hx hb hd rfl k) hex kk
  | bipush n =>
    have hlen : len = 2 := hlen
    subst hlen
    exact zi_q_push (v := .int (Int8.ofInt n).toInt32) (n := 2) (Or.inl rfl) (fun _ => trivial) (fun _ => rfl) (fun k => lv_bipush hx hb hd rfl k) hex kk
  | sipush n =>
    have hlen : len = 3 := hlen
    subst hlen
    exact zi_q_push (v := .int (Int16.ofInt n).toInt32) (n := 3) (Or.inl rfl) (fun _ => trivial) (fun _ => rfl) (fun k => lv_sipush hx hb hd rfl k) hex kk
  | lconst n =>
    have hlen : len = 1 := hlen
    subst hlen
    exact zi_q_push (v := .long (Int64.ofNat n)) (n := 1) (Or.inr rfl) (fun _ => trivial) (fun _ => rfl) (fun k => lv_lconst hx hb hd rfl k) hex kk
  | ldc n =>
    have hlen : len = 2 := hlen
    subst hlen
    cases y with
    | zero => exact zi_q_push (v := .int (Int32.ofNat x)) (n := 2) (Or.inl rfl) (fun _ => trivial) (fun _ => rfl) (fun k => lv_ldc hx hb hown (hts _ hg) hd k) hex kk
    | succ y =>
      obtain ⟨j, hj, hg⟩ : ∃ j, x = 2 * j ∧ (o, n, j) ∈ zi_TT := hg
      subst hj
      obtain ⟨rfl, rfl, rfl, rfl⟩ := zi_nx_inv hex
      exact zi_q_ldcT X0 hd hg kk
  | ldc_w n =>
    have hlen : len = 3 := hlen
    subst hlen
    cases y with
    | zero => exact zi_q_push (v := .int (Int32.ofNat x)) (n := 3) (Or.inl rfl) (fun _ => trivial) (fun _ => rfl) (fun k => lv_ldcw hx hb hown (hts _ hg) hd k) hex kk
    | succ y =>
      obtain ⟨j, hj, hg⟩ : ∃ j, x = 2 * j ∧ (o, n, j) ∈ zi_TT := hg
      subst hj
      obtain ⟨rfl, rfl, rfl, rfl⟩ := zi_nx_inv hex
      exact zi_q_ldcwT X0 hd hg kk
  | getstatic n =>
    have hlen : len = 3 := hlen
    subst hlen
    obtain ⟨hg1, hg⟩ : x = 1 ∧ _ := hg
    subst hg1
    obtain ⟨rfl, rfl, rfl, rfl⟩ := zi_nx_inv hex
    exact zi_q_gets X0 hd hg kk
  | ldc2_w n =>
    have hlen : len = 3 := hlen
    subst hlen
    exact zi_q_push (v := .long (Int64.ofNat x)) (n := 3) (Or.inr rfl) (fun _ => trivial) (fun _ => rfl) (fun k => lv_ldc2 hx hb hown (hts _ hg) hd k) hex kk
  | iload_n n =>
    have hlen : len = 1 := hlen
    subst hlen
    exact zi_q_iload (n := 1) (fun a k => lv_iload_n hx hb hd rfl a k) hex kk
  | iload n =>
    have hlen : len = 2 := hlen
    subst hlen
    exact zi_q_iload (n := 2) (fun a k => lv_iload hx hb hd a k) hex kk
  | istore_n n =>
    have hlen : len = 1 := hlen
    subst hlen
    exact zi_q_istore (n := 1) (fun a b k => lv_istore_n hx hb hd rfl a b rfl k) hex kk
  | istore n =>
    have hlen : len = 2 := hlen
    subst hlen
    exact zi_q_istore (n := 2) (fun a b k => lv_istore hx hb hd a b rfl k) hex kk
  | lload_n n =>
    have hlen : len = 1 := hlen
    subst hlen
    exact zi_q_lload (n := 1) (fun a k => lv_lload_n hx hb hd rfl a k) hex kk
  | lload n =>
    have hlen : len = 2 := hlen
    subst hlen
    exact zi_q_lload (n := 2) (fun a k => lv_lload hx hb hd a k) hex kk
  | lstore_n n =>
    have hlen : len = 1 := hlen
    subst hlen
    exact zi_q_lstore (n := 1) (fun a b k => lv_lstore_n hx hb hd rfl a b rfl k) hex kk
  | lstore n =>
    have hlen : len = 2 := hlen
    subst hlen
    exact zi_q_lstore (n := 2) (fun a b k => lv_lstore hx hb hd a b rfl k) hex kk
  | aload_n n =>
    have hlen : len = 1 := hlen
    subst hlen
    exact zi_q_aload (n := 1) (fun a k => lv_aload_n hx hb hd rfl a k) hex kk
  | aload n =>
    have hlen : len = 2 := hlen
    subst hlen
    exact zi_q_aload (n := 2) (fun a k => lv_aload hx hb hd a k) hex kk
  | astore_n n =>
    have hlen : len = 1 := hlen
    subst hlen
    exact zi_q_astore (n := 1) (fun a b k => lv_astore_n hx hb hd rfl a b rfl k) hex kk
  | astore n =>
    have hlen : len = 2 := hlen
    subst hlen
    exact zi_q_astore (n := 2) (fun a b k => lv_astore hx hb hd a b rfl k) hex kk
  | iinc i n =>
    have hlen : len = 3 := hlen
    subst hlen
    simp only [zi_ex] at hex
    split at hex
    · rename_i v hv
      obtain ⟨L1, h3, h4⟩ := Option.bind_eq_some_iff.mp hex
      obtain ⟨rfl, rfl, rfl, rfl⟩ := zi_nx_inv h4
      intro ad ls H locs hag hH hL hst
      obtain ⟨k, hk⟩ := List.getElem?_of_mem (zi_as_mem (ad := ad) (q := (i, .int v)).mpr ⟨.int v, hv, rfl⟩)
      exact lv_iinc hx hb hd hL.has hk rfl (by rw [← hL.2.1]; exact (zi_st1_inv h3).1) rfl fun ls' hl' => kk ad ls' H locs hag hH (hL.st1 (v := .int (v + Int32.ofInt n)) h3 trivial hl') hst
    · cases hex
  | iadd =>
    have hlen : len = 1 := hlen
    subst hlen
    exact zi_q_i2 (f := fun x y => x + y) (fun k => lv_iadd hx hb hd k) hex kk
  | isub =>
    have hlen : len = 1 := hlen
    subst hlen
    exact zi_q_i2 (f := fun x y => x - y) (fun k => lv_isub hx hb hd k) hex kk
  | imul =>
    have hlen : len = 1 := hlen
    subst hlen
    exact zi_q_i2 (f := fun x y => x * y) (fun k => lv_imul hx hb hd k) hex kk
  | iand =>
    have hlen : len = 1 := hlen
    subst hlen
    exact zi_q_i2 (f := fun x y => x &&& y) (fun k => lv_iand hx hb hd k) hex kk
  | ior =>
    have hlen : len = 1 := hlen
    subst hlen
    exact zi_q_i2 (f := fun x y => x ||| y) (fun k => lv_ior hx hb hd k) hex kk
  | ixor =>
    have hlen : len = 1 := hlen
    subst hlen
    exact zi_q_i2 (f := fun x y => x ^^^ y) (fun k => lv_ixor hx hb hd k) hex kk
  | ishl =>
    have hlen : len = 1 := hlen
    subst hlen
    exact zi_q_i2 (f := fun x y => x <<< (y &&& 31)) (fun k => lv_ishl hx hb hd k) hex kk
  | ishr =>
    have hlen : len = 1 := hlen
    subst hlen
    exact zi_q_i2 (f := fun x y => x >>> (y &&& 31)) (fun k => lv_ishr hx hb hd k) hex kk
  | iushr =>
    have hlen : len = 1 := hlen
    subst hlen
    exact zi_q_i2 (f := fun x y => (x.toUInt32 >>> (y.toUInt32 &&& Int32.toUInt32 31)).toInt32) (fun k => lv_iushr hx hb hd rfl k) hex kk
  | ineg =>
    have hlen : len = 1 := hlen
    subst hlen
    exact zi_q_i1 (f := fun x => -x) (fun k => lv_ineg hx hb hd k) hex kk
  | i2b =>
    have hlen : len = 1 := hlen
    subst hlen
    exact zi_q_i1 (f := fun x => x.toInt8.toInt32) (fun k => lv_i2b hx hb hd rfl k) hex kk
  | i2s =>
    have hlen : len = 1 := hlen
    subst hlen
    exact zi_q_i1 (f := fun x => x.toInt16.toInt32) (fun k => lv_i2s hx hb hd rfl k) hex kk
  | i2c =>
    have hlen : len = 1 := hlen
    subst hlen
    exact zi_q_i1 (f := fun x => (x.toUInt32 % 65536).toInt32) (fun k => lv_i2c hx hb hd rfl k) hex kk
  | ladd =>
    have hlen : len = 1 := hlen
    subst hlen
    exact zi_q_l2 (f := fun x y => x + y) (fun k => lv_ladd hx hb hd k) hex kk
  | lsub =>
    have hlen : len = 1 := hlen
    subst hlen
    exact zi_q_l2 (f := fun x y => x - y) (fun k => lv_lsub hx hb hd k) hex kk
  | lmul =>
    have hlen : len = 1 := hlen
    subst hlen
    exact zi_q_l2 (f := fun x y => x * y) (fun k => lv_lmul hx hb hd k) hex kk
  | idiv =>
    have hlen : len = 1 := hlen
    subst hlen
    exact zi_q_idiv X0 hd hex kk
  | irem =>
    have hlen : len = 1 := hlen
    subst hlen
    exact zi_q_irem X0 hd hex kk
  | ldiv =>
    have hlen : len = 1 := hlen
    subst hlen
    exact zi_q_ldiv X0 hd hex kk
  | lrem =>
    have hlen : len = 1 := hlen
    subst hlen
    exact zi_q_lrem X0 hd hex kk
  | i2l =>
    have hlen : len = 1 := hlen
    subst hlen
    simp only [zi_ex] at hex
    split at hex
    · obtain ⟨rfl, rfl, rfl, rfl⟩ := zi_nx_inv hex
      intro ad ls H locs hag hH hL hst
      exact lv_i2l hx hb hd rfl (kk ad ls H locs hag hH hL (zi_all_cons trivial (zi_all_tail hst)))
    · cases hex
  | lcmp =>
    have hlen : len = 1 := hlen
    subst hlen
    simp only [zi_ex] at hex
    split at hex
    · obtain ⟨rfl, rfl, rfl, rfl⟩ := zi_nx_inv hex
      intro ad ls H locs hag hH hL hst
      exact W.lcmp hx hb hd (kk ad ls H locs hag hH hL (zi_all_cons trivial (zi_all_tail (zi_all_tail hst))))
    · cases hex
  | dup =>
    have hlen : len = 1 := hlen
    subst hlen
    simp only [zi_ex] at hex
    split at hex
    · obtain ⟨h1, h2⟩ := zi_cond_inv hex
      obtain ⟨rfl, rfl, rfl, rfl⟩ := zi_nx_inv h2
      intro ad ls H locs hag hH hL hst
      exact lv_dup hx hb hd (by rw [zi_v_cat]; exact zi_k1_cat h1) (kk ad ls H locs hag hH hL (zi_all_cons (zi_all_head hst) hst))
    · cases hex
  | dup2 =>
    have hlen : len = 1 := hlen
    subst hlen
    simp only [zi_ex] at hex
    split at hex
    · obtain ⟨h1, h2⟩ := zi_cond_inv hex
      rw [Bool.and_eq_true] at h1
      obtain ⟨rfl, rfl, rfl, rfl⟩ := zi_nx_inv h2
      intro ad ls H locs hag hH hL hst
      exact lv_dup2_11 hx hb hd (by rw [zi_v_cat]; exact zi_k1_cat h1.1) (by rw [zi_v_cat]; exact zi_k1_cat h1.2) (kk ad ls H locs hag hH hL (zi_all_cons (zi_all_head hst) (zi_all_cons (zi_all_head (zi_all_tail hst)) hst)))
    · cases hex
  | pop =>
    have hlen : len = 1 := hlen
    subst hlen
    simp only [zi_ex] at hex
    split at hex
    · obtain ⟨h1, h2⟩ := zi_cond_inv hex
      obtain ⟨rfl, rfl, rfl, rfl⟩ := zi_nx_inv h2
      intro ad ls H locs hag hH hL hst
      exact lv_pop hx hb hd (by rw [zi_v_cat]; exact zi_k1_cat h1) (kk ad ls H locs hag hH hL (zi_all_tail hst))
    · cases hex
  | goto off =>
    have hlen : len = 3 := hlen
    subst hlen
    obtain ⟨rfl, rfl, rfl, rfl⟩ := zi_nx_inv hex
    intro ad ls H locs hag hH hL hst
    exact lv_goto hx hb hd hg (kk ad ls H locs hag hH hL hst)
  | ifCond k off =>
    have hlen : len = 3 := hlen
    subst hlen
    exact zi_q_if1 X0 hd hg hex kk
  | if_icmp k off =>
    have hlen : len = 3 := hlen
    subst hlen
    exact zi_q_if2 X0 hd hg hex kk
  | tableswitch d lo hi offs =>
    simp only [zi_ex] at hex
    split at hex
    · obtain ⟨rfl, rfl, rfl, rfl⟩ := zi_nx_inv hex
      exact zi_q_tsw X0 hd hg kk
    · cases hex
  | lookupswitch d ps =>
    simp only [zi_ex] at hex
    split at hex
    · obtain ⟨rfl, rfl, rfl, rfl⟩ := zi_nx_inv hex
      exact zi_q_lsw X0 hd hg kk
    · cases hex
  | getfield ix =>
    have hlen : len = 3 := hlen
    subst hlen
    exact zi_q_getf X0 hd hg hex kk
  | putfield ix =>
    have hlen : len = 3 := hlen
    subst hlen
    exact zi_q_putf X0 hd hg hex kk
  | iaload =>
    have hlen : len = 1 := hlen
    subst hlen
    exact zi_q_iald X0 hd hex kk
  | baload =>
    have hlen : len = 1 := hlen
    subst hlen
    exact zi_q_zald X0 hd hex kk
  | laload =>
    have hlen : len = 1 := hlen
    subst hlen
    exact zi_q_lald X0 hd hex kk
  | aaload =>
    have hlen : len = 1 := hlen
    subst hlen
    exact zi_q_aald X0 hd hex kk
  | iastore =>
    have hlen : len = 1 := hlen
    subst hlen
    exact zi_q_iast X0 hd hex kk
  | bastore =>
    have hlen : len = 1 := hlen
    subst hlen
    exact zi_q_zast X0 hd hex kk
  | lastore =>
    have hlen : len = 1 := hlen
    subst hlen
    exact zi_q_last X0 hd hex kk
  | aastore =>
    have hlen : len = 1 := hlen
    subst hlen
    exact zi_q_aast X0 hd hex kk
  | arraylength =>
    have hlen : len = 1 := hlen
    subst hlen
    exact zi_q_alen X0 hd hex kk
  | newarray t =>
    have hlen : len = 2 := hlen
    subst hlen
    cases t with
    | int => exact zi_q_newa (ty := .int) rfl rfl (fun _ h => by cases h) (fun _ _ => rfl) (by decide) X0 hd hg hex hn0 hk hs hRc hRs kk
    | long => exact zi_q_newa (ty := .long) rfl rfl (fun _ h => by cases h) (fun _ _ => rfl) (by decide) X0 hd hg hex hn0 hk hs hRc hRs kk
    | boolean => exact zi_q_newa (ty := .boolean) rfl rfl (fun _ h => by cases h) (fun _ _ => rfl) (by decide) X0 hd hg hex hn0 hk hs hRc hRs kk
    | _ => cases hex
  | anewarray ix =>
    have hlen : len = 3 := hlen
    subst hlen
    exact zi_q_newq X0 hd hg hex hn0 hk hs hRc hRs kk
  | new ix =>
    have hlen : len = 3 := hlen
    subst hlen
    exact zi_q_new X0 hd hg hex hn0 hk hs hRc hRs kk
  | invokespecial ix =>
    have hlen : len = 3 := hlen
    subst hlen
    simp only [zi_ex] at hex
    cases hb9 : Nat.beq x 9000 with
    | true =>
      rw [hb9] at hex
      have hx9 := zi_beq hb9
      subst hx9
      simp only [cond_true] at hex
      split at hex
      · obtain ⟨h1, h2⟩ := zi_cond_inv hex
        obtain ⟨rfl, rfl, rfl, rfl⟩ := zi_nx_inv h2
        exact zi_q_obj X0 hd hg h1 kk
      · cases hex
    | false =>
      rw [hb9] at hex
      simp only [cond_false] at hex
      exact absurd hex zi_inv_nx
  | invokevirtual ix =>
    have hlen : len = 3 := hlen
    subst hlen
    exact absurd hex zi_inv_nx
  | invokestatic ix =>
    have hlen : len = 3 := hlen
    subst hlen
    simp only [zi_ex] at hex
    split at hex
    · exact zi_q_max X0 hd hg hRc hRs hex kk
    · exact zi_q_min X0 hd hg hRc hRs hex kk
    · exact zi_q_cpy X0 hd hg hex kk
    · exact absurd hex zi_invs_nx
  | ireturn =>
    have hlen : len = 1 := hlen
    subst hlen
    exact absurd hex (by intro h; simp only [zi_ex] at h; (repeat' split at h) <;> cases h)
  | lreturn =>
    have hlen : len = 1 := hlen
    subst hlen
    exact absurd hex (by intro h; simp only [zi_ex] at h; (repeat' split at h) <;> cases h)
  | return_ =>
    have hlen : len = 1 := hlen
    subst hlen
    exact absurd hex (by intro h; simp only [zi_ex] at h; (repeat' split at h) <;> cases h)
  | _ => cases hex
end ZY
