/-! ===== switches; a step; a return ===== -/
theorem zi_sw_out {v : Int32} {d : Nat} : ∀ {z : List (Int32 × Nat)}, (∀ q ∈ z, v ≠ q.1) → zi_sw v z d = d
  | [], _ => rfl
  | (k, t) :: r, h => by
    simp only [zi_sw]
    rw [if_neg (h (k, t) List.mem_cons_self)]
    exact zi_sw_out fun q hq => h q (List.mem_cons_of_mem _ hq)
theorem zi_sw_in {v : Int32} {d : Nat} : ∀ {z : List (Int32 × Nat)} {k : Nat} {e : Int32 × Nat}, z[k]? = some e → v = e.1 → (∀ j q, j < k → z[j]? = some q → v ≠ q.1) → zi_sw v z d = e.2
  | [], k, e, h, _, _ => by simp at h
  | (a, t) :: r, 0, e, h, hv, _ => by
    simp at h
    subst h
    simp only [zi_sw]
    rw [if_pos hv]
  | (a, t) :: r, k + 1, e, h, hv, hn => by
    simp only [zi_sw]
    rw [if_neg (hn 0 (a, t) (Nat.succ_pos k) rfl)]
    exact zi_sw_in (by simpa using h) hv fun j q hj hq => hn (j + 1) q (Nat.succ_lt_succ hj) (by simpa using hq)
theorem zi_lsw_sw {pc : Nat} {d : Int} {dt : Nat} {v : Int32} (hd : (pc : Int) + d = dt) : ∀ {ps : List (Int × Int)} {z : List (Int32 × Nat)}, zi_lsw pc ps z → ∃ off, Op.lookupswitch.offset ps d v.toInt = off ∧ (pc : Int) + off = (zi_sw v z dt : Nat)
  | [], [], _ => ⟨d, by simp [Op.lookupswitch.offset], hd⟩
  | [], _ :: _, h => h.elim
  | _ :: _, [], h => h.elim
  | a :: as, b :: bs, h => by
    obtain ⟨h1, h2, h3⟩ := h
    obtain ⟨a1, a2⟩ := a
    obtain ⟨b1, b2⟩ := b
    rw [Op.lookupswitch.offset_cons]
    simp only [zi_sw]
    by_cases hv : v = b1
    · subst hv
      rw [if_pos (by first | exact h1 | exact h1.symm), if_pos rfl]
      exact ⟨_, rfl, h2⟩
    · rw [if_neg (fun q => hv (Int32.toInt_inj.mp (by first | exact q.trans h1.symm | exact (h1.trans q).symm | exact h1.trans q))), if_neg hv]
      exact zi_lsw_sw hd h3
section ZX
variable {p : Program} {l : Launch} {e : Env} {R : Room} {s : State} {m : MethodId} {args : Array Value} {below : List Frame} {meth : Method} {c : Code} {Q : State → Prop} {D : va_G} {cy : Nat → ClassId} {A : Nat → Prop} {cc : ByteArray} {nL n0 k0 s0 o rt : Nat} {nm : String} {ad0 : Nat → Nat} {pc pc' : Nat} {L L' : zi_L} {st st' : List Value} {S S' : zi_S}
theorem zi_q_tsw {d lo hi : Int} {offs : Array Int} {len x : Nat} {z : List (Int32 × Nat)} {v : Int32} {r : List Value} (X : zi_X p s m args meth c R D cy A cc nL o nm rt ad0) (hd : decode cc pc = .ok (.tableswitch d lo hi offs, len)) (hg : (pc : Int) + d = x ∧ hi = lo + offs.size - 1 ∧ zi_tsw pc lo offs.toList z) (kk : zi_Go p l e R s m args below meth c Q D cy A nL n0 ad0 k0 s0 (zi_sw v z x) L r S) : zi_Go p l e R s m args below meth c Q D cy A nL n0 ad0 k0 s0 pc L (.int v :: r) S := by
  obtain ⟨hx, hb, hml, hown, hts, hN, hK, hA, hcls, hnm, hret, hlk, hRf, hRl, hSF⟩ := X
  obtain ⟨h1, h2, h3, h4⟩ := hg
  intro ad ls H locs hag hH hL hst
  have k := kk ad ls H locs hag hH hL (zi_all_tail hst)
  have hlen : offs.toList.length = offs.size := Array.length_toList
  by_cases hv : v.toInt < lo ∨ hi < v.toInt
  · rw [zi_sw_out (fun q hq => ?_)] at k
    · exact lv_tableOut hx hb hd hv h1 k
    · intro e1
      obtain ⟨j, hj⟩ := List.getElem?_of_mem hq
      have hjl : j < offs.toList.length := by rw [← h3]; exact (List.getElem?_eq_some_iff.mp hj).1
      obtain ⟨e2, off, g1, g2, g3, g4⟩ := h4 j hjl
      rw [hj] at g1
      cases g1
      rw [e1] at hv
      omega
  · have hv1 : ¬ v.toInt < lo := fun q => hv (Or.inl q)
    have hv2 : ¬ hi < v.toInt := fun q => hv (Or.inr q)
    have hj : (v.toInt - lo).toNat < offs.toList.length := by omega
    obtain ⟨e2, off, g1, g2, g3, g4⟩ := h4 _ hj
    have hve : v = e2.1 := Int32.toInt_inj.mp (by rw [g3]; omega)
    rw [zi_sw_in g1 hve (fun j q hjk hq e1 => ?_)] at k
    · exact lv_tableIn hx hb hd hv1 hv2 (by rw [← Array.getElem?_toList]; exact g2) g4 k
    · obtain ⟨e3, off3, g5, g6, g7, g8⟩ := h4 j (by omega)
      rw [hq] at g5
      cases g5
      rw [e1, g7] at hjk
      omega
theorem zi_q_lsw {d : Int} {ps : Array (Int × Int)} {len x : Nat} {z : List (Int32 × Nat)} {v : Int32} {r : List Value} (X : zi_X p s m args meth c R D cy A cc nL o nm rt ad0) (hd : decode cc pc = .ok (.lookupswitch d ps, len)) (hg : (pc : Int) + d = x ∧ (ps.toList.zip (ps.toList.drop 1)).all (fun (a, next) => a.1 < next.1) = true ∧ zi_lsw pc ps.toList z) (kk : zi_Go p l e R s m args below meth c Q D cy A nL n0 ad0 k0 s0 (zi_sw v z x) L r S) : zi_Go p l e R s m args below meth c Q D cy A nL n0 ad0 k0 s0 pc L (.int v :: r) S := by
  obtain ⟨hx, hb, hml, hown, hts, hN, hK, hA, hcls, hnm, hret, hlk, hRf, hRl, hSF⟩ := X
  obtain ⟨h1, h2, h3⟩ := hg
  intro ad ls H locs hag hH hL hst
  obtain ⟨off, ho, ht⟩ := zi_lsw_sw (v := v) h1 h3
  exact lv_lookup hx hb hd h2 ho ht (kk ad ls H locs hag hH hL (zi_all_tail hst))
end ZX
