/-! ===== runs that come to a place ===== -/
theorem zi_ex_rt {rt rt' pc : Nat} {q : zi_I} {L : zi_L} {st : List Value} {S : zi_S} {w : Nat × zi_L × List Value × zi_S} (h : zi_ex rt q pc L st S = some (.inl w)) : zi_ex rt' q pc L st S = some (.inl w) := by
  obtain ⟨i, len, x, y, z⟩ := q
  cases i <;> first | exact h | (simp only [zi_ex] at h; (repeat' split at h) <;> cases h)
section ZD
variable {p : Program} {l : Launch} {e : Env} {R : Room} {s : State} {m : MethodId} {args : Array Value} {below : List Frame} {meth : Method} {c : Code} {Q : State → Prop} {D : va_G} {cy : Nat → ClassId} {A : Nat → Prop} {cc : ByteArray} {nL n0 k0 s0 o rt d : Nat} {nm : String} {ad0 : Nat → Nat} {S' : zi_S} {M : Nat → Option zi_MI} {v : Option Value} {P : Nat → Option zi_I} {call : Nat → List Value → zi_S → Option (Option Value × zi_S)} {pcT : Nat}
/-- the code comes to pcT, where a return stands in its stead -/
theorem zi_goT (X : zi_X p s m args meth c R D cy A cc nL o nm rt ad0) (hk : ∀ pc q, P pc = some q → pc ≠ pcT → (decode cc pc = .ok (q.1, q.2.1) ∧ q.2.1 = zi_ln q.1 q.2.1 ∧ zi_good M nm o pc q) ∧ q.1 ≠ .return_) (hT : P pcT = some (.return_, 1, 0, 0, [])) (hcall : ∀ x as S v S', call x as S = some (v, S') → zi_Met l M d x as S v S') (hRf : d + 5 ≤ R.frames) (hRl : 64 * d + 320 ≤ R.locals) (hRc : S'.2.2.1 - k0 ≤ R.cells) (hRs : S'.2.2.2 - s0 ≤ R.slots)
    (hgo : ∀ L', zi_Go p l e R s m args below meth c Q D cy A nL n0 ad0 k0 s0 pcT L' [] S') : ∀ (f pc : Nat) (L : zi_L) (st : List Value) (S : zi_S), n0 ≤ S.2.1 → k0 ≤ S.2.2.1 → s0 ≤ S.2.2.2 → zi_steps P 0 call f pc L st S = some (v, S') → zi_Go p l e R s m args below meth c Q D cy A nL n0 ad0 k0 s0 pc L st S
  | 0, _, _, _, _, _, _, _, h => by cases h
  | f + 1, pc, L, st, S, hn, hk0, hs0, h => by
    have hc' : ∀ x as S v S', call x as S = some (v, S') → zi_le S S' ∧ zi_num v := fun x as S v S' hh => ⟨(hcall x as S v S' hh).1, (hcall x as S v S' hh).2.1⟩
    simp only [zi_steps] at h
    split at h
    · cases h
    · rename_i q hq
      by_cases hp : pc = pcT
      · subst hp
        rw [hT] at hq
        cases hq
        simp only [zi_ex] at h
        match st, h with
        | [], h =>
          cases h
          exact hgo L
        | _ :: _, h => cases h
      · obtain ⟨⟨hd, hlen, hg⟩, hnr⟩ := hk pc q hq hp
        split at h
        · cases h
        · rename_i w hw
          obtain ⟨pc', L', st', S1⟩ := w
          have hle1 : zi_le S S1 := by
            rcases zi_ex_kind (rt := 0) (q := q) (pc := pc) (L := L) (st := st) (S := S) with h' | ⟨ix, e1, h2⟩ | ⟨ix, e1, h0, h2⟩ | ⟨ix, e1, -, -, -, h2⟩ | ⟨-, h'⟩
            · obtain ⟨w', hw', hle⟩ := h' _ hw
              cases hw'
              exact hle
            · rw [h2] at hw
              exact absurd hw zi_inv_nx
            · rw [h2] at hw
              exact absurd hw zi_inv_nx
            · rw [h2] at hw
              exact absurd hw zi_invs_nx
            · obtain ⟨v', hv'⟩ := h' _ hw
              cases hv'
          have h2 := zi_steps_le hc' f _ _ _ _ _ _ h
          have hle2 := h2.1.2
          exact zi_step X hd hlen hg (zi_ex_rt hw) hn hk0 hs0 (Nat.le_trans (Nat.sub_le_sub_right hle2.1 _) hRc) (Nat.le_trans (Nat.sub_le_sub_right hle2.2 _) hRs) (zi_goT X hk hT hcall hRf hRl hRc hRs hgo f pc' L' st' S1 (Nat.le_trans hn hle1.1) (Nat.le_trans hk0 hle1.2.1) (Nat.le_trans hs0 hle1.2.2) h)
        · rename_i w hw
          exfalso
          obtain ⟨i, len, x, y, z⟩ := q
          have key : i = .ireturn ∨ i = .lreturn ∨ i = .return_ := by
            rcases zi_ex_kind (rt := 0) (q := (i, len, x, y, z)) (pc := pc) (L := L) (st := st) (S := S) with h' | ⟨ix, h1, h2⟩ | ⟨ix, h1, h0, h2⟩ | ⟨ix, h1, -, -, -, h2⟩ | ⟨h', -⟩
            · obtain ⟨w, hw', -⟩ := h' _ hw
              cases hw'
            · rw [h2] at hw
              exact absurd hw zi_inv_nr
            · rw [h2] at hw
              exact absurd hw zi_inv_nr
            · rw [h2] at hw
              exact absurd hw zi_invs_nr
            · exact h'
          rcases key with rfl | rfl | rfl
          · simp only [zi_ex] at hw
            cases hw
          · simp only [zi_ex] at hw
            cases hw
          · exact hnr rfl
        · rename_i w hw
          obtain ⟨x', as, r⟩ := w
          split at h
          · cases h
          · rename_i u hu
            obtain ⟨v1, S1⟩ := u
            have hM := hcall _ _ _ _ _ hu
            have h2 := zi_steps_le hc' f _ _ _ _ _ _ h
            have hle2 := h2.1.2
            have kk := zi_goT X hk hT hcall hRf hRl hRc hRs hgo f (pc + 3) L (v1.toList ++ r) S1 (Nat.le_trans hn hM.1.1) (Nat.le_trans hk0 hM.1.2.1) (Nat.le_trans hs0 hM.1.2.2) h
            have b1 := Nat.le_trans (Nat.sub_le_sub_right hle2.1 k0) hRc
            have b2 := Nat.le_trans (Nat.sub_le_sub_right hle2.2 s0) hRs
            obtain ⟨i, len, x1, y1, z1⟩ := q
            dsimp only at hd hlen
            rcases zi_ex_kind (rt := 0) (q := (i, len, x1, y1, z1)) (pc := pc) (L := L) (st := st) (S := S) with h' | ⟨ix, e1, h2⟩ | ⟨ix, e1, h0, h2⟩ | ⟨ix, e1, n1, n2, n3, h2⟩ | ⟨-, h'⟩
            · obtain ⟨w', hw', -⟩ := h' _ hw
              cases hw'
            · rw [h2] at hw
              have e1 : i = .invokevirtual ix := e1
              subst e1
              have hlen : len = 3 := hlen
              subst hlen
              exact zi_c_V X hRf hRl hd hg hw hM hn hk0 hs0 b1 b2 kk
            · rw [h2] at hw
              have e1 : i = .invokespecial ix := e1
              subst e1
              have hlen : len = 3 := hlen
              subst hlen
              have h0 : ¬ x1 = 9000 := h0
              simp only [zi_good, if_neg h0] at hg
              exact zi_c_I X hRf hRl hd hg hw hM hn hk0 hs0 b1 b2 kk
            · rw [h2] at hw
              have e1 : i = .invokestatic ix := e1
              subst e1
              have hlen : len = 3 := hlen
              subst hlen
              have n1 : ¬ x1 = 9001 := n1
              have n2 : ¬ x1 = 9002 := n2
              have n3 : ¬ x1 = 9003 := n3
              simp only [zi_good, if_neg n1, if_neg n2, if_neg n3] at hg
              exact zi_c_S X hRf hRl hd hg hw hM hn hk0 hs0 b1 b2 kk
            · obtain ⟨v', hv'⟩ := h' _ hw
              cases hv'
/-- a straight run of m steps -/
theorem zi_goR {k : List (Option zi_I)} {pc' : Nat} {L' : zi_L} {st' : List Value} {S1 : zi_S} (X : zi_X p s m args meth c R D cy A cc nL o nm rt ad0) (hk : ∀ pc q, k[pc]? = some (some q) → decode cc pc = .ok (q.1, q.2.1) ∧ q.2.1 = zi_ln q.1 q.2.1 ∧ zi_good M nm o pc q) (hRc : S1.2.2.1 - k0 ≤ R.cells) (hRs : S1.2.2.2 - s0 ≤ R.slots) (hgo : zi_Go p l e R s m args below meth c Q D cy A nL n0 ad0 k0 s0 pc' L' st' S1) : ∀ (m1 pc : Nat) (L : zi_L) (st : List Value) (S : zi_S), n0 ≤ S.2.1 → k0 ≤ S.2.2.1 → s0 ≤ S.2.2.2 → zi_run k rt m1 pc L st S = some (pc', L', st', S1) → zi_le S S1 ∧ zi_Go p l e R s m args below meth c Q D cy A nL n0 ad0 k0 s0 pc L st S
  | 0, pc, L, st, S, _, _, _, h => by
    cases h
    exact ⟨zi_le.rf, hgo⟩
  | m1 + 1, pc, L, st, S, hn, hk0, hs0, h => by
    simp only [zi_run] at h
    split at h
    · rename_i q hq
      obtain ⟨hd, hlen, hg⟩ := hk pc q hq
      split at h
      · rename_i w hw
        obtain ⟨pc2, L2, st2, S2⟩ := w
        have hle1 : zi_le S S2 := by
          rcases zi_ex_kind (rt := rt) (q := q) (pc := pc) (L := L) (st := st) (S := S) with h' | ⟨ix, e1, h2⟩ | ⟨ix, e1, h0, h2⟩ | ⟨ix, e1, -, -, -, h2⟩ | ⟨-, h'⟩
          · obtain ⟨w', hw', hle⟩ := h' _ hw
            cases hw'
            exact hle
          · rw [h2] at hw
            exact absurd hw zi_inv_nx
          · rw [h2] at hw
            exact absurd hw zi_inv_nx
          · rw [h2] at hw
            exact absurd hw zi_invs_nx
          · obtain ⟨v', hv'⟩ := h' _ hw
            cases hv'
        have hg2 := zi_goR X hk hRc hRs hgo m1 pc2 L2 st2 S2 (Nat.le_trans hn hle1.1) (Nat.le_trans hk0 hle1.2.1) (Nat.le_trans hs0 hle1.2.2) h
        exact ⟨hle1.tr hg2.1, zi_step X hd hlen hg hw hn hk0 hs0 (Nat.le_trans (Nat.sub_le_sub_right hg2.1.2.1 _) hRc) (Nat.le_trans (Nat.sub_le_sub_right hg2.1.2.2 _) hRs) hg2.2⟩
      · cases h
    · cases h
end ZD
