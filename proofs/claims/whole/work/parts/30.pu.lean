/-! ===== runs and calls as relations; more fuel, more depth ===== -/
theorem zi_steps_mono {P : Nat → Option zi_I} {rt : Nat} {call call' : Nat → List Value → zi_S → Option (Option Value × zi_S)} (hc : ∀ x as S r, call x as S = some r → call' x as S = some r) : ∀ (f f' pc : Nat) (L : zi_L) (st : List Value) (S : zi_S) (r : Option Value × zi_S), f ≤ f' → zi_steps P rt call f pc L st S = some r → zi_steps P rt call' f' pc L st S = some r
  | 0, _, _, _, _, _, _, _, h => by cases h
  | f + 1, 0, _, _, _, _, _, hf, _ => by omega
  | f + 1, f' + 1, pc, L, st, S, r, hf, h => by
    simp only [zi_steps] at h ⊢
    split at h
    · cases h
    · rename_i q hq
      split at h
      · cases h
      · rename_i w hw
        exact zi_steps_mono hc f f' _ _ _ _ _ (Nat.le_of_succ_le_succ hf) h
      · exact h
      · rename_i w hw
        split at h
        · cases h
        · rename_i u hu
          simp only [hc _ _ _ _ hu]
          exact zi_steps_mono hc f f' _ _ _ _ _ (Nat.le_of_succ_le_succ hf) h
theorem zi_call_mono {P : Nat → Nat → Option zi_I} {M : Nat → Option zi_MI} {pr : Nat → List Value → zi_S → Option (Option Value × zi_S)} {f f' : Nat} (hf : f ≤ f') : ∀ (d d' x : Nat) (as : List Value) (S : zi_S) (r : Option Value × zi_S), d ≤ d' → zi_call P M pr f d x as S = some r → zi_call P M pr f' d' x as S = some r
  | 0, _, _, _, _, _, _, h => by cases h
  | d + 1, 0, _, _, _, _, hd, _ => by omega
  | d + 1, d' + 1, x, as, S, r, hd, h => by
    simp only [zi_call] at h ⊢
    split at h
    · exact h
    · split at h
      · cases h
      · rename_i DM hDM
        obtain ⟨h1, h2⟩ := zi_cond_inv h
        rw [h1]
        exact zi_steps_mono (fun x as S r => zi_call_mono hf d d' x as S r (Nat.le_of_succ_le_succ hd)) f f' _ _ _ _ _ hf h2
def zi_prN (pr : Nat → List Value → zi_S → Option (Option Value × zi_S)) : Prop := (∀ x as S, ¬ (2600 ≤ x ∧ x < 2800) → x ≠ 3099 → pr x as S = none) ∧ ∀ (i l : Int32) (S : zi_S), 0 ≤ i → i < l → pr 3099 [.int i, .int l] S = some (none, S)
/-- method x, called so, at depth d, answers v and leaves S' -/
def zc (d x : Nat) (as : List Value) (S : zi_S) (v : Option Value) (S' : zi_S) : Prop := ∀ pr, zi_prN pr → ∃ f, zi_call zi_P zi_M pr f d x as S = some (v, S')
/-- a run of the code k from pc -/
def zi_pk (k : List (Option zi_I)) (pc : Nat) : Option zi_I := (k[pc]?).join
theorem zi_pk_of {k : List (Option zi_I)} {pc : Nat} {q : zi_I} (h : k[pc]? = some (some q)) : zi_pk k pc = some q := by simp [zi_pk, h]
theorem zi_st_inl {P : Nat → Option zi_I} {rt f pc : Nat} {call : Nat → List Value → zi_S → Option (Option Value × zi_S)} {L : zi_L} {st : List Value} {S : zi_S} {q : zi_I} {w : Nat × zi_L × List Value × zi_S} (h1 : P pc = some q) (h2 : zi_ex rt q pc L st S = some (.inl w)) : zi_steps P rt call (f + 1) pc L st S = zi_steps P rt call f w.1 w.2.1 w.2.2.1 w.2.2.2 := by
  simp only [zi_steps, h1, h2]
theorem zi_st_ret {P : Nat → Option zi_I} {rt f pc : Nat} {call : Nat → List Value → zi_S → Option (Option Value × zi_S)} {L : zi_L} {st : List Value} {S : zi_S} {q : zi_I} {v : Option Value} (h1 : P pc = some q) (h2 : zi_ex rt q pc L st S = some (.inr (.inl v))) : zi_steps P rt call (f + 1) pc L st S = some (v, S) := by
  simp only [zi_steps, h1, h2]
theorem zi_st_cal {P : Nat → Option zi_I} {rt f pc : Nat} {call : Nat → List Value → zi_S → Option (Option Value × zi_S)} {L : zi_L} {st : List Value} {S : zi_S} {q : zi_I} {w : Nat × List Value × List Value} {u : Option Value × zi_S} (h1 : P pc = some q) (h2 : zi_ex rt q pc L st S = some (.inr (.inr w))) (h3 : call w.1 w.2.1 S = some u) : zi_steps P rt call (f + 1) pc L st S = zi_steps P rt call f (pc + 3) L (u.1.toList ++ w.2.2) u.2 := by
  simp only [zi_steps, h1, h2, h3]
def zr (k : List (Option zi_I)) (rt d pc : Nat) (L : zi_L) (st : List Value) (S : zi_S) (v : Option Value) (S' : zi_S) : Prop := ∀ pr, zi_prN pr → ∃ f, zi_steps (zi_pk k) rt (zi_call zi_P zi_M pr f d) f pc L st S = some (v, S')
theorem zc.up {d d' x : Nat} {as : List Value} {S S' : zi_S} {v : Option Value} (hd : d ≤ d') (h : zc d x as S v S') : zc d' x as S v S' := fun pr hp => by
  obtain ⟨f, h⟩ := h pr hp
  exact ⟨f, zi_call_mono (Nat.le_refl f) _ _ _ _ _ _ hd h⟩
section ZR
variable {k : List (Option zi_I)} {rt d pc pc' : Nat} {L L' : zi_L} {st st' : List Value} {S S1 S' : zi_S} {v : Option Value} {q : zi_I}
theorem zr_nx (h1 : k[pc]? = some (some q)) (h2 : zi_ex rt q pc L st S = some (.inl (pc', L', st', S1))) (h3 : zr k rt d pc' L' st' S1 v S') : zr k rt d pc L st S v S' := fun pr hp => by
  obtain ⟨f, h⟩ := h3 pr hp
  refine ⟨f + 1, ?_⟩
  rw [zi_st_inl (zi_pk_of h1) h2]
  exact zi_steps_mono (call := zi_call zi_P zi_M pr f d) (fun x as S r => zi_call_mono (Nat.le_succ f) d d x as S r (Nat.le_refl d)) f f _ _ _ _ _ (Nat.le_refl f) h
theorem zr_rt (h1 : k[pc]? = some (some q)) (h2 : zi_ex rt q pc L st S = some (.inr (.inl v))) : zr k rt d pc L st S v S := fun pr hp => by
  exact ⟨1, zi_st_ret (zi_pk_of h1) h2⟩
theorem zr_cl {x : Nat} {as r : List Value} {u : Option Value} (h1 : k[pc]? = some (some q)) (h2 : zi_ex rt q pc L st S = some (.inr (.inr (x, as, r)))) (hc : zc d x as S u S1) (h3 : zr k rt d (pc + 3) L (u.toList ++ r) S1 v S') : zr k rt d pc L st S v S' := fun pr hp => by
  obtain ⟨f1, hc⟩ := hc pr hp
  obtain ⟨f2, h⟩ := h3 pr hp
  refine ⟨max f1 f2 + 1, ?_⟩
  have hc' := zi_call_mono (f' := max f1 f2 + 1) (by omega) d d _ _ _ _ (Nat.le_refl d) hc
  rw [zi_st_cal (zi_pk_of h1) h2 hc']
  exact zi_steps_mono (call := zi_call zi_P zi_M pr f2 d) (fun x as S r => zi_call_mono (by omega) d d x as S r (Nat.le_refl d)) f2 (max f1 f2) _ _ _ _ _ (by omega) h
theorem zc_of {x : Nat} {as : List Value} {DM : zi_MI} (hM : zi_M x = some DM) (hk : zi_kod x = k) (hrt : DM.2.2.2.1 = rt) (hx : ¬ (2600 ≤ x ∧ x < 2800) ∧ x ≠ 3099) (hl : Nat.ble (zi_ent as).length DM.2.2.1 = true) (hL : zi_ent as ++ List.replicate (DM.2.2.1 - (zi_ent as).length) none = L) (h : zr k rt d 0 L [] S v S') : zc (d + 1) x as S v S' := fun pr hp => by
  obtain ⟨f, h⟩ := h pr hp
  refine ⟨f, ?_⟩
  subst hk
  subst hrt
  subst hL
  simp only [zi_call, hp.1 x as S hx.1 hx.2, hM, hl, cond_true]
  have e : zi_P x = zi_pk (zi_kod x) := rfl
  rw [e]
  exact h
end ZR
/-- String.checkIndex, in range -/
theorem zc_chk {d : Nat} {i l : Int32} {S : zi_S} (h0 : 0 ≤ i) (h1 : i < l) : zc (d + 1) 3099 [.int i, .int l] S none S := fun pr hp => ⟨0, by simp only [zi_call, hp.2 i l S h0 h1]⟩
