/-! ===== runs and calls of the abstract machine ===== -/
def zi_steps (P : Nat → Option zi_I) (rt : Nat) (call : Nat → List Value → zi_S → Option (Option Value × zi_S)) : Nat → Nat → zi_L → List Value → zi_S → Option (Option Value × zi_S)
  | 0, _, _, _, _ => none
  | f + 1, pc, L, st, S => match P pc with
    | none => none
    | some q => match zi_ex rt q pc L st S with
      | none => none
      | some (.inl w) => zi_steps P rt call f w.1 w.2.1 w.2.2.1 w.2.2.2
      | some (.inr (.inl v)) => some (v, S)
      | some (.inr (.inr w)) => match call w.1 w.2.1 S with
        | none => none
        | some u => zi_steps P rt call f (pc + 3) L (u.1.toList ++ w.2.2) u.2
/-- pr: methods whose contracts are given otherwise -/
def zi_call (P : Nat → Nat → Option zi_I) (M : Nat → Option zi_MI) (pr : Nat → List Value → zi_S → Option (Option Value × zi_S)) (f : Nat) : Nat → Nat → List Value → zi_S → Option (Option Value × zi_S)
  | 0, _, _, _ => none
  | d + 1, x, as, S => match pr x as S with
    | some r => some r
    | none => match M x with
      | none => none
      | some D => cond (Nat.ble (zi_ent as).length D.2.2.1) (zi_steps (P x) D.2.2.2.1 (zi_call P M pr f d) f 0 (zi_ent as ++ List.replicate (D.2.2.1 - (zi_ent as).length) none) [] S) none
def zi_R (d mc ms : Nat) : Room := { frames := d + 4, cells := mc, slots := ms, locals := 64 * d + 256 }
theorem zi_R_f (d mc ms : Nat) : (zi_R d mc ms).frames = d + 4 := rfl
theorem zi_R_l (d mc ms : Nat) : (zi_R d mc ms).locals = 64 * d + 256 := rfl
theorem zi_R_ok {d mc ms mL fr lo : Nat} (h1 : d + 5 ≤ fr) (h2 : 64 * d + 320 ≤ lo) (h3 : mL ≤ 40) : (zi_R d mc ms).frames + 1 ≤ fr ∧ 8 + (mL + 11) + (zi_R d mc ms).locals ≤ lo := by
  rw [zi_R_f, zi_R_l]
  omega
def zi_le (S S' : zi_S) : Prop := S.2.1 ≤ S'.2.1 ∧ S.2.2.1 ≤ S'.2.2.1 ∧ S.2.2.2 ≤ S'.2.2.2
theorem zi_le.rf {S : zi_S} : zi_le S S := ⟨Nat.le_refl _, Nat.le_refl _, Nat.le_refl _⟩
theorem zi_le.tr {S S' S'' : zi_S} (h : zi_le S S') (h' : zi_le S' S'') : zi_le S S'' := ⟨Nat.le_trans h.1 h'.1, Nat.le_trans h.2.1 h'.2.1, Nat.le_trans h.2.2 h'.2.2⟩
def zi_Pre (D : va_G) (cy : Nat → ClassId) (ad : Nat → Nat) (as : List Value) (S : zi_S) (sz : Nat) : Array Value → State → Prop := va_Pc (as.map (zi_v ad)) (fun U => U.heap.size = sz ∧ va_P D vwCl (zi_w cy ad S.1 S.2.1) U.heap ∧ va_K D vwCl (zi_tys cy) U ∧ va_D (fun _ => True) (zi_w cy ad S.1 S.2.1) ∧ (∀ w ∈ zi_nw, va_Nw w U) ∧ zi_SF ad (va_A (zi_w cy ad S.1 S.2.1) sz) U U.heap)
def zi_wfS (S : zi_S) : Prop := (∀ k, k < S.2.1 → zi_okC S.2.1 (S.1 k)) ∧ S.2.1 ≤ 1000000 ∧ ∀ k, 1000000 ≤ k → S.1 k = zi_ro k
def zi_B (D : va_G) (cy : Nat → ClassId) (ad : Nat → Nat) (S : zi_S) (v : Option Value) (S' : zi_S) (sz : Nat) (oc : Outcome) (t : State) : Prop := ∃ ad', zi_ag S.2.1 ad ad' ∧ oc = .returned v ∧ va_P D vwCl (zi_w cy ad' S'.1 S'.2.1) t.heap ∧ va_D (va_A (zi_w cy ad S.1 S.2.1) sz) (zi_w cy ad' S'.1 S'.2.1)
def zi_Post (D : va_G) (cy : Nat → ClassId) (ad : Nat → Nat) (S : zi_S) (v : Option Value) (S' : zi_S) (sz : Nat) : Array Value → State → Outcome → State → Prop := fun _ st oc t => (zi_B D cy ad S v S' sz oc t ∧ zi_wfS S') ∧ va_F (va_A (zi_w cy ad S.1 S.2.1) sz) st t
/-- what is returned is a number or nothing -/
def zi_num : Option Value → Prop
  | none => True
  | some (.int _) => True
  | some (.long _) => True
  | _ => False
theorem zi_num_v {v : Option Value} (h : zi_num v) (ad : Nat → Nat) : v.toList.map (zi_v ad) = v.toList := by
  rcases v with _ | v
  · rfl
  · cases v <;> first | rfl | exact h.elim
theorem zi_num_ok {v : Option Value} (h : zi_num v) (n : Nat) : ∀ w ∈ v.toList, zi_ok n w := by
  rcases v with _ | v
  · intro w hw
    cases hw
  · intro w hw
    have e : w = v := by simpa using hw
    subst e
    cases w <;> first | trivial | exact h.elim
/-- the contract of method x at depth d -/
def zi_Met (l : Launch) (M : Nat → Option zi_MI) (d x : Nat) (as : List Value) (S : zi_S) (v : Option Value) (S' : zi_S) : Prop := zi_le S S' ∧ zi_num v ∧ ∀ (DM : zi_MI) (D : va_G) (cy : Nat → ClassId) (ad : Nat → Nat) (sz : Nat), M x = some DM → zi_wfS S → (∀ w ∈ as, zi_ok S.2.1 w) → Met l DM.1 (Cond.code DM.1 DM.2.1 DM.2.2.1 (zi_rt DM.2.2.2.1) :: zi_tb) (zi_R d (S'.2.2.1 - S.2.2.1) (S'.2.2.2 - S.2.2.2)) (zi_Pre D cy ad as S sz) (zi_Post D cy ad S v S' sz) (S'.2.2.1 - S.2.2.1) (S'.2.2.2 - S.2.2.2) (va_A (zi_w cy ad S.1 S.2.1) sz)
theorem zi_nw_is {w : Cond} (h : w ∈ zi_nw) : zi_isN w = true := (List.mem_filter.mp h).2
theorem zi_nw_warm {s U : State} (hW : s.WarmedH U.vm) (h : ∀ w ∈ zi_nw, va_Nw w s) : ∀ w ∈ zi_nw, va_Nw w U := by
  intro w hw
  have h1 := h w hw
  have h2 := zi_nw_is hw
  cases w with
  | fieldLinkNest a b c d e f => exact va_Nw.warmF hW h1
  | methodLinkNest a b c d => exact va_Nw.warmM hW h1
  | arrayOver t =>
    cases t with
    | object C => exact va_AO.moved hW.alike h1
    | _ => cases h2
  | _ => cases h2
theorem zi_nw_same {s U : State} (hv : s.vm = U.vm) (h : ∀ w ∈ zi_nw, va_Nw w s) : ∀ w ∈ zi_nw, va_Nw w U := by
  intro w hw
  have h1 := h w hw
  have h2 := zi_nw_is hw
  cases w with
  | fieldLinkNest a b c d e f => exact va_Nw.same rfl hv h1
  | methodLinkNest a b c d => exact va_Nw.same rfl hv h1
  | arrayOver t =>
    cases t with
    | object C => exact va_AO.moved (by rw [hv]; exact Vm.Alike.refl U.vm) h1
    | _ => cases h2
  | _ => cases h2
theorem zi_blind {D : va_G} {cy : Nat → ClassId} {ad : Nat → Nat} {as : List Value} {S : zi_S} {sz : Nat} : FrameBlind (zi_Pre D cy ad as S sz) := by
  intro a U g mk q
  obtain ⟨q0, q1, qP, qK, qD, qN, qS⟩ := q
  exact ⟨q0, q1, qP, va_K.moved (u := U) (U := U.calling g mk a) (Vm.Alike.refl U.vm) qK, qD, zi_nw_same (s := U) (U := U.calling g mk a) rfl qN, zi_SF.same (u := U) (U := U.calling g mk a) qS rfl⟩
theorem zi_tb_good {w : Cond} (h : w ∈ zi_tb) : goodWord w = true := (List.mem_filter.mp h).2
theorem zi_goodIn {y : MethodName} {b : ByteArray} {mL : Nat} {ret : Option FieldType} (h : Cond.code y b mL ret ∈ zi_tb) : GoodIn zi_tb (Cond.code y b mL ret :: zi_tb) := by
  intro w hw
  rcases List.mem_cons.mp hw with rfl | hw
  · exact ⟨h, good_of_word (zi_tb_good h)⟩
  · exact ⟨hw, good_of_word (zi_tb_good hw)⟩
section ZZ
variable {p : Program} {l : Launch} {e : Env} {R : Room} {s : State} {m : MethodId} {args : Array Value} {below : List Frame} {meth : Method} {c : Code} {Q : State → Prop} {D : va_G} {cy : Nat → ClassId} {A : Nat → Prop} {cc : ByteArray} {nL n0 k0 s0 o rt : Nat} {nm : String} {ad0 : Nat → Nat} {pc pc' : Nat} {L L' : zi_L} {st st' : List Value} {S S' : zi_S} {M : Nat → Option zi_MI}
/-- behind a call -/
theorem zi_cont {H H0 : Heap} {locs : List Loc} {cells slots mc ms : Nat} {ls : Array Slot} {st0 rest : List Value} {ad : Nat → Nat} {v : Option Value} {a : Array Value} {free : Addr → Prop} (hr : va_Run p l e R s m args below meth c H locs cells slots mc ms (F0 m pc ls st0) rest (zi_Post D cy ad S v S' H.size a) free) (hS : va_S A H0 H locs) (hA : ∀ q, q < H.size → va_A (zi_w cy ad S.1 S.2.1) H.size q → A q) (hf : ∀ q, free q → A q)
    (kk : ∀ (ad' : Nat → Nat) (H1 : Heap) (locs1 : List Loc), zi_ag S.2.1 ad ad' → zi_wfS S' → va_P D vwCl (zi_w cy ad' S'.1 S'.2.1) H1 → va_D (va_A (zi_w cy ad S.1 S.2.1) H.size) (zi_w cy ad' S'.1 S'.2.1) → va_S A H0 H1 locs1 → W p l e R s m args below meth c H1 locs1 (cells + mc) (slots + ms) Q (F0 m (pc + 3) ls (v.toList ++ rest))) : W p l e R s m args below meth c H locs cells slots Q (F0 m pc ls st0) := by
  intro T hT X
  obtain ⟨v', st₀, t, T', L, h0, X', hL, e1, e2, ⟨⟨⟨ad', hag, hv, hP, hD⟩, hwf⟩, hz, hk⟩, st⟩ := hr T hT X
  cases hv
  rw [h0] at hz hk
  obtain ⟨t2, a1, b1⟩ := kk ad' T'.heap (locs ++ L) hag hwf (by rw [e1]; exact hP) hD
    ⟨Nat.le_trans hS.1 (by rw [e1]; exact hz), fun q h1 h2 => by rw [e1, hk q (Nat.lt_of_lt_of_le h1 hS.1) (fun z => h2 (hA q (Nat.lt_of_lt_of_le h1 hS.1) z))]; exact hS.2.1 q h1 h2, fun q hq => by
      rcases List.mem_append.mp hq with h | h
      · exact hS.2.2 q h
      · exact hf _ (hL q h)⟩ T' rfl X'
  exact ⟨t2, st t2 a1, b1⟩
theorem zi_pop_inv : ∀ {n : Nat} {st as bs r : List Value}, zi_pop n st bs = some (as, r) → ∃ xs, xs.length = n ∧ as = xs ++ bs ∧ st = xs.reverse ++ r
  | 0, st, as, bs, r, h => by
    cases h
    exact ⟨[], rfl, rfl, rfl⟩
  | n + 1, [], as, bs, r, h => by cases h
  | n + 1, v :: st, as, bs, r, h => by
    obtain ⟨xs, h1, h2, h3⟩ := zi_pop_inv (n := n) (st := st) (bs := v :: bs) h
    exact ⟨xs ++ [v], by simp [h1], by simp [h2], by simp [h3]⟩
theorem zi_inv_inv {x y x' : Nat} {as r : List Value} (h : zi_inv st S x y = some (.inr (.inr (x', as, r)))) : ∃ (a : Nat) (bs : List Value) (ci : Nat) (fs : List Value), x' = x ∧ as = .ref a :: bs ∧ bs.length = y ∧ st = bs.reverse ++ .ref a :: r ∧ S.1 a = .inr (ci, fs) ∧ ci = x / 200 ∧ (a < S.2.1 ∨ 1000000 ≤ a) ∧ zi_sm r = true := by
  unfold zi_inv at h
  split at h
  · rename_i a bs r' hp
    obtain ⟨xs, h1, h2, h3⟩ := zi_pop_inv hp
    rw [List.append_nil] at h2
    split at h
    · rename_i ci fs hc
      obtain ⟨h4, h5⟩ := zi_cond_inv h
      simp only [Bool.and_eq_true, Bool.or_eq_true] at h4
      cases h5
      refine ⟨a, bs, ci, fs, rfl, rfl, ?_, ?_, hc, zi_beq h4.1, zi_or (by rw [Bool.or_eq_true]; exact h4.2.1), h4.2.2⟩
      · rw [← h2] at h1
        simpa using h1
      · rw [h3, ← h2]
        simp
    · cases h
  · cases h
theorem zi_invs_inv {x y x' : Nat} {as r : List Value} (h : zi_invs st x y = some (.inr (.inr (x', as, r)))) : x' = x ∧ as.length = y ∧ st = as.reverse ++ r ∧ zi_sm r = true := by
  unfold zi_invs at h
  split at h
  · rename_i bs r' hp
    obtain ⟨xs, h1, h2, h3⟩ := zi_pop_inv hp
    rw [List.append_nil] at h2
    subst h2
    obtain ⟨h4, h5⟩ := zi_cond_inv h
    cases h5
    exact ⟨rfl, h1, h3, h4⟩
  · cases h
/-- a call that returns, seen by the caller -/
theorem zi_after {d mc ms : Nat} {ad : Nat → Nat} {ls : Array Slot} {H : Heap} {locs : List Loc} {as r : List Value} {v : Option Value} {DM : zi_MI} (hmc : mc = S'.2.2.1 - S.2.2.1) (hms : ms = S'.2.2.2 - S.2.2.2) (hA : ∀ q, s.heap.size ≤ q → A q) (hle : zi_le S S') (hnum : zi_num v) (hn0 : n0 ≤ S.2.1) (hk : k0 ≤ S.2.2.1) (hs : s0 ≤ S.2.2.2) (hag : zi_ag n0 ad0 ad) (hH : zi_Hp D cy A ad s.heap H locs S) (hL : zi_Lv ad ls nL S.2.1 L) (hst : ∀ w ∈ r, zi_ok S.2.1 w) (a : Array Value)
    (hr : va_Run p l e R s m args below meth c H locs (S.2.2.1 - k0) (S.2.2.2 - s0) mc ms (F0 m pc ls (st.map (zi_v ad))) (r.map (zi_v ad)) (zi_Post D cy ad S v S' H.size a) (va_A (zi_w cy ad S.1 S.2.1) H.size))
    (kk : zi_Go p l e R s m args below meth c Q D cy A nL n0 ad0 k0 s0 (pc + 3) L (v.toList ++ r) S') : W p l e R s m args below meth c H locs (S.2.2.1 - k0) (S.2.2.2 - s0) Q (F0 m pc ls (st.map (zi_v ad))) := by
  have hin : ∀ q, va_A (zi_w cy ad S.1 S.2.1) H.size q → A q := by
    intro q hq
    rcases hq with ⟨k, ee, hq⟩ | hq
    · exact hH.2.1.2 k _ hq
    · exact hA q (Nat.le_trans hH.2.2.1.1 hq)
  refine zi_cont hr hH.2.2.1 (fun q _ h => hin q h) hin fun ad' H1 locs1 ha hwf hP hD hS => ?_
  have k := kk ad' ls H1 locs1 (fun j hj => (ha j (by omega)).trans (hag j hj)) ⟨hP, ⟨hD.1, fun j q hq => hin _ (hD.2 j q hq)⟩, hS, hwf.1, hwf.2.1, hwf.2.2⟩ (hL.ag ha hle.1) (fun w hw => by
    rcases List.mem_append.mp hw with h | h
    · exact zi_num_ok hnum _ w h
    · exact (hst w h).mono hle.1)
  rw [List.map_append, zi_num_v hnum, zi_map_ag ha hst] at k
  have e1 : S'.2.2.1 - k0 = S.2.2.1 - k0 + mc := by have := hle.2.1; omega
  have e2 : S'.2.2.2 - s0 = S.2.2.2 - s0 + ms := by have := hle.2.2; omega
  rw [e1, e2] at k
  exact k
end ZZ
