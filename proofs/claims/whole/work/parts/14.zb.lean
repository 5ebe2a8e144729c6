/-! ===== a run of the abstract machine is a run of the machine ===== -/
/-- the program's tables are right -/
def zi_Prog (P : Nat → Nat → Option zi_I) (M : Nat → Option zi_MI) : Prop := ∀ (x : Nat) (DM : zi_MI), M x = some DM → plainName DM.1.cls = true ∧ DM.1.cls = zi_cn (x / 200) ∧ ∀ (pc : Nat) (q : zi_I), P x pc = some q → decode DM.2.1 pc = .ok (q.1, q.2.1) ∧ q.2.1 = zi_ln q.1 q.2.1 ∧ zi_good M DM.1.name (x / 200) pc q
theorem zi_num_ret {rt pc : Nat} {q : zi_I} {L : zi_L} {st : List Value} {S : zi_S} {v : Option Value} (h : zi_ex rt q pc L st S = some (.inr (.inl v))) : zi_num v := by
  obtain ⟨i, len, x, y, z⟩ := q
  have key : i = .ireturn ∨ i = .lreturn ∨ i = .return_ := by
    rcases zi_ex_kind (rt := rt) (q := (i, len, x, y, z)) (pc := pc) (L := L) (st := st) (S := S) with h' | ⟨ix, h1, h2⟩ | ⟨ix, h1, h0, h2⟩ | ⟨ix, h1, -, -, -, h2⟩ | ⟨h', -⟩
    · obtain ⟨w, hw, -⟩ := h' _ h
      cases hw
    · rw [h2] at h
      exact absurd h zi_inv_nr
    · rw [h2] at h
      exact absurd h zi_inv_nr
    · rw [h2] at h
      exact absurd h zi_invs_nr
    · exact h'
  rcases key with rfl | rfl | rfl <;> simp only [zi_ex] at h <;> (repeat' split at h) <;> first | (cases h; done) | (cases h; trivial)
theorem zi_steps_le {P : Nat → Option zi_I} {rt : Nat} {call : Nat → List Value → zi_S → Option (Option Value × zi_S)} (hc : ∀ x as S v S', call x as S = some (v, S') → zi_le S S' ∧ zi_num v) : ∀ (f pc : Nat) (L : zi_L) (st : List Value) (S : zi_S) (v : Option Value) (S' : zi_S), zi_steps P rt call f pc L st S = some (v, S') → zi_le S S' ∧ zi_num v
  | 0, _, _, _, _, _, _, h => by cases h
  | f + 1, pc, L, st, S, v, S', h => by
    simp only [zi_steps] at h
    split at h
    · cases h
    · rename_i q hq
      split at h
      · cases h
      · rename_i w hw
        have h1 := zi_steps_le hc f _ _ _ _ _ _ h
        rcases zi_ex_kind (rt := rt) (q := q) (pc := pc) (L := L) (st := st) (S := S) with h' | ⟨ix, e1, h2⟩ | ⟨ix, e1, h0, h2⟩ | ⟨ix, e1, -, -, -, h2⟩ | ⟨-, h'⟩
        · obtain ⟨w', hw', hle⟩ := h' _ hw
          cases hw'
          exact ⟨hle.tr h1.1, h1.2⟩
        · rw [h2] at hw
          exact absurd hw zi_inv_nx
        · rw [h2] at hw
          exact absurd hw zi_inv_nx
        · rw [h2] at hw
          exact absurd hw zi_invs_nx
        · obtain ⟨v', hv'⟩ := h' _ hw
          cases hv'
      · rename_i w hw
        cases h
        exact ⟨zi_le.rf, zi_num_ret hw⟩
      · rename_i w hw
        split at h
        · cases h
        · rename_i u hu
          have h1 := zi_steps_le hc f _ _ _ _ _ _ h
          exact ⟨(hc _ _ _ u.1 u.2 hu).1.tr h1.1, h1.2⟩
section ZBB
variable {p : Program} {l : Launch} {e : Env} {R : Room} {s : State} {m : MethodId} {args : Array Value} {below : List Frame} {meth : Method} {c : Code} {D : va_G} {cy : Nat → ClassId} {d x : Nat} {ad0 : Nat → Nat} {S0 S' : zi_S} {M : Nat → Option zi_MI} {v : Option Value} {P : Nat → Nat → Option zi_I} {call : Nat → List Value → zi_S → Option (Option Value × zi_S)} {DM : zi_MI}
theorem zi_go (hP : zi_Prog P M) (hDM : M x = some DM) (hcall : ∀ x as S v S', call x as S = some (v, S') → zi_Met l M d x as S v S') (hRf : d + 5 ≤ R.frames) (hRl : 64 * d + 320 ≤ R.locals) (hRc : S'.2.2.1 - S0.2.2.1 ≤ R.cells) (hRs : S'.2.2.2 - S0.2.2.2 ≤ R.slots)
    (X : zi_X p s m args meth c R D cy (va_A (zi_w cy ad0 S0.1 S0.2.1) s.heap.size) DM.2.1 DM.2.2.1 (x / 200) DM.1.name DM.2.2.2.1 ad0) : ∀ (f pc : Nat) (L : zi_L) (st : List Value) (S : zi_S), zi_le S0 S → zi_steps (P x) DM.2.2.2.1 call f pc L st S = some (v, S') → zi_Go p l e R s m args below meth c (MQ below (zi_Post D cy ad0 S0 v S' s.heap.size) args s (S'.2.2.1 - S0.2.2.1) (S'.2.2.2 - S0.2.2.2) (va_A (zi_w cy ad0 S0.1 S0.2.1) s.heap.size)) D cy (va_A (zi_w cy ad0 S0.1 S0.2.1) s.heap.size) DM.2.2.1 S0.2.1 ad0 S0.2.2.1 S0.2.2.2 pc L st S
  | 0, _, _, _, _, _, h => by cases h
  | f + 1, pc, L, st, S, hle, h => by
    have hc' : ∀ x as S v S', call x as S = some (v, S') → zi_le S S' ∧ zi_num v := fun x as S v S' hh => ⟨(hcall x as S v S' hh).1, (hcall x as S v S' hh).2.1⟩
    simp only [zi_steps] at h
    split at h
    · cases h
    · rename_i q hq
      obtain ⟨hd, hlen, hg⟩ := (hP x DM hDM).2.2 pc q hq
      split at h
      · cases h
      · rename_i w hw
        obtain ⟨pc', L', st', S1⟩ := w
        have hle1 : zi_le S S1 := by
          rcases zi_ex_kind (rt := DM.2.2.2.1) (q := q) (pc := pc) (L := L) (st := st) (S := S) with h' | ⟨ix, e1, h2⟩ | ⟨ix, e1, h0, h2⟩ | ⟨ix, e1, -, -, -, h2⟩ | ⟨-, h'⟩
          · obtain ⟨w', hw', hle⟩ := h' _ hw
            cases hw'
            exact hle
          · rw [h2] at hw
            exact absurd hw zi_inv_nx
          · rw [h2] at hw
            exact absurd hw zi_inv_nx
          · rw [h2] at hw
            exact absurd hw zi_invs_nx
          · obtain ⟨v', hv'⟩ := h' _ hw
            cases hv'
        have h2 := zi_steps_le hc' f _ _ _ _ _ _ h
        have hle2 := h2.1.2
        exact zi_step X hd hlen hg hw hle.1 hle.2.1 hle.2.2 (Nat.le_trans (Nat.sub_le_sub_right hle2.1 _) hRc) (Nat.le_trans (Nat.sub_le_sub_right hle2.2 _) hRs) (zi_go hP hDM hcall hRf hRl hRc hRs X f pc' L' st' S1 (hle.tr hle1) h)
      · rename_i w hw
        cases h
        exact (zi_c_R X hd hlen hw).2
      · rename_i w hw
        obtain ⟨x', as, r⟩ := w
        split at h
        · cases h
        · rename_i u hu
          obtain ⟨v1, S1⟩ := u
          have hM := hcall _ _ _ _ _ hu
          have h2 := zi_steps_le hc' f _ _ _ _ _ _ h
          have hle2 := h2.1.2
          have kk := zi_go hP hDM hcall hRf hRl hRc hRs X f (pc + 3) L (v1.toList ++ r) S1 (hle.tr hM.1) h
          have b1 := Nat.le_trans (Nat.sub_le_sub_right hle2.1 S0.2.2.1) hRc
          have b2 := Nat.le_trans (Nat.sub_le_sub_right hle2.2 S0.2.2.2) hRs
          obtain ⟨i, len, x1, y1, z1⟩ := q
          dsimp only at hd hlen
          rcases zi_ex_kind (rt := DM.2.2.2.1) (q := (i, len, x1, y1, z1)) (pc := pc) (L := L) (st := st) (S := S) with h' | ⟨ix, e1, h2⟩ | ⟨ix, e1, h0, h2⟩ | ⟨ix, e1, n1, n2, n3, h2⟩ | ⟨-, h'⟩
          · obtain ⟨w', hw', -⟩ := h' _ hw
            cases hw'
          · rw [h2] at hw
            have e1 : i = .invokevirtual ix := e1
            subst e1
            have hlen : len = 3 := hlen
            subst hlen
            exact zi_c_V X hRf hRl hd hg hw hM hle.1 hle.2.1 hle.2.2 b1 b2 kk
          · rw [h2] at hw
            have e1 : i = .invokespecial ix := e1
            subst e1
            have hlen : len = 3 := hlen
            subst hlen
            have h0 : ¬ x1 = 9000 := h0
            simp only [zi_good, if_neg h0] at hg
            exact zi_c_I X hRf hRl hd hg hw hM hle.1 hle.2.1 hle.2.2 b1 b2 kk
          · rw [h2] at hw
            have e1 : i = .invokestatic ix := e1
            subst e1
            have hlen : len = 3 := hlen
            subst hlen
            have n1 : ¬ x1 = 9001 := n1
            have n2 : ¬ x1 = 9002 := n2
            have n3 : ¬ x1 = 9003 := n3
            simp only [zi_good, if_neg n1, if_neg n2, if_neg n3] at hg
            exact zi_c_S X hRf hRl hd hg hw hM hle.1 hle.2.1 hle.2.2 b1 b2 kk
          · obtain ⟨v', hv'⟩ := h' _ hw
            cases hv'
end ZBB
/-! the locals with which a method begins -/
theorem zi_ent_ld : ∀ (as : List Value) (i k : Nat) (w : Value), zi_ld (zi_ent as) k = some w → (i + k, w) ∈ lv_args i as
  | [], i, k, w, h => by simp [zi_ent, zi_ld] at h
  | a :: as, i, k, w, h => by
    have two : a.category = 2 → zi_ent (a :: as) = some a :: none :: zi_ent as → (i + k, w) ∈ lv_args i (a :: as) := by
      intro hc e
      rw [e] at h
      simp only [lv_args, if_pos hc]
      match k, h with
      | 0, h =>
        simp [zi_ld] at h
        subst h
        simp
      | 1, h => simp [zi_ld] at h
      | k + 2, h =>
        have h' : zi_ld (zi_ent as) k = some w := by simpa [zi_ld] using h
        have := zi_ent_ld as (i + 2) k w h'
        rw [show i + 2 + k = i + (k + 2) by omega] at this
        exact List.mem_cons_of_mem _ this
    have one : ¬ a.category = 2 → zi_ent (a :: as) = some a :: zi_ent as → (i + k, w) ∈ lv_args i (a :: as) := by
      intro hc e
      rw [e] at h
      simp only [lv_args, if_neg hc]
      match k, h with
      | 0, h =>
        simp [zi_ld] at h
        subst h
        simp
      | k + 1, h =>
        have h' : zi_ld (zi_ent as) k = some w := by simpa [zi_ld] using h
        have := zi_ent_ld as (i + 1) k w h'
        rw [show i + 1 + k = i + (k + 1) by omega] at this
        exact List.mem_cons_of_mem _ this
    cases a with
    | long v => exact two rfl rfl
    | double v => exact two rfl rfl
    | _ => exact one (by simp [Value.category]) rfl
theorem zi_args_map (ad : Nat → Nat) : ∀ (as : List Value) (i : Nat), lv_args i (as.map (zi_v ad)) = (lv_args i as).map (fun q => (q.1, zi_v ad q.2))
  | [], _ => rfl
  | a :: as, i => by
    simp only [List.map_cons, lv_args, zi_v_cat]
    rw [zi_args_map ad as]
theorem zi_sl_len (ad : Nat → Nat) : ∀ (as : List Value), (lg_sl (as.map (zi_v ad))).length = (zi_ent as).length
  | [] => rfl
  | a :: as => by
    have h := zi_sl_len ad as
    simp only [lg_sl, List.map_cons, List.flatMap_cons] at h ⊢
    rw [List.length_append, h]
    cases a <;> simp [zi_ent, zi_v, Value.category] <;> omega
theorem zi_ent_ok {n : Nat} : ∀ {as : List Value}, (∀ w ∈ as, zi_ok n w) → ∀ k w, zi_ld (zi_ent as) k = some w → zi_ok n w := by
  intro as h k w hk
  have h1 := zi_ent_ld as 0 k w hk
  have : ∀ (as : List Value) (i j : Nat) (w : Value), (j, w) ∈ lv_args i as → w ∈ as := by
    intro as
    induction as with
    | nil => intro i j w h; cases h
    | cons a as ih =>
      intro i j w h
      simp only [lv_args] at h
      rcases List.mem_cons.mp h with h | h
      · cases h; exact List.mem_cons_self
      · exact List.mem_cons_of_mem _ (ih _ _ _ h)
  exact h w (this as 0 _ w h1)
theorem zi_pad_ld {L : zi_L} {n k : Nat} {w : Value} (h : zi_ld (L ++ List.replicate n none) k = some w) : zi_ld L k = some w := by
  unfold zi_ld at h
  split at h
  · rename_i v hv
    cases h
    rcases Nat.lt_or_ge k L.length with hk | hk
    · rw [List.getElem?_append_left hk] at hv
      simp [zi_ld, hv]
    · rw [List.getElem?_append_right hk] at hv
      have := List.eq_of_mem_replicate (List.mem_of_getElem? hv)
      cases this
  · cases h
theorem zi_entry {ad : Nat → Nat} {as : List Value} {n mL : Nat} (hl : (zi_ent as).length ≤ mL) (hok : ∀ w ∈ as, zi_ok n w) : zi_Lv ad ((lg_sl (as.map (zi_v ad)) ++ List.replicate (mL - (lg_sl (as.map (zi_v ad))).length) Slot.unset).toArray) mL n (zi_ent as ++ List.replicate (mL - (zi_ent as).length) none) := by
  have h := lv_entry (as.map (zi_v ad)) (n := mL) (by rw [zi_sl_len]; exact hl)
  refine ⟨h.1, by simp; omega, h.2.1, fun k w hk => ?_⟩
  have h1 := zi_pad_ld hk
  have h2 := zi_ent_ld as 0 k w h1
  refine ⟨h.2.2 (k, zi_v ad w) ?_, zi_ent_ok hok k w h1⟩
  rw [zi_args_map]
  rw [Nat.zero_add] at h2
  exact List.mem_map.mpr ⟨(k, w), h2, rfl⟩
/-- SOUND: what the abstract machine answers, the method does -/
theorem zi_sound {l : Launch} {P : Nat → Nat → Option zi_I} {M : Nat → Option zi_MI} {pr : Nat → List Value → zi_S → Option (Option Value × zi_S)} {f : Nat} (hP : zi_Prog P M) (hcls : zi_cls) (hpr : ∀ d x as S v S', pr x as S = some (v, S') → zi_Met l M (d + 1) x as S v S') : ∀ (d x : Nat) (as : List Value) (S : zi_S) (v : Option Value) (S' : zi_S), zi_call P M pr f d x as S = some (v, S') → zi_Met l M d x as S v S'
  | 0, _, _, _, _, _, h => by cases h
  | d + 1, x, as, S, v, S', h => by
    simp only [zi_call] at h
    split at h
    · rename_i r hr
      cases h
      exact hpr d x as S v S' hr
    · split at h
      · cases h
      · rename_i DM hDM
        obtain ⟨hlen, h⟩ := zi_cond_inv h
        have hlen := Nat.le_of_ble_eq_true hlen
        have ih := zi_sound (l := l) (pr := pr) (f := f) hP hcls hpr d
        have hle := zi_steps_le (fun x as S v S' hh => ⟨(ih x as S v S' hh).1, (ih x as S v S' hh).2.1⟩) _ _ _ _ _ _ _ h
        refine ⟨hle.1, hle.2, ?_⟩
        intro DM' D cy ad sz hDM' hwf hok
        rw [hDM] at hDM'
        cases hDM'
        refine Met.ofW (cc := DM.2.1) (maxL := DM.2.2.1) (ret := zi_rt DM.2.2.2.1) (hP x DM hDM).1 rfl ?_
        intro p e s m args below meth c s₁ B hml hv
        obtain ⟨rfl, hsz, hPp, hK, hD0, hN, hSF⟩ := hv
        subst hsz
        have hts := atoms_spec (ws := Cond.code DM.1 DM.2.1 DM.2.2.1 (zi_rt DM.2.2.2.1) :: zi_tb) B.pre
        have hown : s.vm.findClass (zi_cn (x / 200)) = some m.cls := by
          rw [← (hP x DM hDM).2.1]
          exact findClass_of_methodNamed B.named
        have hname : meth.name = DM.1.name := (name_of_methodNamed B.named B.method).1
        rw [lg_entry_eq]
        have X : zi_X p s m (as.map (zi_v ad)).toArray meth c (headSpec (Cond.code DM.1 DM.2.1 DM.2.2.1 (zi_rt DM.2.2.2.1) :: zi_tb) (zi_R (d + 1) (S'.2.2.1 - S.2.2.1) (S'.2.2.2 - S.2.2.2))).room D cy (va_A (zi_w cy ad S.1 S.2.1) s.heap.size) DM.2.1 DM.2.2.1 (x / 200) DM.1.name DM.2.2.2.1 ad :=
          ⟨B.exec, B.bytes, hml, hown, fun w hw => hts w (List.mem_cons_of_mem _ hw), hN, hK, fun q h => Or.inr h, hcls, hname, B.returns, B.notSynchronized, Nat.le_add_left 1 (d + 4), by show 64 ≤ 64 * (d + 1) + 256; omega, hSF⟩
        have G := zi_go (e := e) (below := below) (R := (headSpec (Cond.code DM.1 DM.2.1 DM.2.2.1 (zi_rt DM.2.2.2.1) :: zi_tb) (zi_R (d + 1) (S'.2.2.1 - S.2.2.1) (S'.2.2.2 - S.2.2.2))).room) hP hDM ih (by show d + 5 ≤ d + 1 + 4; omega) (by show 64 * d + 320 ≤ 64 * (d + 1) + 256; omega) (Nat.le_refl _) (Nat.le_refl _) X f 0 _ _ S zi_le.rf h
        have g := G ad _ s.heap [] zi_ag.rf ⟨hPp, hD0.self, va_S.rf, hwf.1, hwf.2.1, hwf.2.2⟩ (zi_entry hlen hok) (fun w hw => by cases hw)
        rw [Nat.sub_self, Nat.sub_self] at g
        exact g
