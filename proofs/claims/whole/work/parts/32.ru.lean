/-! ===== rules of runs over the states ===== -/
def zi_run (k : List (Option zi_I)) (rt : Nat) : Nat → Nat → zi_L → List Value → zi_S → Option (Nat × zi_L × List Value × zi_S)
  | 0, pc, L, st, S => some (pc, L, st, S)
  | m + 1, pc, L, st, S => match k[pc]? with
    | some (some q) => match zi_ex rt q pc L st S with
      | some (.inl w) => zi_run k rt m w.1 w.2.1 w.2.2.1 w.2.2.2
      | _ => none
    | _ => none
section ZQ
variable {k : List (Option zi_I)} {rt d pc pc' : Nat} {L L' : zi_L} {st st' r : List Value} {S S1 S' : zi_S} {v : Option Value} {q : zi_I} {c : Nat × Nat} {s : zs}
theorem zr_many : ∀ (m : Nat) {pc : Nat} {L : zi_L} {st : List Value} {S : zi_S}, zi_run k rt m pc L st S = some (pc', L', st', S1) → zr k rt d pc' L' st' S1 v S' → zr k rt d pc L st S v S'
  | 0, pc, L, st, S, h, h3 => by
    cases h
    exact h3
  | m + 1, pc, L, st, S, h, h3 => by
    simp only [zi_run] at h
    split at h
    · rename_i q hq
      split at h
      · rename_i w hw
        obtain ⟨a, b, c, e⟩ := w
        exact zr_nx hq hw (zr_many m h h3)
      · cases h
    · cases h
/-- a cell is written: the state goes on -/
theorem zh_put {a : Nat} {x : zi_C} {s' : zs} (hc : zh s' a = x) (h : ∀ j, j ≠ a → s'.1 j = s.1 j ∧ s'.2 j = s.2 j) : zi_put (zh s) a x = zh s' := by
  funext j
  by_cases e : j = a
  · subst e
    simp only [zi_put, va_up, if_true]
    exact hc.symm
  · simp only [zi_put, va_up, if_neg e, zh]
    rw [(h j e).1, (h j e).2]
theorem zsi_ne {a i : Nat} {w : Int32} : ∀ j, j ≠ a → (zsi s a i w).1 j = s.1 j ∧ (zsi s a i w).2 j = s.2 j := fun j h => ⟨by simp [zsi, va_up, h], rfl⟩
theorem zsl_ne {a i : Nat} {w : Int64} : ∀ j, j ≠ a → (zsl s a i w).1 j = s.1 j ∧ (zsl s a i w).2 j = s.2 j := fun j h => ⟨rfl, by simp [zsl, va_up, h]⟩
theorem zsf_ne {a : Nat} {f : Nat → Int32} : ∀ j, j ≠ a → (zsf s a f).1 j = s.1 j ∧ (zsf s a f).2 j = s.2 j := fun j h => ⟨by simp [zsf, va_up, h], rfl⟩
theorem zsi_eq {a i : Nat} {w : Int32} : (zsi s a i w).1 a = upd (s.1 a) i w := by simp [zsi, va_up]
theorem zsi_eq2 {a i : Nat} {w : Int32} : (zsi s a i w).2 a = s.2 a := rfl
theorem zsl_eq {a i : Nat} {w : Int64} : (zsl s a i w).2 a = vp_updL (s.2 a) i w := by simp [zsl, va_up]
theorem zsf_eq {a : Nat} {f : Nat → Int32} : (zsf s a f).1 a = f := by simp [zsf, va_up]
theorem zq_get {ix x y a : Nat} {z : List (Int32 × Nat)} {fs : List Value} {w : Value} (h1 : k[pc]? = some (some (.getfield ix, 3, x, y, z))) (hc : zh s a = .inr (x, fs)) (ha : Nat.blt a 192 = true) (hv : fs[y]? = some w) (hp : pc + 3 = pc') (h : zr k rt d pc' L (w :: r) (zS c s) v S') : zr k rt d pc L (.ref a :: r) (zS c s) v S' := by
  subst hp
  refine zr_nx h1 ?_ h
  simp only [zi_ex, zi_getf, hc, ha, Nat.beq_refl, Bool.true_or, Bool.and_self, cond_true, hv]
  rfl
theorem zq_put {ix x y a : Nat} {z : List (Int32 × Nat)} {fs : List Value} {w : Value} {s' : zs} (h1 : k[pc]? = some (some (.putfield ix, 3, x, y, z))) (hc : zh s a = .inr (x, fs)) (ha : Nat.blt a 192 = true) (hy : Nat.blt y fs.length = true) (hf : zi_fv (zi_ft x y) w = true) (hs : zh s' a = .inr (x, fs.set y w)) (hn : ∀ j, j ≠ a → s'.1 j = s.1 j ∧ s'.2 j = s.2 j) (hp : pc + 3 = pc') (h : zr k rt d pc' L r (zS c s') v S') : zr k rt d pc L (w :: .ref a :: r) (zS c s) v S' := by
  subst hp
  refine zr_nx h1 ?_ h
  simp only [zi_ex, zi_putf, hc, ha, hy, hf, Nat.beq_refl, Bool.and_self, cond_true]
  rw [zh_put hs hn]
  rfl
theorem zq_ild {a n : Nat} {i : Int32} {f : Nat → Int32} (h1 : k[pc]? = some (some (.iaload, 1, 0, 0, []))) (hc : zh s a = .inl (0, n, .inl f)) (ha : Nat.blt a 192 = true) (hi : zi_in i n = true) (hp : pc + 1 = pc') (h : zr k rt d pc' L (.int (f i.toNatClampNeg) :: r) (zS c s) v S') : zr k rt d pc L (.int i :: .ref a :: r) (zS c s) v S' := by
  subst hp
  refine zr_nx h1 ?_ h
  simp only [zi_ex, zi_ald, hc, ha, hi, Nat.beq_refl, Bool.and_self, cond_true]
  rfl
theorem zq_zld {a n : Nat} {i : Int32} {f : Nat → Int32} (h1 : k[pc]? = some (some (.baload, 1, 0, 0, []))) (hc : zh s a = .inl (2, n, .inl f)) (ha : Nat.blt a 192 = true) (hi : zi_in i n = true) (hp : pc + 1 = pc') (h : zr k rt d pc' L (.int (f i.toNatClampNeg) :: r) (zS c s) v S') : zr k rt d pc L (.int i :: .ref a :: r) (zS c s) v S' := by
  subst hp
  refine zr_nx h1 ?_ h
  simp only [zi_ex, zi_bald, hc, ha, hi, Nat.beq_refl, Bool.true_or, Bool.and_self, cond_true]
  rfl
theorem zq_lld {a n : Nat} {i : Int32} {f : Nat → Int64} (h1 : k[pc]? = some (some (.laload, 1, 0, 0, []))) (hc : zh s a = .inl (1, n, .inr (.inl f))) (ha : Nat.blt a 192 = true) (hi : zi_in i n = true) (hp : pc + 1 = pc') (h : zr k rt d pc' L (.long (f i.toNatClampNeg) :: r) (zS c s) v S') : zr k rt d pc L (.int i :: .ref a :: r) (zS c s) v S' := by
  subst hp
  refine zr_nx h1 ?_ h
  simp only [zi_ex, zi_lald, hc, ha, hi, Nat.beq_refl, Bool.and_self, cond_true]
  rfl
theorem zq_ald {a n b : Nat} {i : Int32} (h1 : k[pc]? = some (some (.aaload, 1, 0, 0, []))) (hc : zh s a = .inl (3, n, .inr (.inr (.inr (.inr (fun i => if i < n then some (b + 6 * i) else none)))))) (ha : Nat.blt a 192 = true) (hi : zi_in i n = true) (hp : pc + 1 = pc') (h : zr k rt d pc' L (.ref (b + 6 * i.toNatClampNeg) :: r) (zS c s) v S') : zr k rt d pc L (.int i :: .ref a :: r) (zS c s) v S' := by
  subst hp
  refine zr_nx h1 ?_ h
  have hlt : i.toNatClampNeg < n := Nat.not_le.mp fun q => zi_in_vp hi (Or.inr q)
  simp only [zi_ex, zi_aald, hc, ha, hi, Nat.beq_refl, Bool.and_self, cond_true, if_pos hlt]
  rfl
theorem zq_ist {a n : Nat} {i w : Int32} (h1 : k[pc]? = some (some (.iastore, 1, 0, 0, []))) (hc : ∀ s : zs, zh s a = .inl (0, n, .inl (s.1 a))) (ha : Nat.blt a 192 = true) (hi : zi_in i n = true) (hp : pc + 1 = pc') (h : zr k rt d pc' L r (zS c (zsi s a i.toNatClampNeg w)) v S') : zr k rt d pc L (.int w :: .int i :: .ref a :: r) (zS c s) v S' := by
  subst hp
  refine zr_nx h1 ?_ h
  simp only [zi_ex, zi_ast, hc, ha, hi, Nat.beq_refl, Bool.and_self, cond_true]
  rw [zh_put (s' := zsi s a i.toNatClampNeg w) (by rw [hc, zsi_eq]) zsi_ne]
  rfl
theorem zq_zst {a n : Nat} {i w : Int32} (h1 : k[pc]? = some (some (.bastore, 1, 0, 0, []))) (hc : ∀ s : zs, zh s a = .inl (2, n, .inl (s.1 a))) (ha : Nat.blt a 192 = true) (hi : zi_in i n = true) (hp : pc + 1 = pc') (h : zr k rt d pc' L r (zS c (zsi s a i.toNatClampNeg (vp_nar .boolean w))) v S') : zr k rt d pc L (.int w :: .int i :: .ref a :: r) (zS c s) v S' := by
  subst hp
  refine zr_nx h1 ?_ h
  simp only [zi_ex, zi_ast, hc, ha, hi, Nat.beq_refl, Bool.and_self, cond_true]
  rw [zh_put (s' := zsi s a i.toNatClampNeg (vp_nar .boolean w)) (by rw [hc, zsi_eq]) zsi_ne]
  rfl
theorem zq_lst {a n : Nat} {i : Int32} {w : Int64} (h1 : k[pc]? = some (some (.lastore, 1, 0, 0, []))) (hc : ∀ s : zs, zh s a = .inl (1, n, .inr (.inl (s.2 a)))) (ha : Nat.blt a 192 = true) (hi : zi_in i n = true) (hp : pc + 1 = pc') (h : zr k rt d pc' L r (zS c (zsl s a i.toNatClampNeg w)) v S') : zr k rt d pc L (.long w :: .int i :: .ref a :: r) (zS c s) v S' := by
  subst hp
  refine zr_nx h1 ?_ h
  simp only [zi_ex, zi_last, hc, ha, hi, Nat.beq_refl, Bool.and_self, cond_true]
  rw [zh_put (s' := zsl s a i.toNatClampNeg w) (by rw [hc, zsl_eq]) zsl_ne]
  rfl
theorem zq_if1 {x : Int32} {off : Int} {tgt : Nat} {z : List (Int32 × Nat)} {kd : ClassFile.Cond} {b : Prop} (h1 : k[pc]? = some (some (.ifCond kd off, 3, tgt, 0, z))) (hb : b ↔ (match kd with
  | .eq => x = 0
  | .ne => ¬ x = 0
  | .lt => x < 0
  | .ge => 0 ≤ x
  | .gt => 0 < x
  | .le => x ≤ 0)) (hp : pc + 3 = pc') (ht : b → zr k rt d tgt L r S v S') (hf : ¬ b → zr k rt d pc' L r S v S') : zr k rt d pc L (.int x :: r) S v S' := by
  subst hp
  by_cases h : b
  · refine zr_nx h1 ?_ (ht h)
    have h := hb.mp h
    cases kd <;> simp only [zi_ex, zi_if1, zi_br] <;> exact if_pos h
  · refine zr_nx h1 ?_ (hf h)
    have h := fun q => h (hb.mpr q)
    cases kd <;> simp only [zi_ex, zi_if1, zi_br] <;> exact if_neg h
theorem zq_if2 {x y : Int32} {off : Int} {tgt : Nat} {z : List (Int32 × Nat)} {kd : ClassFile.Cond} {b : Prop} (h1 : k[pc]? = some (some (.if_icmp kd off, 3, tgt, 0, z))) (hb : b ↔ (match kd with
  | .eq => x = y
  | .ne => ¬ x = y
  | .lt => x < y
  | .ge => y ≤ x
  | .gt => y < x
  | .le => x ≤ y)) (hp : pc + 3 = pc') (ht : b → zr k rt d tgt L r S v S') (hf : ¬ b → zr k rt d pc' L r S v S') : zr k rt d pc L (.int y :: .int x :: r) S v S' := by
  subst hp
  by_cases h : b
  · refine zr_nx h1 ?_ (ht h)
    have h := hb.mp h
    cases kd <;> simp only [zi_ex, zi_if2, zi_br] <;> exact if_pos h
  · refine zr_nx h1 ?_ (hf h)
    have h := fun q => h (hb.mpr q)
    cases kd <;> simp only [zi_ex, zi_if2, zi_br] <;> exact if_neg h
theorem zq_idiv {x y : Int32} (h1 : k[pc]? = some (some (.idiv, 1, 0, 0, []))) (hy : ¬ y = 0) (hp : pc + 1 = pc') (h : zr k rt d pc' L (.int (x / y) :: r) S v S') : zr k rt d pc L (.int y :: .int x :: r) S v S' := by
  subst hp
  refine zr_nx h1 ?_ h
  simp only [zi_ex, if_neg hy]
  rfl
theorem zq_irem {x y : Int32} (h1 : k[pc]? = some (some (.irem, 1, 0, 0, []))) (hy : ¬ y = 0) (hp : pc + 1 = pc') (h : zr k rt d pc' L (.int (x - x / y * y) :: r) S v S') : zr k rt d pc L (.int y :: .int x :: r) S v S' := by
  subst hp
  refine zr_nx h1 ?_ h
  simp only [zi_ex, if_neg hy]
  rfl
theorem zq_ldiv {x y : Int64} (h1 : k[pc]? = some (some (.ldiv, 1, 0, 0, []))) (hy : ¬ y = 0) (hp : pc + 1 = pc') (h : zr k rt d pc' L (.long (x / y) :: r) S v S') : zr k rt d pc L (.long y :: .long x :: r) S v S' := by
  subst hp
  refine zr_nx h1 ?_ h
  simp only [zi_ex, if_neg hy]
  rfl
theorem zq_lrem {x y : Int64} (h1 : k[pc]? = some (some (.lrem, 1, 0, 0, []))) (hy : ¬ y = 0) (hp : pc + 1 = pc') (h : zr k rt d pc' L (.long (x - x / y * y) :: r) S v S') : zr k rt d pc L (.long y :: .long x :: r) S v S' := by
  subst hp
  refine zr_nx h1 ?_ h
  simp only [zi_ex, if_neg hy]
  rfl
/-- a switch: which target -/
theorem zq_sw {x : Int32} {z : List (Int32 × Nat)} {df len : Nat} (h1 : (∃ a b e f, k[pc]? = some (some (.tableswitch a b e f, len, df, 0, z))) ∨ ∃ a b, k[pc]? = some (some (.lookupswitch a b, len, df, 0, z))) (h : zr k rt d (zi_sw x z df) L r S v S') : zr k rt d pc L (.int x :: r) S v S' := by
  rcases h1 with ⟨_, _, _, _, h1⟩ | ⟨_, _, h1⟩
  · exact zr_nx h1 rfl h
  · exact zr_nx h1 rfl h
theorem zq_cpy {ix a b na nb : Nat} {sp dp n : Int32} {z : List (Int32 × Nat)} (h1 : k[pc]? = some (some (.invokestatic ix, 3, 9003, 0, z))) (hc : ∀ s : zs, zh s a = .inl (0, na, .inl (s.1 a))) (hb : zh s b = .inl (0, nb, .inl (s.1 b))) (ha : Nat.blt a 192 = true) (hbl : Nat.blt b 192 = true) (h2 : zi_in sp 100000 = true) (h3 : zi_in dp 100000 = true) (h4 : zi_in n 100000 = true) (h5 : Nat.ble (sp.toNatClampNeg + n.toNatClampNeg) nb = true) (h6 : Nat.ble (dp.toNatClampNeg + n.toNatClampNeg) na = true) (h7 : zi_sm r = true) (hp : pc + 3 = pc') (h : zr k rt d pc' L r (zS c (zsf s a (va_cpy (s.1 b) (s.1 a) sp.toNatClampNeg dp.toNatClampNeg n.toNatClampNeg))) v S') : zr k rt d pc L (.int n :: .int dp :: .ref a :: .int sp :: .ref b :: r) (zS c s) v S' := by
  subst hp
  refine zr_nx h1 ?_ h
  simp only [zi_ex, zi_cpy, hc, hb, ha, hbl, h2, h3, h4, h5, h6, h7, Nat.beq_refl, Bool.and_self, cond_true]
  rw [zh_put (s' := zsf s a (va_cpy (s.1 b) (s.1 a) sp.toNatClampNeg dp.toNatClampNeg n.toNatClampNeg)) (by rw [hc, zsf_eq]) zsf_ne]
  rfl
theorem zq_call {ix x y a co : Nat} {z : List (Int32 × Nat)} {fs as : List Value} {u : Option Value} (h1 : k[pc]? = some (some (.invokevirtual ix, 3, x, y, z))) (hpop : zi_pop (y + 1) st [] = some (.ref a :: as, r)) (hc : zh s a = .inr (co, fs)) (hx : Nat.beq co (x / 200) = true) (ha : Nat.blt a 192 = true) (hsm : zi_sm r = true) (hz : zc d x (.ref a :: as) (zS c s) u S1) (hp : pc + 3 = pc') (h : zr k rt d pc' L (u.toList ++ r) S1 v S') : zr k rt d pc L st (zS c s) v S' := by
  subst hp
  refine zr_cl h1 ?_ hz h
  simp only [zi_ex, zi_inv, hpop, hc, hx, ha, hsm, Bool.true_or, Bool.and_self, cond_true]
theorem zq_calls {ix x y : Nat} {z : List (Int32 × Nat)} {as : List Value} {u : Option Value} (h1 : k[pc]? = some (some (.invokestatic ix, 3, x, y, z))) (hx : x < 9000) (hpop : zi_pop y st [] = some (as, r)) (hsm : zi_sm r = true) (hz : zc d x as S u S1) (hp : pc + 3 = pc') (h : zr k rt d pc' L (u.toList ++ r) S1 v S') : zr k rt d pc L st S v S' := by
  subst hp
  refine zr_cl h1 ?_ hz h
  have e : zi_ex rt (.invokestatic ix, 3, x, y, z) pc L st S = zi_invs st x y := by
    simp only [zi_ex]
    split
    · omega
    · omega
    · omega
    · rfl
  rw [e]
  simp only [zi_invs, hpop, hsm, cond_true]
theorem zq_iret {x : Int32} (h1 : k[pc]? = some (some (.ireturn, 1, 0, 0, []))) : zr k 1 d pc L [.int x] S (some (.int x)) S := zr_rt h1 rfl
theorem zq_zret {x : Int32} (h1 : k[pc]? = some (some (.ireturn, 1, 0, 0, []))) (hx : x = 0 ∨ x = 1) : zr k 2 d pc L [.int x] S (some (.int x)) S := zr_rt h1 (by simp only [zi_ex, if_pos hx])
theorem zq_lret {x : Int64} (h1 : k[pc]? = some (some (.lreturn, 1, 0, 0, []))) : zr k 3 d pc L [.long x] S (some (.long x)) S := zr_rt h1 rfl
theorem zq_vret (h1 : k[pc]? = some (some (.return_, 1, 0, 0, []))) : zr k 0 d pc L [] S none S := zr_rt h1 rfl
end ZQ
