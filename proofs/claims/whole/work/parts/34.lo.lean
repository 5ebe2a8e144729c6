/-! ===== loops and calls of the decompiled functions ===== -/
def zl {α β : Type} (body : α → Option (α ⊕ β)) : Nat → α → Option β
  | 0, _ => none
  | n + 1, a => match body a with
    | none => none
    | some (.inl a') => zl body n a'
    | some (.inr b) => some b
theorem zl_cert {α β : Type} {body : α → Option (α ⊕ β)} {Z : α → Prop} {Y : β → Prop} (hs : ∀ a o, body a = some o → (∀ a', o = .inl a' → Z a') → (∀ b, o = .inr b → Y b) → Z a) : ∀ (n : Nat) (a : α) (b : β), zl body n a = some b → Y b → Z a
  | 0, _, _, h, _ => by cases h
  | n + 1, a, b, h, hy => by
    simp only [zl] at h
    split at h
    · cases h
    · rename_i a' ha
      exact hs a _ ha (fun a'' e => by cases e; exact zl_cert hs n a' b h hy) (fun b' e => by cases e)
    · rename_i b' hb
      cases h
      exact hs a _ hb (fun a'' e => by cases e) (fun b' e => by cases e; exact hy)
/-- a call that writes and answers -/
def zb {α β : Type} (o : Option (α × zs)) (f : α → zs → Option β) : Option β := match o with
  | some w => f w.1 w.2
  | none => none
theorem zb_inv {α β : Type} {o : Option (α × zs)} {f : α → zs → Option β} {b : β} (h : zb o f = some b) : ∃ r s, o = some (r, s) ∧ f r s = some b := by
  cases o with
  | none => cases h
  | some w => exact ⟨w.1, w.2, rfl, h⟩
def zp {α β : Type} (o : Option α) (f : α → Option β) : Option β := match o with
  | some w => f w
  | none => none
theorem zp_inv {α β : Type} {o : Option α} {f : α → Option β} {b : β} (h : zp o f = some b) : ∃ r, o = some r ∧ f r = some b := by
  cases o with
  | none => cases h
  | some w => exact ⟨w, rfl, h⟩
/-- a loop that may return -/
def zw {ρ ε β : Type} (o : Option (ρ ⊕ ε)) (f : ρ → Option β) (g : ε → Option β) : Option β := match o with
  | some (.inl r) => f r
  | some (.inr w) => g w
  | none => none
theorem zw_inv {ρ ε β : Type} {o : Option (ρ ⊕ ε)} {f : ρ → Option β} {g : ε → Option β} {b : β} (h : zw o f g = some b) : (∃ r, o = some (.inl r) ∧ f r = some b) ∨ ∃ w, o = some (.inr w) ∧ g w = some b := by
  cases o with
  | none => cases h
  | some w =>
    cases w with
    | inl r => exact Or.inl ⟨r, rfl, h⟩
    | inr w => exact Or.inr ⟨w, rfl, h⟩
theorem zn_inv {α : Type} {b : Prop} [Decidable b] {x : Option α} {y : α} (h : (if b then none else x) = some y) : ¬ b ∧ x = some y := by
  split at h
  · cases h
  · exact ⟨by assumption, h⟩
theorem zt_inv {α : Type} {b : Prop} [Decidable b] {x : Option α} {y : α} (h : (if b then x else none) = some y) : b ∧ x = some y := by
  split at h
  · exact ⟨by assumption, h⟩
  · cases h
theorem zi_sw_pos {v k : Int32} {t d : Nat} {r : List (Int32 × Nat)} (h : v = k) : zi_sw v ((k, t) :: r) d = t := by simp only [zi_sw, if_pos h]
theorem zi_sw_neg {v k : Int32} {t d : Nat} {r : List (Int32 × Nat)} (h : ¬ v = k) : zi_sw v ((k, t) :: r) d = zi_sw v r d := by simp only [zi_sw, if_neg h]
section ZQ2
variable {k : List (Option zi_I)} {rt d pc pc' : Nat} {L : zi_L} {st r : List Value} {S S1 S' : zi_S} {v : Option Value} {c : Nat × Nat} {s : zs}
theorem zq_call1 {ix x y a co : Nat} {z : List (Int32 × Nat)} {fs as : List Value} {w : Value} (h1 : k[pc]? = some (some (.invokevirtual ix, 3, x, y, z))) (hpop : zi_pop (y + 1) st [] = some (.ref a :: as, r)) (hc : zh s a = .inr (co, fs)) (hx : Nat.beq co (x / 200) = true) (ha : Nat.blt a 192 = true) (hsm : zi_sm r = true) (hz : zc d x (.ref a :: as) (zS c s) (some w) S1) (hp : pc + 3 = pc') (h : zr k rt d pc' L (w :: r) S1 v S') : zr k rt d pc L st (zS c s) v S' := zq_call h1 hpop hc hx ha hsm hz hp h
theorem zq_call0 {ix x y a co : Nat} {z : List (Int32 × Nat)} {fs as : List Value} (h1 : k[pc]? = some (some (.invokevirtual ix, 3, x, y, z))) (hpop : zi_pop (y + 1) st [] = some (.ref a :: as, r)) (hc : zh s a = .inr (co, fs)) (hx : Nat.beq co (x / 200) = true) (ha : Nat.blt a 192 = true) (hsm : zi_sm r = true) (hz : zc d x (.ref a :: as) (zS c s) none S1) (hp : pc + 3 = pc') (h : zr k rt d pc' L r S1 v S') : zr k rt d pc L st (zS c s) v S' := zq_call h1 hpop hc hx ha hsm hz hp h
theorem zq_scall1 {ix x y : Nat} {z : List (Int32 × Nat)} {as : List Value} {w : Value} (h1 : k[pc]? = some (some (.invokestatic ix, 3, x, y, z))) (hx : x < 9000) (hpop : zi_pop y st [] = some (as, r)) (hsm : zi_sm r = true) (hz : zc d x as S (some w) S1) (hp : pc + 3 = pc') (h : zr k rt d pc' L (w :: r) S1 v S') : zr k rt d pc L st S v S' := zq_calls h1 hx hpop hsm hz hp h
theorem zq_putM {ix y m : Nat} {z : List (Int32 × Nat)} {w : Int32} (h1 : k[pc]? = some (some (.putfield ix, 3, 3, y, z))) (hm : zM m) (hy : y < 3) (hp : pc + 3 = pc') (h : zr k rt d pc' L r (zS c (zsi s m y w)) v S') : zr k rt d pc L (.int w :: .ref m :: r) (zS c s) v S' := by
  have hlt : Nat.blt m 192 = true := zM_lt (j := 0) hm (by decide)
  rcases (by omega : y = 0 ∨ y = 1 ∨ y = 2) with rfl | rfl | rfl
  · refine zq_put (s' := zsi s m 0 w) h1 (zhM_0 hm s) hlt rfl rfl ?_ zsi_ne hp h
    rw [zhM_0 hm, zsi_eq]; rfl
  · refine zq_put (s' := zsi s m 1 w) h1 (zhM_0 hm s) hlt rfl rfl ?_ zsi_ne hp h
    rw [zhM_0 hm, zsi_eq]; rfl
  · refine zq_put (s' := zsi s m 2 w) h1 (zhM_0 hm s) hlt rfl rfl ?_ zsi_ne hp h
    rw [zhM_0 hm, zsi_eq]; rfl
end ZQ2
