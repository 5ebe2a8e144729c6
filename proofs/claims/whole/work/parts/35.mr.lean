/-! ===== rows of the reference; the moments that a ring or the kept ones hold ===== -/
def zR (r : Nat) : Prop := r = 169 ∨ r = 170
theorem zhR {r : Nat} (h : zR r) (s : zs) : zh s r = .inl (0, 42, .inl (s.1 r)) := by
  rcases h with rfl | rfl <;> rfl
theorem zR_lt {r : Nat} (h : zR r) : Nat.blt r 192 = true := by
  rcases h with rfl | rfl <;> rfl
theorem zM_51 {i : Int32} (h : zi_in i 15 = true) : zM (51 + 6 * i.toNatClampNeg) := by
  have hlt : i.toNatClampNeg < 15 := Nat.not_le.mp fun q => zi_in_vp h (Or.inr q)
  generalize i.toNatClampNeg = j at hlt
  rcases (by omega : j = 0 ∨ j = 1 ∨ j = 2 ∨ j = 3 ∨ j = 4 ∨ j = 5 ∨ j = 6 ∨ j = 7 ∨ j = 8 ∨ j = 9 ∨ j = 10 ∨ j = 11 ∨ j = 12 ∨ j = 13 ∨ j = 14) with rfl | rfl | rfl | rfl | rfl | rfl | rfl | rfl | rfl | rfl | rfl | rfl | rfl | rfl | rfl <;> simp [zM]
theorem zM_143 {i : Int32} (h : zi_in i 3 = true) : zM (143 + 6 * i.toNatClampNeg) := by
  have hlt : i.toNatClampNeg < 3 := Nat.not_le.mp fun q => zi_in_vp h (Or.inr q)
  generalize i.toNatClampNeg = j at hlt
  rcases (by omega : j = 0 ∨ j = 1 ∨ j = 2) with rfl | rfl | rfl <;> simp [zM]
theorem zM_17 : zM 17 := by simp [zM]
theorem zM_23 : zM 23 := by simp [zM]
theorem zM_29 : zM 29 := by simp [zM]
theorem zR_n : zR 169 := Or.inl rfl
theorem zR_t : zR 170 := Or.inr rfl
/-- a value that has a name -/
def zt {α β : Type} (x : α) (f : α → Option β) : Option β := f x
theorem zt_in {α β : Type} {x : α} {f : α → Option β} {b : β} (h : zt x f = some b) : ∃ y, y = x ∧ f y = some b := ⟨x, rfl, h⟩
