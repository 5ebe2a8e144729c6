/-! ===== printed by wip/gen/dec.py: the four that throw ===== -/
def fX11_lock_J20 (n : Nat) (s : zs) : Option Int32 := none
theorem tX11_lock_J20 {n : Nat} {c : Nat × Nat} {s : zs} {r : Int32} (h : fX11_lock_J20 n s = some r) : zr kX11_lock 1 1 20 [none, none, none] [] (zS c s) (some (.int r)) (zS c s) := by
  unfold fX11_lock_J20 at h
  cases h
def fX11_lock_J72 (n : Nat) (s : zs) (y0 : Int32) : Option Int32 := some y0
theorem tX11_lock_J72 {n : Nat} {c : Nat × Nat} {s : zs} {y0 : Int32} {r : Int32} (h : fX11_lock_J72 n s y0 = some r) : zr kX11_lock 1 1 72 [none, none, none] [.int y0] (zS c s) (some (.int r)) (zS c s) := by
  unfold fX11_lock_J72 at h
  obtain rfl := Option.some.inj h
  exact zq_iret rfl
def fX11_lock (n : Nat) (s : zs) (x1 : Int32) (x2 : Int32) : Option Int32 := zp (fX0_hasLock n s x1) (fun r1 => if r1 = 0 then fX11_lock_J20 n s else if x2 < 0 then fX11_lock_J20 n s else if x2 ≤ (5 : Int32) then if (4 : Int32) ≤ x2 then if ¬ x2 = (4 : Int32) then zp (fX3_levelOf n s 17 x1) (fun r9 => fX11_lock_J72 n s r9) else cond (zi_in x1 8) (fX11_lock_J72 n s (s.1 12 x1.toNatClampNeg)) none else cond (zi_in ((x1 * (4 : Int32)) + x2) 32) (some (s.1 11 ((x1 * (4 : Int32)) + x2).toNatClampNeg)) none else fX11_lock_J20 n s)
theorem tX11_lock {n : Nat} {c : Nat × Nat} {s : zs} {x1 : Int32} {x2 : Int32} {r : Int32} (h : fX11_lock n s x1 x2 = some r) : zc 2 2207 [.ref 0, .int x1, .int x2] (zS c s) (some (.int r)) (zS c s) := by
  refine zc_of (k := kX11_lock) (rt := 1) (L := [some (.ref 0), some (.int x1), some (.int x2)]) zm_2207.1 rfl rfl (by decide) rfl rfl ?_
  unfold fX11_lock at h
  refine zr_many 1 (pc' := 1) (L' := [some (.ref 0), some (.int x1), some (.int x2)]) (st' := [.ref 0]) (S1 := zS c s) rfl ?_
  refine zq_get rfl (zh_0 _) rfl rfl rfl ?_
  refine zr_many 1 (pc' := 5) (L' := [some (.ref 0), some (.int x1), some (.int x2)]) (st' := [.int x1, .ref 5]) (S1 := zS c s) rfl ?_
  obtain ⟨r1, g3, h⟩ := zp_inv h
  refine zq_call1 rfl rfl (zh_5 _) rfl rfl rfl (tX0_hasLock g3) rfl ?_
  refine zq_if1 (b := r1 = 0) rfl Iff.rfl rfl (fun g4 => ?_) (fun g4 => ?_)
  · rw [if_pos g4] at h
    exact zr_wk [none, none, none] trivial (tX11_lock_J20 h)
  · rw [if_neg g4] at h
    refine zr_many 1 (pc' := 12) (L' := [some (.ref 0), some (.int x1), some (.int x2)]) (st' := [.int x2]) (S1 := zS c s) rfl ?_
    refine zq_if1 (b := x2 < 0) rfl Iff.rfl rfl (fun g5 => ?_) (fun g5 => ?_)
    · rw [if_pos g5] at h
      exact zr_wk [none, none, none] trivial (tX11_lock_J20 h)
    · rw [if_neg g5] at h
      refine zr_many 2 (pc' := 17) (L' := [some (.ref 0), some (.int x1), some (.int x2)]) (st' := [.int (5 : Int32), .int x2]) (S1 := zS c s) rfl ?_
      refine zq_if2 (b := x2 ≤ (5 : Int32)) rfl Iff.rfl rfl (fun g6 => ?_) (fun g6 => ?_)
      · rw [if_pos g6] at h
        refine zr_many 2 (pc' := 30) (L' := [some (.ref 0), some (.int x1), some (.int x2)]) (st' := [.int (4 : Int32), .int x2]) (S1 := zS c s) rfl ?_
        refine zq_if2 (b := (4 : Int32) ≤ x2) rfl Iff.rfl rfl (fun g7 => ?_) (fun g7 => ?_)
        · rw [if_pos g7] at h
          refine zr_many 2 (pc' := 49) (L' := [some (.ref 0), some (.int x1), some (.int x2)]) (st' := [.int (4 : Int32), .int x2]) (S1 := zS c s) rfl ?_
          refine zq_if2 (b := ¬ x2 = (4 : Int32)) rfl Iff.rfl rfl (fun g8 => ?_) (fun g8 => ?_)
          · rw [if_pos g8] at h
            refine zr_many 1 (pc' := 65) (L' := [some (.ref 0), some (.int x1), some (.int x2)]) (st' := [.ref 0]) (S1 := zS c s) rfl ?_
            refine zq_get rfl (zh_0 _) rfl rfl rfl ?_
            refine zr_many 1 (pc' := 69) (L' := [some (.ref 0), some (.int x1), some (.int x2)]) (st' := [.int x1, .ref 17]) (S1 := zS c s) rfl ?_
            obtain ⟨r9, g11, h⟩ := zp_inv h
            refine zq_call1 rfl rfl (zh_17 _) rfl rfl rfl (tX3_levelOf zM_17 g11) rfl ?_
            exact zr_wk [none, none, none] trivial (tX11_lock_J72 h)
          · rw [if_neg g8] at h
            refine zr_many 1 (pc' := 53) (L' := [some (.ref 0), some (.int x1), some (.int x2)]) (st' := [.ref 0]) (S1 := zS c s) rfl ?_
            refine zq_get rfl (zh_0 _) rfl rfl rfl ?_
            refine zq_get rfl (zh_5 _) rfl rfl rfl ?_
            refine zr_many 1 (pc' := 60) (L' := [some (.ref 0), some (.int x1), some (.int x2)]) (st' := [.int x1, .ref 12]) (S1 := zS c s) rfl ?_
            obtain ⟨g12, h⟩ := zi_cond_inv h
            refine zq_ild rfl (zh_12 _) rfl g12 rfl ?_
            refine zr_many 1 (pc' := 72) (L' := [some (.ref 0), some (.int x1), some (.int x2)]) (st' := [.int (s.1 12 x1.toNatClampNeg)]) (S1 := zS c s) rfl ?_
            exact zr_wk [none, none, none] trivial (tX11_lock_J72 h)
        · rw [if_neg g7] at h
          refine zr_many 1 (pc' := 34) (L' := [some (.ref 0), some (.int x1), some (.int x2)]) (st' := [.ref 0]) (S1 := zS c s) rfl ?_
          refine zq_get rfl (zh_0 _) rfl rfl rfl ?_
          refine zq_get rfl (zh_5 _) rfl rfl rfl ?_
          refine zr_many 5 (pc' := 45) (L' := [some (.ref 0), some (.int x1), some (.int x2)]) (st' := [.int ((x1 * (4 : Int32)) + x2), .ref 11]) (S1 := zS c s) rfl ?_
          obtain ⟨g13, h⟩ := zi_cond_inv h
          refine zq_ild rfl (zh_11 _) rfl g13 rfl ?_
          obtain rfl := Option.some.inj h
          exact zq_iret rfl
      · rw [if_neg g6] at h
        exact zr_wk [none, none, none] trivial (tX11_lock_J20 h)
def kX11_lock_T : List (Option zi_I) := kX11_lock.set 20 (some (.return_, 1, 0, 0, []))
def fX11_lock_T_J20 (n : Nat) (s : zs) : Option Unit := some ()
theorem tX11_lock_T_J20 {n : Nat} {c : Nat × Nat} {s : zs} (h : fX11_lock_T_J20 n s = some ()) : zr kX11_lock_T 0 1 20 [none, none, none] [] (zS c s) none (zS c s) := by
  unfold fX11_lock_T_J20 at h
  exact zq_vret rfl
def fX11_lock_T_J72 (n : Nat) (s : zs) (y0 : Int32) : Option Unit := none
theorem tX11_lock_T_J72 {n : Nat} {c : Nat × Nat} {s : zs} {y0 : Int32} (h : fX11_lock_T_J72 n s y0 = some ()) : zr kX11_lock_T 0 1 72 [none, none, none] [.int y0] (zS c s) none (zS c s) := by
  unfold fX11_lock_T_J72 at h
  cases h
def fX11_lock_T (n : Nat) (s : zs) (x1 : Int32) (x2 : Int32) : Option Unit := zp (fX0_hasLock n s x1) (fun r1 => if r1 = 0 then fX11_lock_T_J20 n s else if x2 < 0 then fX11_lock_T_J20 n s else if x2 ≤ (5 : Int32) then if (4 : Int32) ≤ x2 then if ¬ x2 = (4 : Int32) then zp (fX3_levelOf n s 17 x1) (fun r9 => fX11_lock_T_J72 n s r9) else cond (zi_in x1 8) (fX11_lock_T_J72 n s (s.1 12 x1.toNatClampNeg)) none else cond (zi_in ((x1 * (4 : Int32)) + x2) 32) (none) none else fX11_lock_T_J20 n s)
theorem tX11_lock_T {n : Nat} {c : Nat × Nat} {s : zs} {x1 : Int32} {x2 : Int32} (h : fX11_lock_T n s x1 x2 = some ()) : zr kX11_lock_T 0 1 0 [some (.ref 0), some (.int x1), some (.int x2)] [] (zS c s) none (zS c s) := by
  unfold fX11_lock_T at h
  refine zr_many 1 (pc' := 1) (L' := [some (.ref 0), some (.int x1), some (.int x2)]) (st' := [.ref 0]) (S1 := zS c s) rfl ?_
  refine zq_get rfl (zh_0 _) rfl rfl rfl ?_
  refine zr_many 1 (pc' := 5) (L' := [some (.ref 0), some (.int x1), some (.int x2)]) (st' := [.int x1, .ref 5]) (S1 := zS c s) rfl ?_
  obtain ⟨r1, g3, h⟩ := zp_inv h
  refine zq_call1 rfl rfl (zh_5 _) rfl rfl rfl (tX0_hasLock g3) rfl ?_
  refine zq_if1 (b := r1 = 0) rfl Iff.rfl rfl (fun g4 => ?_) (fun g4 => ?_)
  · rw [if_pos g4] at h
    exact zr_wk [none, none, none] trivial (tX11_lock_T_J20 h)
  · rw [if_neg g4] at h
    refine zr_many 1 (pc' := 12) (L' := [some (.ref 0), some (.int x1), some (.int x2)]) (st' := [.int x2]) (S1 := zS c s) rfl ?_
    refine zq_if1 (b := x2 < 0) rfl Iff.rfl rfl (fun g5 => ?_) (fun g5 => ?_)
    · rw [if_pos g5] at h
      exact zr_wk [none, none, none] trivial (tX11_lock_T_J20 h)
    · rw [if_neg g5] at h
      refine zr_many 2 (pc' := 17) (L' := [some (.ref 0), some (.int x1), some (.int x2)]) (st' := [.int (5 : Int32), .int x2]) (S1 := zS c s) rfl ?_
      refine zq_if2 (b := x2 ≤ (5 : Int32)) rfl Iff.rfl rfl (fun g6 => ?_) (fun g6 => ?_)
      · rw [if_pos g6] at h
        refine zr_many 2 (pc' := 30) (L' := [some (.ref 0), some (.int x1), some (.int x2)]) (st' := [.int (4 : Int32), .int x2]) (S1 := zS c s) rfl ?_
        refine zq_if2 (b := (4 : Int32) ≤ x2) rfl Iff.rfl rfl (fun g7 => ?_) (fun g7 => ?_)
        · rw [if_pos g7] at h
          refine zr_many 2 (pc' := 49) (L' := [some (.ref 0), some (.int x1), some (.int x2)]) (st' := [.int (4 : Int32), .int x2]) (S1 := zS c s) rfl ?_
          refine zq_if2 (b := ¬ x2 = (4 : Int32)) rfl Iff.rfl rfl (fun g8 => ?_) (fun g8 => ?_)
          · rw [if_pos g8] at h
            refine zr_many 1 (pc' := 65) (L' := [some (.ref 0), some (.int x1), some (.int x2)]) (st' := [.ref 0]) (S1 := zS c s) rfl ?_
            refine zq_get rfl (zh_0 _) rfl rfl rfl ?_
            refine zr_many 1 (pc' := 69) (L' := [some (.ref 0), some (.int x1), some (.int x2)]) (st' := [.int x1, .ref 17]) (S1 := zS c s) rfl ?_
            obtain ⟨r9, g11, h⟩ := zp_inv h
            refine zq_call1 rfl rfl (zh_17 _) rfl rfl rfl (tX3_levelOf zM_17 g11) rfl ?_
            exact zr_wk [none, none, none] trivial (tX11_lock_T_J72 h)
          · rw [if_neg g8] at h
            refine zr_many 1 (pc' := 53) (L' := [some (.ref 0), some (.int x1), some (.int x2)]) (st' := [.ref 0]) (S1 := zS c s) rfl ?_
            refine zq_get rfl (zh_0 _) rfl rfl rfl ?_
            refine zq_get rfl (zh_5 _) rfl rfl rfl ?_
            refine zr_many 1 (pc' := 60) (L' := [some (.ref 0), some (.int x1), some (.int x2)]) (st' := [.int x1, .ref 12]) (S1 := zS c s) rfl ?_
            obtain ⟨g12, h⟩ := zi_cond_inv h
            refine zq_ild rfl (zh_12 _) rfl g12 rfl ?_
            refine zr_many 1 (pc' := 72) (L' := [some (.ref 0), some (.int x1), some (.int x2)]) (st' := [.int (s.1 12 x1.toNatClampNeg)]) (S1 := zS c s) rfl ?_
            exact zr_wk [none, none, none] trivial (tX11_lock_T_J72 h)
        · rw [if_neg g7] at h
          refine zr_many 1 (pc' := 34) (L' := [some (.ref 0), some (.int x1), some (.int x2)]) (st' := [.ref 0]) (S1 := zS c s) rfl ?_
          refine zq_get rfl (zh_0 _) rfl rfl rfl ?_
          refine zq_get rfl (zh_5 _) rfl rfl rfl ?_
          refine zr_many 5 (pc' := 45) (L' := [some (.ref 0), some (.int x1), some (.int x2)]) (st' := [.int ((x1 * (4 : Int32)) + x2), .ref 11]) (S1 := zS c s) rfl ?_
          obtain ⟨g13, h⟩ := zi_cond_inv h
          refine zq_ild rfl (zh_11 _) rfl g13 rfl ?_
          cases h
      · rw [if_neg g6] at h
        exact zr_wk [none, none, none] trivial (tX11_lock_T_J20 h)
def fX11_singer_J20 (n : Nat) (s : zs) : Option Int32 := none
theorem tX11_singer_J20 {n : Nat} {c : Nat × Nat} {s : zs} {r : Int32} (h : fX11_singer_J20 n s = some r) : zr kX11_singer 1 1 20 [none, none, none] [] (zS c s) (some (.int r)) (zS c s) := by
  unfold fX11_singer_J20 at h
  cases h
def fX11_singer (n : Nat) (s : zs) (x1 : Int32) (x2 : Int32) : Option Int32 := zp (fX0_hasSinger n s x1) (fun r1 => if r1 = 0 then fX11_singer_J20 n s else if x2 < 0 then fX11_singer_J20 n s else if x2 ≤ (5 : Int32) then if x2 = (0 : Int32) then cond (zi_in x1 8) (some (s.1 13 x1.toNatClampNeg)) none else if x2 = (1 : Int32) then cond (zi_in x1 8) (some (s.1 14 x1.toNatClampNeg)) none else if x2 = (2 : Int32) then cond (zi_in x1 8) (some (s.1 15 x1.toNatClampNeg)) none else if x2 = (3 : Int32) then cond (zi_in x1 8) (some (s.1 20 x1.toNatClampNeg)) none else if x2 = (4 : Int32) then zp (fX3_whereIs n s 17 x1) (fun r16 => some r16) else cond (zi_in x1 8) (some (s.1 19 x1.toNatClampNeg)) none else fX11_singer_J20 n s)
theorem tX11_singer {n : Nat} {c : Nat × Nat} {s : zs} {x1 : Int32} {x2 : Int32} {r : Int32} (h : fX11_singer n s x1 x2 = some r) : zc 2 2208 [.ref 0, .int x1, .int x2] (zS c s) (some (.int r)) (zS c s) := by
  refine zc_of (k := kX11_singer) (rt := 1) (L := [some (.ref 0), some (.int x1), some (.int x2)]) zm_2208.1 rfl rfl (by decide) rfl rfl ?_
  unfold fX11_singer at h
  refine zr_many 1 (pc' := 1) (L' := [some (.ref 0), some (.int x1), some (.int x2)]) (st' := [.ref 0]) (S1 := zS c s) rfl ?_
  refine zq_get rfl (zh_0 _) rfl rfl rfl ?_
  refine zr_many 1 (pc' := 5) (L' := [some (.ref 0), some (.int x1), some (.int x2)]) (st' := [.int x1, .ref 5]) (S1 := zS c s) rfl ?_
  obtain ⟨r1, g3, h⟩ := zp_inv h
  refine zq_call1 rfl rfl (zh_5 _) rfl rfl rfl (tX0_hasSinger g3) rfl ?_
  refine zq_if1 (b := r1 = 0) rfl Iff.rfl rfl (fun g4 => ?_) (fun g4 => ?_)
  · rw [if_pos g4] at h
    exact zr_wk [none, none, none] trivial (tX11_singer_J20 h)
  · rw [if_neg g4] at h
    refine zr_many 1 (pc' := 12) (L' := [some (.ref 0), some (.int x1), some (.int x2)]) (st' := [.int x2]) (S1 := zS c s) rfl ?_
    refine zq_if1 (b := x2 < 0) rfl Iff.rfl rfl (fun g5 => ?_) (fun g5 => ?_)
    · rw [if_pos g5] at h
      exact zr_wk [none, none, none] trivial (tX11_singer_J20 h)
    · rw [if_neg g5] at h
      refine zr_many 2 (pc' := 17) (L' := [some (.ref 0), some (.int x1), some (.int x2)]) (st' := [.int (5 : Int32), .int x2]) (S1 := zS c s) rfl ?_
      refine zq_if2 (b := x2 ≤ (5 : Int32)) rfl Iff.rfl rfl (fun g6 => ?_) (fun g6 => ?_)
      · rw [if_pos g6] at h
        refine zr_many 1 (pc' := 29) (L' := [some (.ref 0), some (.int x1), some (.int x2)]) (st' := [.int x2]) (S1 := zS c s) rfl ?_
        refine zq_sw (Or.inl ⟨_, _, _, _, rfl⟩) ?_
        by_cases g7 : x2 = (0 : Int32)
        · rw [if_pos g7] at h
          rw [zi_sw_pos g7]
          refine zr_many 1 (pc' := 65) (L' := [some (.ref 0), some (.int x1), some (.int x2)]) (st' := [.ref 0]) (S1 := zS c s) rfl ?_
          refine zq_get rfl (zh_0 _) rfl rfl rfl ?_
          refine zq_get rfl (zh_5 _) rfl rfl rfl ?_
          refine zr_many 1 (pc' := 72) (L' := [some (.ref 0), some (.int x1), some (.int x2)]) (st' := [.int x1, .ref 13]) (S1 := zS c s) rfl ?_
          obtain ⟨g8, h⟩ := zi_cond_inv h
          refine zq_ild rfl (zh_13 _) rfl g8 rfl ?_
          obtain rfl := Option.some.inj h
          exact zq_iret rfl
        rw [if_neg g7] at h
        rw [zi_sw_neg g7]
        by_cases g9 : x2 = (1 : Int32)
        · rw [if_pos g9] at h
          rw [zi_sw_pos g9]
          refine zr_many 1 (pc' := 75) (L' := [some (.ref 0), some (.int x1), some (.int x2)]) (st' := [.ref 0]) (S1 := zS c s) rfl ?_
          refine zq_get rfl (zh_0 _) rfl rfl rfl ?_
          refine zq_get rfl (zh_5 _) rfl rfl rfl ?_
          refine zr_many 1 (pc' := 82) (L' := [some (.ref 0), some (.int x1), some (.int x2)]) (st' := [.int x1, .ref 14]) (S1 := zS c s) rfl ?_
          obtain ⟨g10, h⟩ := zi_cond_inv h
          refine zq_ild rfl (zh_14 _) rfl g10 rfl ?_
          obtain rfl := Option.some.inj h
          exact zq_iret rfl
        rw [if_neg g9] at h
        rw [zi_sw_neg g9]
        by_cases g11 : x2 = (2 : Int32)
        · rw [if_pos g11] at h
          rw [zi_sw_pos g11]
          refine zr_many 1 (pc' := 85) (L' := [some (.ref 0), some (.int x1), some (.int x2)]) (st' := [.ref 0]) (S1 := zS c s) rfl ?_
          refine zq_get rfl (zh_0 _) rfl rfl rfl ?_
          refine zq_get rfl (zh_5 _) rfl rfl rfl ?_
          refine zr_many 1 (pc' := 92) (L' := [some (.ref 0), some (.int x1), some (.int x2)]) (st' := [.int x1, .ref 15]) (S1 := zS c s) rfl ?_
          obtain ⟨g12, h⟩ := zi_cond_inv h
          refine zq_ild rfl (zh_15 _) rfl g12 rfl ?_
          obtain rfl := Option.some.inj h
          exact zq_iret rfl
        rw [if_neg g11] at h
        rw [zi_sw_neg g11]
        by_cases g13 : x2 = (3 : Int32)
        · rw [if_pos g13] at h
          rw [zi_sw_pos g13]
          refine zr_many 1 (pc' := 95) (L' := [some (.ref 0), some (.int x1), some (.int x2)]) (st' := [.ref 0]) (S1 := zS c s) rfl ?_
          refine zq_get rfl (zh_0 _) rfl rfl rfl ?_
          refine zq_get rfl (zh_17 _) rfl rfl rfl ?_
          refine zr_many 1 (pc' := 102) (L' := [some (.ref 0), some (.int x1), some (.int x2)]) (st' := [.int x1, .ref 20]) (S1 := zS c s) rfl ?_
          obtain ⟨g14, h⟩ := zi_cond_inv h
          refine zq_ild rfl (zh_20 _) rfl g14 rfl ?_
          obtain rfl := Option.some.inj h
          exact zq_iret rfl
        rw [if_neg g13] at h
        rw [zi_sw_neg g13]
        by_cases g15 : x2 = (4 : Int32)
        · rw [if_pos g15] at h
          rw [zi_sw_pos g15]
          refine zr_many 1 (pc' := 105) (L' := [some (.ref 0), some (.int x1), some (.int x2)]) (st' := [.ref 0]) (S1 := zS c s) rfl ?_
          refine zq_get rfl (zh_0 _) rfl rfl rfl ?_
          refine zr_many 1 (pc' := 109) (L' := [some (.ref 0), some (.int x1), some (.int x2)]) (st' := [.int x1, .ref 17]) (S1 := zS c s) rfl ?_
          obtain ⟨r16, g18, h⟩ := zp_inv h
          refine zq_call1 rfl rfl (zh_17 _) rfl rfl rfl (tX3_whereIs zM_17 g18) rfl ?_
          obtain rfl := Option.some.inj h
          exact zq_iret rfl
        rw [if_neg g15] at h
        rw [zi_sw_neg g15]
        simp only [zi_sw]
        refine zr_many 1 (pc' := 114) (L' := [some (.ref 0), some (.int x1), some (.int x2)]) (st' := [.ref 0]) (S1 := zS c s) rfl ?_
        refine zq_get rfl (zh_0 _) rfl rfl rfl ?_
        refine zq_get rfl (zh_17 _) rfl rfl rfl ?_
        refine zr_many 1 (pc' := 121) (L' := [some (.ref 0), some (.int x1), some (.int x2)]) (st' := [.int x1, .ref 19]) (S1 := zS c s) rfl ?_
        obtain ⟨g19, h⟩ := zi_cond_inv h
        refine zq_ild rfl (zh_19 _) rfl g19 rfl ?_
        obtain rfl := Option.some.inj h
        exact zq_iret rfl
      · rw [if_neg g6] at h
        exact zr_wk [none, none, none] trivial (tX11_singer_J20 h)
def kX11_singer_T : List (Option zi_I) := kX11_singer.set 20 (some (.return_, 1, 0, 0, []))
def fX11_singer_T_J20 (n : Nat) (s : zs) : Option Unit := some ()
theorem tX11_singer_T_J20 {n : Nat} {c : Nat × Nat} {s : zs} (h : fX11_singer_T_J20 n s = some ()) : zr kX11_singer_T 0 1 20 [none, none, none] [] (zS c s) none (zS c s) := by
  unfold fX11_singer_T_J20 at h
  exact zq_vret rfl
def fX11_singer_T (n : Nat) (s : zs) (x1 : Int32) (x2 : Int32) : Option Unit := zp (fX0_hasSinger n s x1) (fun r1 => if r1 = 0 then fX11_singer_T_J20 n s else if x2 < 0 then fX11_singer_T_J20 n s else if x2 ≤ (5 : Int32) then if x2 = (0 : Int32) then cond (zi_in x1 8) (none) none else if x2 = (1 : Int32) then cond (zi_in x1 8) (none) none else if x2 = (2 : Int32) then cond (zi_in x1 8) (none) none else if x2 = (3 : Int32) then cond (zi_in x1 8) (none) none else if x2 = (4 : Int32) then zp (fX3_whereIs n s 17 x1) (fun r16 => none) else cond (zi_in x1 8) (none) none else fX11_singer_T_J20 n s)
theorem tX11_singer_T {n : Nat} {c : Nat × Nat} {s : zs} {x1 : Int32} {x2 : Int32} (h : fX11_singer_T n s x1 x2 = some ()) : zr kX11_singer_T 0 1 0 [some (.ref 0), some (.int x1), some (.int x2)] [] (zS c s) none (zS c s) := by
  unfold fX11_singer_T at h
  refine zr_many 1 (pc' := 1) (L' := [some (.ref 0), some (.int x1), some (.int x2)]) (st' := [.ref 0]) (S1 := zS c s) rfl ?_
  refine zq_get rfl (zh_0 _) rfl rfl rfl ?_
  refine zr_many 1 (pc' := 5) (L' := [some (.ref 0), some (.int x1), some (.int x2)]) (st' := [.int x1, .ref 5]) (S1 := zS c s) rfl ?_
  obtain ⟨r1, g3, h⟩ := zp_inv h
  refine zq_call1 rfl rfl (zh_5 _) rfl rfl rfl (tX0_hasSinger g3) rfl ?_
  refine zq_if1 (b := r1 = 0) rfl Iff.rfl rfl (fun g4 => ?_) (fun g4 => ?_)
  · rw [if_pos g4] at h
    exact zr_wk [none, none, none] trivial (tX11_singer_T_J20 h)
  · rw [if_neg g4] at h
    refine zr_many 1 (pc' := 12) (L' := [some (.ref 0), some (.int x1), some (.int x2)]) (st' := [.int x2]) (S1 := zS c s) rfl ?_
    refine zq_if1 (b := x2 < 0) rfl Iff.rfl rfl (fun g5 => ?_) (fun g5 => ?_)
    · rw [if_pos g5] at h
      exact zr_wk [none, none, none] trivial (tX11_singer_T_J20 h)
    · rw [if_neg g5] at h
      refine zr_many 2 (pc' := 17) (L' := [some (.ref 0), some (.int x1), some (.int x2)]) (st' := [.int (5 : Int32), .int x2]) (S1 := zS c s) rfl ?_
      refine zq_if2 (b := x2 ≤ (5 : Int32)) rfl Iff.rfl rfl (fun g6 => ?_) (fun g6 => ?_)
      · rw [if_pos g6] at h
        refine zr_many 1 (pc' := 29) (L' := [some (.ref 0), some (.int x1), some (.int x2)]) (st' := [.int x2]) (S1 := zS c s) rfl ?_
        refine zq_sw (Or.inl ⟨_, _, _, _, rfl⟩) ?_
        by_cases g7 : x2 = (0 : Int32)
        · rw [if_pos g7] at h
          rw [zi_sw_pos g7]
          refine zr_many 1 (pc' := 65) (L' := [some (.ref 0), some (.int x1), some (.int x2)]) (st' := [.ref 0]) (S1 := zS c s) rfl ?_
          refine zq_get rfl (zh_0 _) rfl rfl rfl ?_
          refine zq_get rfl (zh_5 _) rfl rfl rfl ?_
          refine zr_many 1 (pc' := 72) (L' := [some (.ref 0), some (.int x1), some (.int x2)]) (st' := [.int x1, .ref 13]) (S1 := zS c s) rfl ?_
          obtain ⟨g8, h⟩ := zi_cond_inv h
          refine zq_ild rfl (zh_13 _) rfl g8 rfl ?_
          cases h
        rw [if_neg g7] at h
        rw [zi_sw_neg g7]
        by_cases g9 : x2 = (1 : Int32)
        · rw [if_pos g9] at h
          rw [zi_sw_pos g9]
          refine zr_many 1 (pc' := 75) (L' := [some (.ref 0), some (.int x1), some (.int x2)]) (st' := [.ref 0]) (S1 := zS c s) rfl ?_
          refine zq_get rfl (zh_0 _) rfl rfl rfl ?_
          refine zq_get rfl (zh_5 _) rfl rfl rfl ?_
          refine zr_many 1 (pc' := 82) (L' := [some (.ref 0), some (.int x1), some (.int x2)]) (st' := [.int x1, .ref 14]) (S1 := zS c s) rfl ?_
          obtain ⟨g10, h⟩ := zi_cond_inv h
          refine zq_ild rfl (zh_14 _) rfl g10 rfl ?_
          cases h
        rw [if_neg g9] at h
        rw [zi_sw_neg g9]
        by_cases g11 : x2 = (2 : Int32)
        · rw [if_pos g11] at h
          rw [zi_sw_pos g11]
          refine zr_many 1 (pc' := 85) (L' := [some (.ref 0), some (.int x1), some (.int x2)]) (st' := [.ref 0]) (S1 := zS c s) rfl ?_
          refine zq_get rfl (zh_0 _) rfl rfl rfl ?_
          refine zq_get rfl (zh_5 _) rfl rfl rfl ?_
          refine zr_many 1 (pc' := 92) (L' := [some (.ref 0), some (.int x1), some (.int x2)]) (st' := [.int x1, .ref 15]) (S1 := zS c s) rfl ?_
          obtain ⟨g12, h⟩ := zi_cond_inv h
          refine zq_ild rfl (zh_15 _) rfl g12 rfl ?_
          cases h
        rw [if_neg g11] at h
        rw [zi_sw_neg g11]
        by_cases g13 : x2 = (3 : Int32)
        · rw [if_pos g13] at h
          rw [zi_sw_pos g13]
          refine zr_many 1 (pc' := 95) (L' := [some (.ref 0), some (.int x1), some (.int x2)]) (st' := [.ref 0]) (S1 := zS c s) rfl ?_
          refine zq_get rfl (zh_0 _) rfl rfl rfl ?_
          refine zq_get rfl (zh_17 _) rfl rfl rfl ?_
          refine zr_many 1 (pc' := 102) (L' := [some (.ref 0), some (.int x1), some (.int x2)]) (st' := [.int x1, .ref 20]) (S1 := zS c s) rfl ?_
          obtain ⟨g14, h⟩ := zi_cond_inv h
          refine zq_ild rfl (zh_20 _) rfl g14 rfl ?_
          cases h
        rw [if_neg g13] at h
        rw [zi_sw_neg g13]
        by_cases g15 : x2 = (4 : Int32)
        · rw [if_pos g15] at h
          rw [zi_sw_pos g15]
          refine zr_many 1 (pc' := 105) (L' := [some (.ref 0), some (.int x1), some (.int x2)]) (st' := [.ref 0]) (S1 := zS c s) rfl ?_
          refine zq_get rfl (zh_0 _) rfl rfl rfl ?_
          refine zr_many 1 (pc' := 109) (L' := [some (.ref 0), some (.int x1), some (.int x2)]) (st' := [.int x1, .ref 17]) (S1 := zS c s) rfl ?_
          obtain ⟨r16, g18, h⟩ := zp_inv h
          refine zq_call1 rfl rfl (zh_17 _) rfl rfl rfl (tX3_whereIs zM_17 g18) rfl ?_
          cases h
        rw [if_neg g15] at h
        rw [zi_sw_neg g15]
        simp only [zi_sw]
        refine zr_many 1 (pc' := 114) (L' := [some (.ref 0), some (.int x1), some (.int x2)]) (st' := [.ref 0]) (S1 := zS c s) rfl ?_
        refine zq_get rfl (zh_0 _) rfl rfl rfl ?_
        refine zq_get rfl (zh_17 _) rfl rfl rfl ?_
        refine zr_many 1 (pc' := 121) (L' := [some (.ref 0), some (.int x1), some (.int x2)]) (st' := [.int x1, .ref 19]) (S1 := zS c s) rfl ?_
        obtain ⟨g19, h⟩ := zi_cond_inv h
        refine zq_ild rfl (zh_19 _) rfl g19 rfl ?_
        cases h
      · rw [if_neg g6] at h
        exact zr_wk [none, none, none] trivial (tX11_singer_T_J20 h)
def fX11_barge_J20 (n : Nat) (s : zs) : Option Int32 := none
theorem tX11_barge_J20 {n : Nat} {c : Nat × Nat} {s : zs} {r : Int32} (h : fX11_barge_J20 n s = some r) : zr kX11_barge 1 1 20 [none, none, none] [] (zS c s) (some (.int r)) (zS c s) := by
  unfold fX11_barge_J20 at h
  cases h
def fX11_barge (n : Nat) (s : zs) (x1 : Int32) (x2 : Int32) : Option Int32 := zp (fX0_hasBarge n s x1) (fun r1 => if r1 = 0 then fX11_barge_J20 n s else if x2 < 0 then fX11_barge_J20 n s else if x2 ≤ (3 : Int32) then if x2 = (0 : Int32) then cond (zi_in x1 4) (some (s.1 21 x1.toNatClampNeg)) none else if x2 = (1 : Int32) then cond (zi_in x1 4) (some (s.1 16 x1.toNatClampNeg)) none else if x2 = (2 : Int32) then cond (zi_in x1 4) (some (s.1 22 x1.toNatClampNeg)) none else zp (fX0_crewOf n s 17 x1) (fun r13 => some r13) else fX11_barge_J20 n s)
theorem tX11_barge {n : Nat} {c : Nat × Nat} {s : zs} {x1 : Int32} {x2 : Int32} {r : Int32} (h : fX11_barge n s x1 x2 = some r) : zc 2 2209 [.ref 0, .int x1, .int x2] (zS c s) (some (.int r)) (zS c s) := by
  refine zc_of (k := kX11_barge) (rt := 1) (L := [some (.ref 0), some (.int x1), some (.int x2)]) zm_2209.1 rfl rfl (by decide) rfl rfl ?_
  unfold fX11_barge at h
  refine zr_many 1 (pc' := 1) (L' := [some (.ref 0), some (.int x1), some (.int x2)]) (st' := [.ref 0]) (S1 := zS c s) rfl ?_
  refine zq_get rfl (zh_0 _) rfl rfl rfl ?_
  refine zr_many 1 (pc' := 5) (L' := [some (.ref 0), some (.int x1), some (.int x2)]) (st' := [.int x1, .ref 5]) (S1 := zS c s) rfl ?_
  obtain ⟨r1, g3, h⟩ := zp_inv h
  refine zq_call1 rfl rfl (zh_5 _) rfl rfl rfl (tX0_hasBarge g3) rfl ?_
  refine zq_if1 (b := r1 = 0) rfl Iff.rfl rfl (fun g4 => ?_) (fun g4 => ?_)
  · rw [if_pos g4] at h
    exact zr_wk [none, none, none] trivial (tX11_barge_J20 h)
  · rw [if_neg g4] at h
    refine zr_many 1 (pc' := 12) (L' := [some (.ref 0), some (.int x1), some (.int x2)]) (st' := [.int x2]) (S1 := zS c s) rfl ?_
    refine zq_if1 (b := x2 < 0) rfl Iff.rfl rfl (fun g5 => ?_) (fun g5 => ?_)
    · rw [if_pos g5] at h
      exact zr_wk [none, none, none] trivial (tX11_barge_J20 h)
    · rw [if_neg g5] at h
      refine zr_many 2 (pc' := 17) (L' := [some (.ref 0), some (.int x1), some (.int x2)]) (st' := [.int (3 : Int32), .int x2]) (S1 := zS c s) rfl ?_
      refine zq_if2 (b := x2 ≤ (3 : Int32)) rfl Iff.rfl rfl (fun g6 => ?_) (fun g6 => ?_)
      · rw [if_pos g6] at h
        refine zr_many 1 (pc' := 29) (L' := [some (.ref 0), some (.int x1), some (.int x2)]) (st' := [.int x2]) (S1 := zS c s) rfl ?_
        refine zq_sw (Or.inl ⟨_, _, _, _, rfl⟩) ?_
        by_cases g7 : x2 = (0 : Int32)
        · rw [if_pos g7] at h
          rw [zi_sw_pos g7]
          refine zr_many 1 (pc' := 57) (L' := [some (.ref 0), some (.int x1), some (.int x2)]) (st' := [.ref 0]) (S1 := zS c s) rfl ?_
          refine zq_get rfl (zh_0 _) rfl rfl rfl ?_
          refine zq_get rfl (zh_17 _) rfl rfl rfl ?_
          refine zr_many 1 (pc' := 64) (L' := [some (.ref 0), some (.int x1), some (.int x2)]) (st' := [.int x1, .ref 21]) (S1 := zS c s) rfl ?_
          obtain ⟨g8, h⟩ := zi_cond_inv h
          refine zq_ild rfl (zh_21 _) rfl g8 rfl ?_
          obtain rfl := Option.some.inj h
          exact zq_iret rfl
        rw [if_neg g7] at h
        rw [zi_sw_neg g7]
        by_cases g9 : x2 = (1 : Int32)
        · rw [if_pos g9] at h
          rw [zi_sw_pos g9]
          refine zr_many 1 (pc' := 67) (L' := [some (.ref 0), some (.int x1), some (.int x2)]) (st' := [.ref 0]) (S1 := zS c s) rfl ?_
          refine zq_get rfl (zh_0 _) rfl rfl rfl ?_
          refine zq_get rfl (zh_5 _) rfl rfl rfl ?_
          refine zr_many 1 (pc' := 74) (L' := [some (.ref 0), some (.int x1), some (.int x2)]) (st' := [.int x1, .ref 16]) (S1 := zS c s) rfl ?_
          obtain ⟨g10, h⟩ := zi_cond_inv h
          refine zq_ild rfl (zh_16 _) rfl g10 rfl ?_
          obtain rfl := Option.some.inj h
          exact zq_iret rfl
        rw [if_neg g9] at h
        rw [zi_sw_neg g9]
        by_cases g11 : x2 = (2 : Int32)
        · rw [if_pos g11] at h
          rw [zi_sw_pos g11]
          refine zr_many 1 (pc' := 77) (L' := [some (.ref 0), some (.int x1), some (.int x2)]) (st' := [.ref 0]) (S1 := zS c s) rfl ?_
          refine zq_get rfl (zh_0 _) rfl rfl rfl ?_
          refine zq_get rfl (zh_17 _) rfl rfl rfl ?_
          refine zr_many 1 (pc' := 84) (L' := [some (.ref 0), some (.int x1), some (.int x2)]) (st' := [.int x1, .ref 22]) (S1 := zS c s) rfl ?_
          obtain ⟨g12, h⟩ := zi_cond_inv h
          refine zq_ild rfl (zh_22 _) rfl g12 rfl ?_
          obtain rfl := Option.some.inj h
          exact zq_iret rfl
        rw [if_neg g11] at h
        rw [zi_sw_neg g11]
        simp only [zi_sw]
        refine zr_many 1 (pc' := 87) (L' := [some (.ref 0), some (.int x1), some (.int x2)]) (st' := [.ref 0]) (S1 := zS c s) rfl ?_
        refine zq_get rfl (zh_0 _) rfl rfl rfl ?_
        refine zr_many 1 (pc' := 91) (L' := [some (.ref 0), some (.int x1), some (.int x2)]) (st' := [.ref 0, .ref 5]) (S1 := zS c s) rfl ?_
        refine zq_get rfl (zh_0 _) rfl rfl rfl ?_
        refine zr_many 1 (pc' := 95) (L' := [some (.ref 0), some (.int x1), some (.int x2)]) (st' := [.int x1, .ref 17, .ref 5]) (S1 := zS c s) rfl ?_
        obtain ⟨r13, g15, h⟩ := zp_inv h
        refine zq_call1 rfl rfl (zh_5 _) rfl rfl rfl (tX0_crewOf zM_17 g15) rfl ?_
        obtain rfl := Option.some.inj h
        exact zq_iret rfl
      · rw [if_neg g6] at h
        exact zr_wk [none, none, none] trivial (tX11_barge_J20 h)
def kX11_barge_T : List (Option zi_I) := kX11_barge.set 20 (some (.return_, 1, 0, 0, []))
def fX11_barge_T_J20 (n : Nat) (s : zs) : Option Unit := some ()
theorem tX11_barge_T_J20 {n : Nat} {c : Nat × Nat} {s : zs} (h : fX11_barge_T_J20 n s = some ()) : zr kX11_barge_T 0 1 20 [none, none, none] [] (zS c s) none (zS c s) := by
  unfold fX11_barge_T_J20 at h
  exact zq_vret rfl
def fX11_barge_T (n : Nat) (s : zs) (x1 : Int32) (x2 : Int32) : Option Unit := zp (fX0_hasBarge n s x1) (fun r1 => if r1 = 0 then fX11_barge_T_J20 n s else if x2 < 0 then fX11_barge_T_J20 n s else if x2 ≤ (3 : Int32) then if x2 = (0 : Int32) then cond (zi_in x1 4) (none) none else if x2 = (1 : Int32) then cond (zi_in x1 4) (none) none else if x2 = (2 : Int32) then cond (zi_in x1 4) (none) none else zp (fX0_crewOf n s 17 x1) (fun r13 => none) else fX11_barge_T_J20 n s)
theorem tX11_barge_T {n : Nat} {c : Nat × Nat} {s : zs} {x1 : Int32} {x2 : Int32} (h : fX11_barge_T n s x1 x2 = some ()) : zr kX11_barge_T 0 1 0 [some (.ref 0), some (.int x1), some (.int x2)] [] (zS c s) none (zS c s) := by
  unfold fX11_barge_T at h
  refine zr_many 1 (pc' := 1) (L' := [some (.ref 0), some (.int x1), some (.int x2)]) (st' := [.ref 0]) (S1 := zS c s) rfl ?_
  refine zq_get rfl (zh_0 _) rfl rfl rfl ?_
  refine zr_many 1 (pc' := 5) (L' := [some (.ref 0), some (.int x1), some (.int x2)]) (st' := [.int x1, .ref 5]) (S1 := zS c s) rfl ?_
  obtain ⟨r1, g3, h⟩ := zp_inv h
  refine zq_call1 rfl rfl (zh_5 _) rfl rfl rfl (tX0_hasBarge g3) rfl ?_
  refine zq_if1 (b := r1 = 0) rfl Iff.rfl rfl (fun g4 => ?_) (fun g4 => ?_)
  · rw [if_pos g4] at h
    exact zr_wk [none, none, none] trivial (tX11_barge_T_J20 h)
  · rw [if_neg g4] at h
    refine zr_many 1 (pc' := 12) (L' := [some (.ref 0), some (.int x1), some (.int x2)]) (st' := [.int x2]) (S1 := zS c s) rfl ?_
    refine zq_if1 (b := x2 < 0) rfl Iff.rfl rfl (fun g5 => ?_) (fun g5 => ?_)
    · rw [if_pos g5] at h
      exact zr_wk [none, none, none] trivial (tX11_barge_T_J20 h)
    · rw [if_neg g5] at h
      refine zr_many 2 (pc' := 17) (L' := [some (.ref 0), some (.int x1), some (.int x2)]) (st' := [.int (3 : Int32), .int x2]) (S1 := zS c s) rfl ?_
      refine zq_if2 (b := x2 ≤ (3 : Int32)) rfl Iff.rfl rfl (fun g6 => ?_) (fun g6 => ?_)
      · rw [if_pos g6] at h
        refine zr_many 1 (pc' := 29) (L' := [some (.ref 0), some (.int x1), some (.int x2)]) (st' := [.int x2]) (S1 := zS c s) rfl ?_
        refine zq_sw (Or.inl ⟨_, _, _, _, rfl⟩) ?_
        by_cases g7 : x2 = (0 : Int32)
        · rw [if_pos g7] at h
          rw [zi_sw_pos g7]
          refine zr_many 1 (pc' := 57) (L' := [some (.ref 0), some (.int x1), some (.int x2)]) (st' := [.ref 0]) (S1 := zS c s) rfl ?_
          refine zq_get rfl (zh_0 _) rfl rfl rfl ?_
          refine zq_get rfl (zh_17 _) rfl rfl rfl ?_
          refine zr_many 1 (pc' := 64) (L' := [some (.ref 0), some (.int x1), some (.int x2)]) (st' := [.int x1, .ref 21]) (S1 := zS c s) rfl ?_
          obtain ⟨g8, h⟩ := zi_cond_inv h
          refine zq_ild rfl (zh_21 _) rfl g8 rfl ?_
          cases h
        rw [if_neg g7] at h
        rw [zi_sw_neg g7]
        by_cases g9 : x2 = (1 : Int32)
        · rw [if_pos g9] at h
          rw [zi_sw_pos g9]
          refine zr_many 1 (pc' := 67) (L' := [some (.ref 0), some (.int x1), some (.int x2)]) (st' := [.ref 0]) (S1 := zS c s) rfl ?_
          refine zq_get rfl (zh_0 _) rfl rfl rfl ?_
          refine zq_get rfl (zh_5 _) rfl rfl rfl ?_
          refine zr_many 1 (pc' := 74) (L' := [some (.ref 0), some (.int x1), some (.int x2)]) (st' := [.int x1, .ref 16]) (S1 := zS c s) rfl ?_
          obtain ⟨g10, h⟩ := zi_cond_inv h
          refine zq_ild rfl (zh_16 _) rfl g10 rfl ?_
          cases h
        rw [if_neg g9] at h
        rw [zi_sw_neg g9]
        by_cases g11 : x2 = (2 : Int32)
        · rw [if_pos g11] at h
          rw [zi_sw_pos g11]
          refine zr_many 1 (pc' := 77) (L' := [some (.ref 0), some (.int x1), some (.int x2)]) (st' := [.ref 0]) (S1 := zS c s) rfl ?_
          refine zq_get rfl (zh_0 _) rfl rfl rfl ?_
          refine zq_get rfl (zh_17 _) rfl rfl rfl ?_
          refine zr_many 1 (pc' := 84) (L' := [some (.ref 0), some (.int x1), some (.int x2)]) (st' := [.int x1, .ref 22]) (S1 := zS c s) rfl ?_
          obtain ⟨g12, h⟩ := zi_cond_inv h
          refine zq_ild rfl (zh_22 _) rfl g12 rfl ?_
          cases h
        rw [if_neg g11] at h
        rw [zi_sw_neg g11]
        simp only [zi_sw]
        refine zr_many 1 (pc' := 87) (L' := [some (.ref 0), some (.int x1), some (.int x2)]) (st' := [.ref 0]) (S1 := zS c s) rfl ?_
        refine zq_get rfl (zh_0 _) rfl rfl rfl ?_
        refine zr_many 1 (pc' := 91) (L' := [some (.ref 0), some (.int x1), some (.int x2)]) (st' := [.ref 0, .ref 5]) (S1 := zS c s) rfl ?_
        refine zq_get rfl (zh_0 _) rfl rfl rfl ?_
        refine zr_many 1 (pc' := 95) (L' := [some (.ref 0), some (.int x1), some (.int x2)]) (st' := [.int x1, .ref 17, .ref 5]) (S1 := zS c s) rfl ?_
        obtain ⟨r13, g15, h⟩ := zp_inv h
        refine zq_call1 rfl rfl (zh_5 _) rfl rfl rfl (tX0_crewOf zM_17 g15) rfl ?_
        cases h
      · rw [if_neg g6] at h
        exact zr_wk [none, none, none] trivial (tX11_barge_T_J20 h)
def fX11_row_J15 (n : Nat) (s : zs) : Option Int64 := none
theorem tX11_row_J15 {n : Nat} {c : Nat × Nat} {s : zs} {r : Int64} (h : fX11_row_J15 n s = some r) : zr kX11_row 3 1 15 [none, none] [] (zS c s) (some (.long r)) (zS c s) := by
  unfold fX11_row_J15 at h
  cases h
def fX11_row (n : Nat) (s : zs) (x1 : Int32) : Option Int64 := if x1 < 0 then fX11_row_J15 n s else zp (fX5_size n s) (fun r2 => if x1 < r2 then zp (fX5_at n s x1) (fun r6 => some r6) else fX11_row_J15 n s)
theorem tX11_row {n : Nat} {c : Nat × Nat} {s : zs} {x1 : Int32} {r : Int64} (h : fX11_row n s x1 = some r) : zc 2 2261 [.ref 0, .int x1] (zS c s) (some (.long r)) (zS c s) := by
  refine zc_of (k := kX11_row) (rt := 3) (L := [some (.ref 0), some (.int x1)]) zm_2261.1 rfl rfl (by decide) rfl rfl ?_
  unfold fX11_row at h
  refine zr_many 1 (pc' := 1) (L' := [some (.ref 0), some (.int x1)]) (st' := [.int x1]) (S1 := zS c s) rfl ?_
  refine zq_if1 (b := x1 < 0) rfl Iff.rfl rfl (fun g1 => ?_) (fun g1 => ?_)
  · rw [if_pos g1] at h
    exact zr_wk [none, none] trivial (tX11_row_J15 h)
  · rw [if_neg g1] at h
    refine zr_many 2 (pc' := 6) (L' := [some (.ref 0), some (.int x1)]) (st' := [.ref 0, .int x1]) (S1 := zS c s) rfl ?_
    refine zq_get rfl (zh_0 _) rfl rfl rfl ?_
    obtain ⟨r2, g4, h⟩ := zp_inv h
    refine zq_call1 rfl rfl (zh_3 _) rfl rfl rfl (tX5_size g4) rfl ?_
    refine zq_if2 (b := x1 < r2) rfl Iff.rfl rfl (fun g5 => ?_) (fun g5 => ?_)
    · rw [if_pos g5] at h
      refine zr_many 1 (pc' := 24) (L' := [some (.ref 0), some (.int x1)]) (st' := [.ref 0]) (S1 := zS c s) rfl ?_
      refine zq_get rfl (zh_0 _) rfl rfl rfl ?_
      refine zr_many 1 (pc' := 28) (L' := [some (.ref 0), some (.int x1)]) (st' := [.int x1, .ref 3]) (S1 := zS c s) rfl ?_
      obtain ⟨r6, g8, h⟩ := zp_inv h
      refine zq_call1 rfl rfl (zh_3 _) rfl rfl rfl (tX5_at g8) rfl ?_
      obtain rfl := Option.some.inj h
      exact zq_lret rfl
    · rw [if_neg g5] at h
      exact zr_wk [none, none] trivial (tX11_row_J15 h)
def kX11_row_T : List (Option zi_I) := kX11_row.set 15 (some (.return_, 1, 0, 0, []))
def fX11_row_T_J15 (n : Nat) (s : zs) : Option Unit := some ()
theorem tX11_row_T_J15 {n : Nat} {c : Nat × Nat} {s : zs} (h : fX11_row_T_J15 n s = some ()) : zr kX11_row_T 0 1 15 [none, none] [] (zS c s) none (zS c s) := by
  unfold fX11_row_T_J15 at h
  exact zq_vret rfl
def fX11_row_T (n : Nat) (s : zs) (x1 : Int32) : Option Unit := if x1 < 0 then fX11_row_T_J15 n s else zp (fX5_size n s) (fun r2 => if x1 < r2 then zp (fX5_at n s x1) (fun r6 => none) else fX11_row_T_J15 n s)
theorem tX11_row_T {n : Nat} {c : Nat × Nat} {s : zs} {x1 : Int32} (h : fX11_row_T n s x1 = some ()) : zr kX11_row_T 0 1 0 [some (.ref 0), some (.int x1)] [] (zS c s) none (zS c s) := by
  unfold fX11_row_T at h
  refine zr_many 1 (pc' := 1) (L' := [some (.ref 0), some (.int x1)]) (st' := [.int x1]) (S1 := zS c s) rfl ?_
  refine zq_if1 (b := x1 < 0) rfl Iff.rfl rfl (fun g1 => ?_) (fun g1 => ?_)
  · rw [if_pos g1] at h
    exact zr_wk [none, none] trivial (tX11_row_T_J15 h)
  · rw [if_neg g1] at h
    refine zr_many 2 (pc' := 6) (L' := [some (.ref 0), some (.int x1)]) (st' := [.ref 0, .int x1]) (S1 := zS c s) rfl ?_
    refine zq_get rfl (zh_0 _) rfl rfl rfl ?_
    obtain ⟨r2, g4, h⟩ := zp_inv h
    refine zq_call1 rfl rfl (zh_3 _) rfl rfl rfl (tX5_size g4) rfl ?_
    refine zq_if2 (b := x1 < r2) rfl Iff.rfl rfl (fun g5 => ?_) (fun g5 => ?_)
    · rw [if_pos g5] at h
      refine zr_many 1 (pc' := 24) (L' := [some (.ref 0), some (.int x1)]) (st' := [.ref 0]) (S1 := zS c s) rfl ?_
      refine zq_get rfl (zh_0 _) rfl rfl rfl ?_
      refine zr_many 1 (pc' := 28) (L' := [some (.ref 0), some (.int x1)]) (st' := [.int x1, .ref 3]) (S1 := zS c s) rfl ?_
      obtain ⟨r6, g8, h⟩ := zp_inv h
      refine zq_call1 rfl rfl (zh_3 _) rfl rfl rfl (tX5_at g8) rfl ?_
      cases h
    · rw [if_neg g5] at h
      exact zr_wk [none, none] trivial (tX11_row_T_J15 h)
