/-! ===== printed by wip/gen/dec.py: the methods as functions, each with its run ===== -/
def fX3_levelOf (n : Nat) (s : zs) (m0 : Nat) (x1 : Int32) : Option Int32 := some (((s.1 m0 0) >>> (x1 &&& 31)) &&& (1 : Int32))
theorem tX3_levelOf {n : Nat} {c : Nat × Nat} {s : zs} {m0 : Nat} {x1 : Int32} {r : Int32} (hm0 : zM m0) (h : fX3_levelOf n s m0 x1 = some r) : zc 1 602 [.ref m0, .int x1] (zS c s) (some (.int r)) (zS c s) := by
  refine zc_of (k := kX3_levelOf) (rt := 1) (L := [some (.ref m0), some (.int x1)]) zm_602.1 rfl rfl (by decide) rfl rfl ?_
  unfold fX3_levelOf at h
  refine zr_many 1 (pc' := 1) (L' := [some (.ref m0), some (.int x1)]) (st' := [.ref m0]) (S1 := zS c s) rfl ?_
  refine zq_get rfl (zhM_0 hm0 _) (zM_lt (j := 0) hm0 (by decide)) rfl rfl ?_
  refine zr_many 4 (pc' := 8) (L' := [some (.ref m0), some (.int x1)]) (st' := [.int (((s.1 m0 0) >>> (x1 &&& 31)) &&& (1 : Int32))]) (S1 := zS c s) rfl ?_
  cases h
  exact zq_iret rfl
def fX3_setLevel (n : Nat) (s : zs) (m0 : Nat) (x1 : Int32) (x2 : Int32) : Option zs := some (zsi s m0 0 (((s.1 m0 0) &&& (((1 : Int32) <<< (x1 &&& 31)) ^^^ (-1 : Int32))) ||| (x2 <<< (x1 &&& 31))))
theorem tX3_setLevel {n : Nat} {c : Nat × Nat} {s : zs} {m0 : Nat} {x1 : Int32} {x2 : Int32} {s' : zs} (hm0 : zM m0) (h : fX3_setLevel n s m0 x1 x2 = some s') : zc 1 603 [.ref m0, .int x1, .int x2] (zS c s) none (zS c s') := by
  refine zc_of (k := kX3_setLevel) (rt := 0) (L := [some (.ref m0), some (.int x1), some (.int x2)]) zm_603.1 rfl rfl (by decide) rfl rfl ?_
  unfold fX3_setLevel at h
  refine zr_many 2 (pc' := 2) (L' := [some (.ref m0), some (.int x1), some (.int x2)]) (st' := [.ref m0, .ref m0]) (S1 := zS c s) rfl ?_
  refine zq_get rfl (zhM_0 hm0 _) (zM_lt (j := 0) hm0 (by decide)) rfl rfl ?_
  refine zr_many 10 (pc' := 15) (L' := [some (.ref m0), some (.int x1), some (.int x2)]) (st' := [.int (((s.1 m0 0) &&& (((1 : Int32) <<< (x1 &&& 31)) ^^^ (-1 : Int32))) ||| (x2 <<< (x1 &&& 31))), .ref m0]) (S1 := zS c s) rfl ?_
  refine zq_putM rfl hm0 (by decide) rfl ?_
  cases h
  exact zq_vret rfl
def fX3_whereIs_J31 (n : Nat) (s : zs) (y0 : Int32) : Option Int32 := some y0
theorem tX3_whereIs_J31 {n : Nat} {c : Nat × Nat} {s : zs} {y0 : Int32} {r : Int32} (h : fX3_whereIs_J31 n s y0 = some r) : zr kX3_whereIs 1 0 31 [none, none, none] [.int y0] (zS c s) (some (.int r)) (zS c s) := by
  unfold fX3_whereIs_J31 at h
  cases h
  exact zq_iret rfl
def fX3_whereIs_J25 (n : Nat) (s : zs) (m0 : Nat) (x1 : Int32) : Option Int32 := cond (zi_in x1 8) (fX3_whereIs_J31 n s (s.1 (m0 + 1) x1.toNatClampNeg)) none
theorem tX3_whereIs_J25 {n : Nat} {c : Nat × Nat} {s : zs} {m0 : Nat} {x1 : Int32} {r : Int32} (hm0 : zM m0) (h : fX3_whereIs_J25 n s m0 x1 = some r) : zr kX3_whereIs 1 0 25 [some (.ref m0), some (.int x1), none] [] (zS c s) (some (.int r)) (zS c s) := by
  unfold fX3_whereIs_J25 at h
  refine zr_many 1 (pc' := 26) (L' := [some (.ref m0), some (.int x1), none]) (st' := [.ref m0]) (S1 := zS c s) rfl ?_
  refine zq_get rfl (zhM_0 hm0 _) (zM_lt (j := 0) hm0 (by decide)) rfl rfl ?_
  refine zr_many 1 (pc' := 30) (L' := [some (.ref m0), some (.int x1), none]) (st' := [.int x1, .ref (m0 + 1)]) (S1 := zS c s) rfl ?_
  obtain ⟨g3, h⟩ := zi_cond_inv h
  refine zq_ild rfl (zhM_1 hm0 _) (zM_lt (j := 1) hm0 (by decide)) g3 rfl ?_
  exact zr_wk [none, none, none] trivial (tX3_whereIs_J31 h)
def fX3_whereIs (n : Nat) (s : zs) (m0 : Nat) (x1 : Int32) : Option Int32 := cond (zi_in x1 8) (if (s.1 (m0 + 2) x1.toNatClampNeg) < 0 then fX3_whereIs_J25 n s m0 x1 else if (4 : Int32) ≤ (s.1 (m0 + 2) x1.toNatClampNeg) then fX3_whereIs_J25 n s m0 x1 else cond (zi_in (s.1 (m0 + 2) x1.toNatClampNeg) 4) (fX3_whereIs_J31 n s (s.1 (m0 + 4) (s.1 (m0 + 2) x1.toNatClampNeg).toNatClampNeg)) none) none
theorem tX3_whereIs {n : Nat} {c : Nat × Nat} {s : zs} {m0 : Nat} {x1 : Int32} {r : Int32} (hm0 : zM m0) (h : fX3_whereIs n s m0 x1 = some r) : zc 1 604 [.ref m0, .int x1] (zS c s) (some (.int r)) (zS c s) := by
  refine zc_of (k := kX3_whereIs) (rt := 1) (L := [some (.ref m0), some (.int x1), none]) zm_604.1 rfl rfl (by decide) rfl rfl ?_
  unfold fX3_whereIs at h
  refine zr_many 1 (pc' := 1) (L' := [some (.ref m0), some (.int x1), none]) (st' := [.ref m0]) (S1 := zS c s) rfl ?_
  refine zq_get rfl (zhM_0 hm0 _) (zM_lt (j := 0) hm0 (by decide)) rfl rfl ?_
  refine zr_many 1 (pc' := 5) (L' := [some (.ref m0), some (.int x1), none]) (st' := [.int x1, .ref (m0 + 2)]) (S1 := zS c s) rfl ?_
  obtain ⟨g1, h⟩ := zi_cond_inv h
  refine zq_ild rfl (zhM_2 hm0 _) (zM_lt (j := 2) hm0 (by decide)) g1 rfl ?_
  refine zr_many 2 (pc' := 8) (L' := [some (.ref m0), some (.int x1), some (.int (s.1 (m0 + 2) x1.toNatClampNeg))]) (st' := [.int (s.1 (m0 + 2) x1.toNatClampNeg)]) (S1 := zS c s) rfl ?_
  refine zq_if1 (b := (s.1 (m0 + 2) x1.toNatClampNeg) < 0) rfl Iff.rfl rfl (fun g2 => ?_) (fun g2 => ?_)
  · rw [if_pos g2] at h
    exact zr_wk [some (.ref m0), some (.int x1), none] ⟨rfl, rfl, trivial⟩ (tX3_whereIs_J25 hm0 h)
  · rw [if_neg g2] at h
    refine zr_many 2 (pc' := 13) (L' := [some (.ref m0), some (.int x1), some (.int (s.1 (m0 + 2) x1.toNatClampNeg))]) (st' := [.int (4 : Int32), .int (s.1 (m0 + 2) x1.toNatClampNeg)]) (S1 := zS c s) rfl ?_
    refine zq_if2 (b := (4 : Int32) ≤ (s.1 (m0 + 2) x1.toNatClampNeg)) rfl Iff.rfl rfl (fun g4 => ?_) (fun g4 => ?_)
    · rw [if_pos g4] at h
      exact zr_wk [some (.ref m0), some (.int x1), none] ⟨rfl, rfl, trivial⟩ (tX3_whereIs_J25 hm0 h)
    · rw [if_neg g4] at h
      refine zr_many 1 (pc' := 17) (L' := [some (.ref m0), some (.int x1), some (.int (s.1 (m0 + 2) x1.toNatClampNeg))]) (st' := [.ref m0]) (S1 := zS c s) rfl ?_
      refine zq_get rfl (zhM_0 hm0 _) (zM_lt (j := 0) hm0 (by decide)) rfl rfl ?_
      refine zr_many 1 (pc' := 21) (L' := [some (.ref m0), some (.int x1), some (.int (s.1 (m0 + 2) x1.toNatClampNeg))]) (st' := [.int (s.1 (m0 + 2) x1.toNatClampNeg), .ref (m0 + 4)]) (S1 := zS c s) rfl ?_
      obtain ⟨g5, h⟩ := zi_cond_inv h
      refine zq_ild rfl (zhM_4 hm0 _) (zM_lt (j := 4) hm0 (by decide)) g5 rfl ?_
      refine zr_many 1 (pc' := 31) (L' := [some (.ref m0), some (.int x1), some (.int (s.1 (m0 + 2) x1.toNatClampNeg))]) (st' := [.int (s.1 (m0 + 4) (s.1 (m0 + 2) x1.toNatClampNeg).toNatClampNeg)]) (S1 := zS c s) rfl ?_
      exact zr_wk [none, none, none] trivial (tX3_whereIs_J31 h)
def fX3_letGoBy_B30 (n : Nat) (m0 : Nat) (x2 : Int32) (w : Int32 × zs) : Option ((Int32 × zs) ⊕ (zs)) := if (8 : Int32) ≤ w.1 then some (Sum.inr w.2) else cond (zi_in w.1 8) (cond (zi_in w.1 8) (some (Sum.inl ((w.1 + (1 : Int32)), (zsi w.2 (m0 + 3) w.1.toNatClampNeg (if (0 : Int32) < ((w.2.1 (m0 + 3) w.1.toNatClampNeg) - x2) then ((w.2.1 (m0 + 3) w.1.toNatClampNeg) - x2) else (0 : Int32)))))) none) none
theorem tX3_letGoBy_B30 {n : Nat} {c : Nat × Nat} {m0 : Nat} {x2 : Int32} {w : Int32 × zs} {o : _} {v : Option Value} {S' : zi_S} (hm0 : zM m0) (h : fX3_letGoBy_B30 n m0 x2 w = some o) (hn : ∀ w, o = Sum.inl w → zr kX3_letGoBy 0 0 30 [some (.ref m0), none, some (.int x2), some (.int w.1)] [] (zS c w.2) v S') (hx : ∀ w, o = Sum.inr w → (fun w => zr kX3_letGoBy 0 0 60 [none, none, none, none] [] (zS c w) v S') w) : zr kX3_letGoBy 0 0 30 [some (.ref m0), none, some (.int x2), some (.int w.1)] [] (zS c w.2) v S' := by
  unfold fX3_letGoBy_B30 at h
  refine zr_many 2 (pc' := 33) (L' := [some (.ref m0), none, some (.int x2), some (.int w.1)]) (st' := [.int (8 : Int32), .int w.1]) (S1 := zS c w.2) rfl ?_
  refine zq_if2 (b := (8 : Int32) ≤ w.1) rfl Iff.rfl rfl (fun g1 => ?_) (fun g1 => ?_)
  · rw [if_pos g1] at h
    cases h
    exact zr_wk [none, none, none, none] trivial (hx _ rfl)
  · rw [if_neg g1] at h
    refine zr_many 1 (pc' := 37) (L' := [some (.ref m0), none, some (.int x2), some (.int w.1)]) (st' := [.ref m0]) (S1 := zS c w.2) rfl ?_
    refine zq_get rfl (zhM_0 hm0 _) (zM_lt (j := 0) hm0 (by decide)) rfl rfl ?_
    refine zr_many 3 (pc' := 43) (L' := [some (.ref m0), none, some (.int x2), some (.int w.1)]) (st' := [.ref m0, .int (0 : Int32), .int w.1, .ref (m0 + 3)]) (S1 := zS c w.2) rfl ?_
    refine zq_get rfl (zhM_0 hm0 _) (zM_lt (j := 0) hm0 (by decide)) rfl rfl ?_
    refine zr_many 1 (pc' := 47) (L' := [some (.ref m0), none, some (.int x2), some (.int w.1)]) (st' := [.int w.1, .ref (m0 + 3), .int (0 : Int32), .int w.1, .ref (m0 + 3)]) (S1 := zS c w.2) rfl ?_
    obtain ⟨g2, h⟩ := zi_cond_inv h
    refine zq_ild rfl (zhM_3 hm0 _) (zM_lt (j := 3) hm0 (by decide)) g2 rfl ?_
    refine zr_many 3 (pc' := 53) (L' := [some (.ref m0), none, some (.int x2), some (.int w.1)]) (st' := [.int (if (0 : Int32) < ((w.2.1 (m0 + 3) w.1.toNatClampNeg) - x2) then ((w.2.1 (m0 + 3) w.1.toNatClampNeg) - x2) else (0 : Int32)), .int w.1, .ref (m0 + 3)]) (S1 := zS c w.2) rfl ?_
    obtain ⟨g3, h⟩ := zi_cond_inv h
    refine zq_ist rfl (zhM_3 hm0) (zM_lt (j := 3) hm0 (by decide)) g3 rfl ?_
    refine zr_many 2 (pc' := 30) (L' := [some (.ref m0), none, some (.int x2), some (.int (w.1 + (1 : Int32)))]) (st' := []) (S1 := zS c (zsi w.2 (m0 + 3) w.1.toNatClampNeg (if (0 : Int32) < ((w.2.1 (m0 + 3) w.1.toNatClampNeg) - x2) then ((w.2.1 (m0 + 3) w.1.toNatClampNeg) - x2) else (0 : Int32)))) rfl ?_
    cases h
    exact zr_wk [some (.ref m0), none, some (.int x2), some (.int (w.1 + (1 : Int32)))] ⟨rfl, rfl, rfl, trivial⟩ (hn _ rfl)
def fX3_letGoBy (n : Nat) (s : zs) (m0 : Nat) (x1 : Int32) : Option zs := zp (zl (fX3_letGoBy_B30 n m0 ((((s.1 m0 2) + x1) / (10 : Int32)) - ((s.1 m0 2) / (10 : Int32)))) n ((0 : Int32), (zsi s m0 2 ((s.1 m0 2) + x1)))) (fun w4 => some w4)
theorem tX3_letGoBy {n : Nat} {c : Nat × Nat} {s : zs} {m0 : Nat} {x1 : Int32} {s' : zs} (hm0 : zM m0) (h : fX3_letGoBy n s m0 x1 = some s') : zc 1 605 [.ref m0, .int x1] (zS c s) none (zS c s') := by
  refine zc_of (k := kX3_letGoBy) (rt := 0) (L := [some (.ref m0), some (.int x1), none, none]) zm_605.1 rfl rfl (by decide) rfl rfl ?_
  unfold fX3_letGoBy at h
  refine zr_many 1 (pc' := 1) (L' := [some (.ref m0), some (.int x1), none, none]) (st' := [.ref m0]) (S1 := zS c s) rfl ?_
  refine zq_get rfl (zhM_0 hm0 _) (zM_lt (j := 0) hm0 (by decide)) rfl rfl ?_
  refine zr_many 3 (pc' := 8) (L' := [some (.ref m0), some (.int x1), none, none]) (st' := [.int (10 : Int32), .int ((s.1 m0 2) + x1)]) (S1 := zS c s) rfl ?_
  refine zq_idiv rfl (by decide) rfl ?_
  refine zr_many 1 (pc' := 10) (L' := [some (.ref m0), some (.int x1), none, none]) (st' := [.ref m0, .int (((s.1 m0 2) + x1) / (10 : Int32))]) (S1 := zS c s) rfl ?_
  refine zq_get rfl (zhM_0 hm0 _) (zM_lt (j := 0) hm0 (by decide)) rfl rfl ?_
  refine zr_many 1 (pc' := 15) (L' := [some (.ref m0), some (.int x1), none, none]) (st' := [.int (10 : Int32), .int (s.1 m0 2), .int (((s.1 m0 2) + x1) / (10 : Int32))]) (S1 := zS c s) rfl ?_
  refine zq_idiv rfl (by decide) rfl ?_
  refine zr_many 4 (pc' := 20) (L' := [some (.ref m0), some (.int x1), some (.int ((((s.1 m0 2) + x1) / (10 : Int32)) - ((s.1 m0 2) / (10 : Int32)))), none]) (st' := [.ref m0, .ref m0]) (S1 := zS c s) rfl ?_
  refine zq_get rfl (zhM_0 hm0 _) (zM_lt (j := 0) hm0 (by decide)) rfl rfl ?_
  refine zr_many 2 (pc' := 25) (L' := [some (.ref m0), some (.int x1), some (.int ((((s.1 m0 2) + x1) / (10 : Int32)) - ((s.1 m0 2) / (10 : Int32)))), none]) (st' := [.int ((s.1 m0 2) + x1), .ref m0]) (S1 := zS c s) rfl ?_
  refine zq_putM rfl hm0 (by decide) rfl ?_
  refine zr_many 2 (pc' := 30) (L' := [some (.ref m0), some (.int x1), some (.int ((((s.1 m0 2) + x1) / (10 : Int32)) - ((s.1 m0 2) / (10 : Int32)))), some (.int (0 : Int32))]) (st' := []) (S1 := zS c (zsi s m0 2 ((s.1 m0 2) + x1))) rfl ?_
  obtain ⟨w4, g5, h⟩ := zp_inv h
  refine zr_wk [some (.ref m0), none, some (.int ((((s.1 m0 2) + x1) / (10 : Int32)) - ((s.1 m0 2) / (10 : Int32)))), some (.int (0 : Int32))] ⟨rfl, rfl, rfl, trivial⟩ (zl_cert (Z := fun w => zr kX3_letGoBy 0 0 30 [some (.ref m0), none, some (.int ((((s.1 m0 2) + x1) / (10 : Int32)) - ((s.1 m0 2) / (10 : Int32)))), some (.int w.1)] [] (zS c w.2) _ _) (Y := (fun w => zr kX3_letGoBy 0 0 60 [none, none, none, none] [] (zS c w) _ _)) (fun w o h1 h2 h3 => tX3_letGoBy_B30 hm0 h1 h2 h3) n _ _ g5 ?_)
  show zr kX3_letGoBy 0 0 60 [none, none, none, none] [] (zS c w4) _ _
  cases h
  exact zq_vret rfl
def fX4_size (n : Nat) (s : zs) : Option Int32 := some (s.1 43 4)
theorem tX4_size {n : Nat} {c : Nat × Nat} {s : zs} {r : Int32} (h : fX4_size n s = some r) : zc 1 801 [.ref 43] (zS c s) (some (.int r)) (zS c s) := by
  refine zc_of (k := kX4_size) (rt := 1) (L := [some (.ref 43)]) zm_801.1 rfl rfl (by decide) rfl rfl ?_
  unfold fX4_size at h
  refine zr_many 1 (pc' := 1) (L' := [some (.ref 43)]) (st' := [.ref 43]) (S1 := zS c s) rfl ?_
  refine zq_get rfl (zh_43 _) rfl rfl rfl ?_
  cases h
  exact zq_iret rfl
def fX4_clear (n : Nat) (s : zs) : Option zs := some (zsi (zsi (zsi s 43 4 (0 : Int32)) 43 2 (0 : Int32)) 43 3 (0 : Int32))
theorem tX4_clear {n : Nat} {c : Nat × Nat} {s : zs} {s' : zs} (h : fX4_clear n s = some s') : zc 1 802 [.ref 43] (zS c s) none (zS c s') := by
  refine zc_of (k := kX4_clear) (rt := 0) (L := [some (.ref 43)]) zm_802.1 rfl rfl (by decide) rfl rfl ?_
  unfold fX4_clear at h
  refine zr_many 2 (pc' := 2) (L' := [some (.ref 43)]) (st' := [.int (0 : Int32), .ref 43]) (S1 := zS c s) rfl ?_
  refine zq_put (s' := (zsi s 43 4 (0 : Int32))) rfl (zh_43 _) rfl rfl rfl rfl zsi_ne rfl ?_
  refine zr_many 2 (pc' := 7) (L' := [some (.ref 43)]) (st' := [.int (0 : Int32), .ref 43]) (S1 := zS c (zsi s 43 4 (0 : Int32))) rfl ?_
  refine zq_put (s' := (zsi (zsi s 43 4 (0 : Int32)) 43 2 (0 : Int32))) rfl (zh_43 _) rfl rfl rfl rfl zsi_ne rfl ?_
  refine zr_many 2 (pc' := 12) (L' := [some (.ref 43)]) (st' := [.int (0 : Int32), .ref 43]) (S1 := zS c (zsi (zsi s 43 4 (0 : Int32)) 43 2 (0 : Int32))) rfl ?_
  refine zq_put (s' := (zsi (zsi (zsi s 43 4 (0 : Int32)) 43 2 (0 : Int32)) 43 3 (0 : Int32))) rfl (zh_43 _) rfl rfl rfl rfl zsi_ne rfl ?_
  cases h
  exact zq_vret rfl
def fX4_note_J53 (n : Nat) (s : zs) : Option (Int32 × zs) := some ((1 : Int32), s)
theorem tX4_note_J53 {n : Nat} {c : Nat × Nat} {s : zs} {r : Int32} {s' : zs} (h : fX4_note_J53 n s = some (r, s')) : zr kX4_note 2 0 53 [none, none, none] [] (zS c s) (some (.int r)) (zS c s') := by
  unfold fX4_note_J53 at h
  refine zr_many 1 (pc' := 54) (L' := [none, none, none]) (st' := [.int (1 : Int32)]) (S1 := zS c s) rfl ?_
  cases h
  exact zq_zret rfl (by decide)
def fX4_note (n : Nat) (s : zs) (x1 : Int32) (x2 : Int32) : Option (Int32 × zs) := if (s.1 43 4) < (12 : Int32) then if ¬ x2 = (1 : Int32) then fX4_note_J53 n (zsi (zsi s 43 4 ((s.1 43 4) + (1 : Int32))) 43 3 (((zsi s 43 4 ((s.1 43 4) + (1 : Int32))).1 43 3) ||| ((1 : Int32) <<< (x1 &&& 31)))) else fX4_note_J53 n (zsi (zsi s 43 4 ((s.1 43 4) + (1 : Int32))) 43 2 (((zsi s 43 4 ((s.1 43 4) + (1 : Int32))).1 43 2) ||| ((1 : Int32) <<< (x1 &&& 31)))) else some ((0 : Int32), s)
theorem tX4_note {n : Nat} {c : Nat × Nat} {s : zs} {x1 : Int32} {x2 : Int32} {r : Int32} {s' : zs} (h : fX4_note n s x1 x2 = some (r, s')) : zc 1 803 [.ref 43, .int x1, .int x2] (zS c s) (some (.int r)) (zS c s') := by
  refine zc_of (k := kX4_note) (rt := 2) (L := [some (.ref 43), some (.int x1), some (.int x2)]) zm_803.1 rfl rfl (by decide) rfl rfl ?_
  unfold fX4_note at h
  refine zr_many 1 (pc' := 1) (L' := [some (.ref 43), some (.int x1), some (.int x2)]) (st' := [.ref 43]) (S1 := zS c s) rfl ?_
  refine zq_get rfl (zh_43 _) rfl rfl rfl ?_
  refine zr_many 1 (pc' := 6) (L' := [some (.ref 43), some (.int x1), some (.int x2)]) (st' := [.int (12 : Int32), .int (s.1 43 4)]) (S1 := zS c s) rfl ?_
  refine zq_if2 (b := (s.1 43 4) < (12 : Int32)) rfl Iff.rfl rfl (fun g1 => ?_) (fun g1 => ?_)
  · rw [if_pos g1] at h
    refine zr_many 2 (pc' := 13) (L' := [some (.ref 43), some (.int x1), some (.int x2)]) (st' := [.ref 43, .ref 43]) (S1 := zS c s) rfl ?_
    refine zq_get rfl (zh_43 _) rfl rfl rfl ?_
    refine zr_many 2 (pc' := 18) (L' := [some (.ref 43), some (.int x1), some (.int x2)]) (st' := [.int ((s.1 43 4) + (1 : Int32)), .ref 43]) (S1 := zS c s) rfl ?_
    refine zq_put (s' := (zsi s 43 4 ((s.1 43 4) + (1 : Int32)))) rfl (zh_43 _) rfl rfl rfl rfl zsi_ne rfl ?_
    refine zr_many 2 (pc' := 23) (L' := [some (.ref 43), some (.int x1), some (.int x2)]) (st' := [.int (1 : Int32), .int x2]) (S1 := zS c (zsi s 43 4 ((s.1 43 4) + (1 : Int32)))) rfl ?_
    refine zq_if2 (b := ¬ x2 = (1 : Int32)) rfl Iff.rfl rfl (fun g2 => ?_) (fun g2 => ?_)
    · rw [if_pos g2] at h
      refine zr_many 2 (pc' := 43) (L' := [some (.ref 43), some (.int x1), some (.int x2)]) (st' := [.ref 43, .ref 43]) (S1 := zS c (zsi s 43 4 ((s.1 43 4) + (1 : Int32)))) rfl ?_
      refine zq_get rfl (zh_43 _) rfl rfl rfl ?_
      refine zr_many 4 (pc' := 50) (L' := [some (.ref 43), some (.int x1), some (.int x2)]) (st' := [.int (((zsi s 43 4 ((s.1 43 4) + (1 : Int32))).1 43 3) ||| ((1 : Int32) <<< (x1 &&& 31))), .ref 43]) (S1 := zS c (zsi s 43 4 ((s.1 43 4) + (1 : Int32)))) rfl ?_
      refine zq_put (s' := (zsi (zsi s 43 4 ((s.1 43 4) + (1 : Int32))) 43 3 (((zsi s 43 4 ((s.1 43 4) + (1 : Int32))).1 43 3) ||| ((1 : Int32) <<< (x1 &&& 31))))) rfl (zh_43 _) rfl rfl rfl rfl zsi_ne rfl ?_
      exact zr_wk [none, none, none] trivial (tX4_note_J53 h)
    · rw [if_neg g2] at h
      refine zr_many 2 (pc' := 28) (L' := [some (.ref 43), some (.int x1), some (.int x2)]) (st' := [.ref 43, .ref 43]) (S1 := zS c (zsi s 43 4 ((s.1 43 4) + (1 : Int32)))) rfl ?_
      refine zq_get rfl (zh_43 _) rfl rfl rfl ?_
      refine zr_many 4 (pc' := 35) (L' := [some (.ref 43), some (.int x1), some (.int x2)]) (st' := [.int (((zsi s 43 4 ((s.1 43 4) + (1 : Int32))).1 43 2) ||| ((1 : Int32) <<< (x1 &&& 31))), .ref 43]) (S1 := zS c (zsi s 43 4 ((s.1 43 4) + (1 : Int32)))) rfl ?_
      refine zq_put (s' := (zsi (zsi s 43 4 ((s.1 43 4) + (1 : Int32))) 43 2 (((zsi s 43 4 ((s.1 43 4) + (1 : Int32))).1 43 2) ||| ((1 : Int32) <<< (x1 &&& 31))))) rfl (zh_43 _) rfl rfl rfl rfl zsi_ne rfl ?_
      refine zr_many 1 (pc' := 53) (L' := [some (.ref 43), some (.int x1), some (.int x2)]) (st' := []) (S1 := zS c (zsi (zsi s 43 4 ((s.1 43 4) + (1 : Int32))) 43 2 (((zsi s 43 4 ((s.1 43 4) + (1 : Int32))).1 43 2) ||| ((1 : Int32) <<< (x1 &&& 31))))) rfl ?_
      exact zr_wk [none, none, none] trivial (tX4_note_J53 h)
  · rw [if_neg g1] at h
    refine zr_many 1 (pc' := 10) (L' := [some (.ref 43), some (.int x1), some (.int x2)]) (st' := [.int (0 : Int32)]) (S1 := zS c s) rfl ?_
    cases h
    exact zq_zret rfl (by decide)
def fX4_hasInRange_J31 (n : Nat) (s : zs) (y0 : Int32) : Option Int32 := if y0 = 0 ∨ y0 = 1 then some y0 else none
theorem tX4_hasInRange_J31 {n : Nat} {c : Nat × Nat} {s : zs} {y0 : Int32} {r : Int32} (h : fX4_hasInRange_J31 n s y0 = some r) : zr kX4_hasInRange 2 0 31 [none, none, none] [.int y0] (zS c s) (some (.int r)) (zS c s) := by
  unfold fX4_hasInRange_J31 at h
  obtain ⟨gz, h⟩ := zt_inv h
  cases h
  exact zq_zret rfl gz
def fX4_hasInRange_J30 (n : Nat) (s : zs) : Option Int32 := fX4_hasInRange_J31 n s (0 : Int32)
theorem tX4_hasInRange_J30 {n : Nat} {c : Nat × Nat} {s : zs} {r : Int32} (h : fX4_hasInRange_J30 n s = some r) : zr kX4_hasInRange 2 0 30 [none, none, none] [] (zS c s) (some (.int r)) (zS c s) := by
  unfold fX4_hasInRange_J30 at h
  refine zr_many 1 (pc' := 31) (L' := [none, none, none]) (st' := [.int (0 : Int32)]) (S1 := zS c s) rfl ?_
  exact zr_wk [none, none, none] trivial (tX4_hasInRange_J31 h)
def fX4_hasInRange (n : Nat) (s : zs) (x1 : Int32) (x2 : Int32) : Option Int32 := cond (zi_in x1 8) (if x2 < (s.1 13 x1.toNatClampNeg) then fX4_hasInRange_J30 n s else cond (zi_in x1 8) (if (s.1 14 x1.toNatClampNeg) < x2 then fX4_hasInRange_J30 n s else fX4_hasInRange_J31 n s (1 : Int32)) none) none
theorem tX4_hasInRange {n : Nat} {c : Nat × Nat} {s : zs} {x1 : Int32} {x2 : Int32} {r : Int32} (h : fX4_hasInRange n s x1 x2 = some r) : zc 1 804 [.ref 43, .int x1, .int x2] (zS c s) (some (.int r)) (zS c s) := by
  refine zc_of (k := kX4_hasInRange) (rt := 2) (L := [some (.ref 43), some (.int x1), some (.int x2)]) zm_804.1 rfl rfl (by decide) rfl rfl ?_
  unfold fX4_hasInRange at h
  refine zr_many 1 (pc' := 1) (L' := [some (.ref 43), some (.int x1), some (.int x2)]) (st' := [.ref 43]) (S1 := zS c s) rfl ?_
  refine zq_get rfl (zh_43 _) rfl rfl rfl ?_
  refine zq_get rfl (zh_5 _) rfl rfl rfl ?_
  refine zr_many 1 (pc' := 8) (L' := [some (.ref 43), some (.int x1), some (.int x2)]) (st' := [.int x1, .ref 13]) (S1 := zS c s) rfl ?_
  obtain ⟨g1, h⟩ := zi_cond_inv h
  refine zq_ild rfl (zh_13 _) rfl g1 rfl ?_
  refine zr_many 1 (pc' := 10) (L' := [some (.ref 43), some (.int x1), some (.int x2)]) (st' := [.int x2, .int (s.1 13 x1.toNatClampNeg)]) (S1 := zS c s) rfl ?_
  refine zq_if2 (b := x2 < (s.1 13 x1.toNatClampNeg)) rfl Iff.rfl rfl (fun g2 => ?_) (fun g2 => ?_)
  · rw [if_pos g2] at h
    exact zr_wk [none, none, none] trivial (tX4_hasInRange_J30 h)
  · rw [if_neg g2] at h
    refine zr_many 2 (pc' := 15) (L' := [some (.ref 43), some (.int x1), some (.int x2)]) (st' := [.ref 43, .int x2]) (S1 := zS c s) rfl ?_
    refine zq_get rfl (zh_43 _) rfl rfl rfl ?_
    refine zq_get rfl (zh_5 _) rfl rfl rfl ?_
    refine zr_many 1 (pc' := 22) (L' := [some (.ref 43), some (.int x1), some (.int x2)]) (st' := [.int x1, .ref 14, .int x2]) (S1 := zS c s) rfl ?_
    obtain ⟨g3, h⟩ := zi_cond_inv h
    refine zq_ild rfl (zh_14 _) rfl g3 rfl ?_
    refine zq_if2 (b := (s.1 14 x1.toNatClampNeg) < x2) rfl Iff.rfl rfl (fun g4 => ?_) (fun g4 => ?_)
    · rw [if_pos g4] at h
      exact zr_wk [none, none, none] trivial (tX4_hasInRange_J30 h)
    · rw [if_neg g4] at h
      refine zr_many 2 (pc' := 31) (L' := [some (.ref 43), some (.int x1), some (.int x2)]) (st' := [.int (1 : Int32)]) (S1 := zS c s) rfl ?_
      exact zr_wk [none, none, none] trivial (tX4_hasInRange_J31 h)
def fX4_fitting_J81 (n : Nat) (s : zs) (x2 : Int32) (y0 : Int32) (y1 : Int32) : Option ((Int32 × Int32) ⊕ (Int32)) := some (Sum.inl ((y0 ||| y1), (x2 + (1 : Int32))))
theorem tX4_fitting_J81 {n : Nat} {c : Nat × Nat} {s : zs} {x2 : Int32} {y0 : Int32} {y1 : Int32} {o : _} {v : Option Value} {S' : zi_S} (h : fX4_fitting_J81 n s x2 y0 y1 = some o) (hn : ∀ w, o = Sum.inl w → zr kX4_fitting 1 0 4 [some (.ref 43), some (.int w.1), some (.int w.2), none, none] [] (zS c s) v S') (hx : ∀ w, o = Sum.inr w → (fun w => zr kX4_fitting 1 0 89 [none, some (.int w), none, none, none] [] (zS c s) v S') w) : zr kX4_fitting 1 0 81 [some (.ref 43), none, some (.int x2), none, none] [.int y1, .int y0] (zS c s) v S' := by
  unfold fX4_fitting_J81 at h
  refine zr_many 4 (pc' := 4) (L' := [some (.ref 43), some (.int (y0 ||| y1)), some (.int (x2 + (1 : Int32))), none, none]) (st' := []) (S1 := zS c s) rfl ?_
  cases h
  exact zr_wk [some (.ref 43), some (.int (y0 ||| y1)), some (.int (x2 + (1 : Int32))), none, none] ⟨rfl, rfl, rfl, trivial⟩ (hn _ rfl)
def fX4_fitting_J66 (n : Nat) (s : zs) (x1 : Int32) (x2 : Int32) (y0 : Int32) : Option ((Int32 × Int32) ⊕ (Int32)) := if y0 = 0 then fX4_fitting_J81 n s x2 x1 (0 : Int32) else fX4_fitting_J81 n s x2 x1 ((1 : Int32) <<< (x2 &&& 31))
theorem tX4_fitting_J66 {n : Nat} {c : Nat × Nat} {s : zs} {x1 : Int32} {x2 : Int32} {y0 : Int32} {o : _} {v : Option Value} {S' : zi_S} (h : fX4_fitting_J66 n s x1 x2 y0 = some o) (hn : ∀ w, o = Sum.inl w → zr kX4_fitting 1 0 4 [some (.ref 43), some (.int w.1), some (.int w.2), none, none] [] (zS c s) v S') (hx : ∀ w, o = Sum.inr w → (fun w => zr kX4_fitting 1 0 89 [none, some (.int w), none, none, none] [] (zS c s) v S') w) : zr kX4_fitting 1 0 66 [some (.ref 43), some (.int x1), some (.int x2), none, none] [.int y0] (zS c s) v S' := by
  unfold fX4_fitting_J66 at h
  refine zr_many 3 (pc' := 71) (L' := [some (.ref 43), some (.int x1), some (.int x2), none, some (.int y0)]) (st' := [.int y0, .int x1]) (S1 := zS c s) rfl ?_
  refine zq_if1 (b := y0 = 0) rfl Iff.rfl rfl (fun g5 => ?_) (fun g5 => ?_)
  · rw [if_pos g5] at h
    refine zr_many 1 (pc' := 81) (L' := [some (.ref 43), some (.int x1), some (.int x2), none, some (.int y0)]) (st' := [.int (0 : Int32), .int x1]) (S1 := zS c s) rfl ?_
    exact zr_wk [some (.ref 43), none, some (.int x2), none, none] ⟨rfl, rfl, trivial⟩ (tX4_fitting_J81 h hn hx)
  · rw [if_neg g5] at h
    refine zr_many 4 (pc' := 81) (L' := [some (.ref 43), some (.int x1), some (.int x2), none, some (.int y0)]) (st' := [.int ((1 : Int32) <<< (x2 &&& 31)), .int x1]) (S1 := zS c s) rfl ?_
    exact zr_wk [some (.ref 43), none, some (.int x2), none, none] ⟨rfl, rfl, trivial⟩ (tX4_fitting_J81 h hn hx)
def fX4_fitting_J65 (n : Nat) (s : zs) (x1 : Int32) (x2 : Int32) : Option ((Int32 × Int32) ⊕ (Int32)) := fX4_fitting_J66 n s x1 x2 (0 : Int32)
theorem tX4_fitting_J65 {n : Nat} {c : Nat × Nat} {s : zs} {x1 : Int32} {x2 : Int32} {o : _} {v : Option Value} {S' : zi_S} (h : fX4_fitting_J65 n s x1 x2 = some o) (hn : ∀ w, o = Sum.inl w → zr kX4_fitting 1 0 4 [some (.ref 43), some (.int w.1), some (.int w.2), none, none] [] (zS c s) v S') (hx : ∀ w, o = Sum.inr w → (fun w => zr kX4_fitting 1 0 89 [none, some (.int w), none, none, none] [] (zS c s) v S') w) : zr kX4_fitting 1 0 65 [some (.ref 43), some (.int x1), some (.int x2), none, none] [] (zS c s) v S' := by
  unfold fX4_fitting_J65 at h
  refine zr_many 1 (pc' := 66) (L' := [some (.ref 43), some (.int x1), some (.int x2), none, none]) (st' := [.int (0 : Int32)]) (S1 := zS c s) rfl ?_
  exact zr_wk [some (.ref 43), some (.int x1), some (.int x2), none, none] ⟨rfl, rfl, rfl, trivial⟩ (tX4_fitting_J66 h hn hx)
def fX4_fitting_B4 (n : Nat) (s : zs) (w : Int32 × Int32) : Option ((Int32 × Int32) ⊕ (Int32)) := if (s.1 5 8) ≤ w.2 then some (Sum.inr w.1) else cond (zi_in w.2 8) (cond (zi_in w.2 8) (if ¬ ((s.1 43 2) &&& ((((1 : Int32) <<< (((s.1 14 w.2.toNatClampNeg) + (1 : Int32)) &&& 31)) - ((1 : Int32) <<< ((s.1 13 w.2.toNatClampNeg) &&& 31))) ^^^ (-1 : Int32))) = 0 then fX4_fitting_J65 n s w.1 w.2 else if ¬ ((s.1 43 3) &&& (((1 : Int32) <<< (((s.1 14 w.2.toNatClampNeg) + (1 : Int32)) &&& 31)) - ((1 : Int32) <<< ((s.1 13 w.2.toNatClampNeg) &&& 31)))) = 0 then fX4_fitting_J65 n s w.1 w.2 else fX4_fitting_J66 n s w.1 w.2 (1 : Int32)) none) none
theorem tX4_fitting_B4 {n : Nat} {c : Nat × Nat} {s : zs} {w : Int32 × Int32} {o : _} {v : Option Value} {S' : zi_S} (h : fX4_fitting_B4 n s w = some o) (hn : ∀ w, o = Sum.inl w → zr kX4_fitting 1 0 4 [some (.ref 43), some (.int w.1), some (.int w.2), none, none] [] (zS c s) v S') (hx : ∀ w, o = Sum.inr w → (fun w => zr kX4_fitting 1 0 89 [none, some (.int w), none, none, none] [] (zS c s) v S') w) : zr kX4_fitting 1 0 4 [some (.ref 43), some (.int w.1), some (.int w.2), none, none] [] (zS c s) v S' := by
  unfold fX4_fitting_B4 at h
  refine zr_many 2 (pc' := 6) (L' := [some (.ref 43), some (.int w.1), some (.int w.2), none, none]) (st' := [.ref 43, .int w.2]) (S1 := zS c s) rfl ?_
  refine zq_get rfl (zh_43 _) rfl rfl rfl ?_
  refine zq_get rfl (zh_5 _) rfl rfl rfl ?_
  refine zq_if2 (b := (s.1 5 8) ≤ w.2) rfl Iff.rfl rfl (fun g1 => ?_) (fun g1 => ?_)
  · rw [if_pos g1] at h
    cases h
    exact zr_wk [none, some (.int w.1), none, none, none] ⟨rfl, trivial⟩ (hx _ rfl)
  · rw [if_neg g1] at h
    refine zr_many 2 (pc' := 17) (L' := [some (.ref 43), some (.int w.1), some (.int w.2), none, none]) (st' := [.ref 43, .int (1 : Int32)]) (S1 := zS c s) rfl ?_
    refine zq_get rfl (zh_43 _) rfl rfl rfl ?_
    refine zq_get rfl (zh_5 _) rfl rfl rfl ?_
    refine zr_many 1 (pc' := 24) (L' := [some (.ref 43), some (.int w.1), some (.int w.2), none, none]) (st' := [.int w.2, .ref 14, .int (1 : Int32)]) (S1 := zS c s) rfl ?_
    obtain ⟨g2, h⟩ := zi_cond_inv h
    refine zq_ild rfl (zh_14 _) rfl g2 rfl ?_
    refine zr_many 5 (pc' := 30) (L' := [some (.ref 43), some (.int w.1), some (.int w.2), none, none]) (st' := [.ref 43, .int (1 : Int32), .int ((1 : Int32) <<< (((s.1 14 w.2.toNatClampNeg) + (1 : Int32)) &&& 31))]) (S1 := zS c s) rfl ?_
    refine zq_get rfl (zh_43 _) rfl rfl rfl ?_
    refine zq_get rfl (zh_5 _) rfl rfl rfl ?_
    refine zr_many 1 (pc' := 37) (L' := [some (.ref 43), some (.int w.1), some (.int w.2), none, none]) (st' := [.int w.2, .ref 13, .int (1 : Int32), .int ((1 : Int32) <<< (((s.1 14 w.2.toNatClampNeg) + (1 : Int32)) &&& 31))]) (S1 := zS c s) rfl ?_
    obtain ⟨g3, h⟩ := zi_cond_inv h
    refine zq_ild rfl (zh_13 _) rfl g3 rfl ?_
    refine zr_many 4 (pc' := 42) (L' := [some (.ref 43), some (.int w.1), some (.int w.2), some (.int (((1 : Int32) <<< (((s.1 14 w.2.toNatClampNeg) + (1 : Int32)) &&& 31)) - ((1 : Int32) <<< ((s.1 13 w.2.toNatClampNeg) &&& 31)))), none]) (st' := [.ref 43]) (S1 := zS c s) rfl ?_
    refine zq_get rfl (zh_43 _) rfl rfl rfl ?_
    refine zr_many 4 (pc' := 49) (L' := [some (.ref 43), some (.int w.1), some (.int w.2), some (.int (((1 : Int32) <<< (((s.1 14 w.2.toNatClampNeg) + (1 : Int32)) &&& 31)) - ((1 : Int32) <<< ((s.1 13 w.2.toNatClampNeg) &&& 31)))), none]) (st' := [.int ((s.1 43 2) &&& ((((1 : Int32) <<< (((s.1 14 w.2.toNatClampNeg) + (1 : Int32)) &&& 31)) - ((1 : Int32) <<< ((s.1 13 w.2.toNatClampNeg) &&& 31))) ^^^ (-1 : Int32)))]) (S1 := zS c s) rfl ?_
    refine zq_if1 (b := ¬ ((s.1 43 2) &&& ((((1 : Int32) <<< (((s.1 14 w.2.toNatClampNeg) + (1 : Int32)) &&& 31)) - ((1 : Int32) <<< ((s.1 13 w.2.toNatClampNeg) &&& 31))) ^^^ (-1 : Int32))) = 0) rfl Iff.rfl rfl (fun g4 => ?_) (fun g4 => ?_)
    · rw [if_pos g4] at h
      exact zr_wk [some (.ref 43), some (.int w.1), some (.int w.2), none, none] ⟨rfl, rfl, rfl, trivial⟩ (tX4_fitting_J65 h hn hx)
    · rw [if_neg g4] at h
      refine zr_many 1 (pc' := 53) (L' := [some (.ref 43), some (.int w.1), some (.int w.2), some (.int (((1 : Int32) <<< (((s.1 14 w.2.toNatClampNeg) + (1 : Int32)) &&& 31)) - ((1 : Int32) <<< ((s.1 13 w.2.toNatClampNeg) &&& 31)))), none]) (st' := [.ref 43]) (S1 := zS c s) rfl ?_
      refine zq_get rfl (zh_43 _) rfl rfl rfl ?_
      refine zr_many 2 (pc' := 58) (L' := [some (.ref 43), some (.int w.1), some (.int w.2), some (.int (((1 : Int32) <<< (((s.1 14 w.2.toNatClampNeg) + (1 : Int32)) &&& 31)) - ((1 : Int32) <<< ((s.1 13 w.2.toNatClampNeg) &&& 31)))), none]) (st' := [.int ((s.1 43 3) &&& (((1 : Int32) <<< (((s.1 14 w.2.toNatClampNeg) + (1 : Int32)) &&& 31)) - ((1 : Int32) <<< ((s.1 13 w.2.toNatClampNeg) &&& 31))))]) (S1 := zS c s) rfl ?_
      refine zq_if1 (b := ¬ ((s.1 43 3) &&& (((1 : Int32) <<< (((s.1 14 w.2.toNatClampNeg) + (1 : Int32)) &&& 31)) - ((1 : Int32) <<< ((s.1 13 w.2.toNatClampNeg) &&& 31)))) = 0) rfl Iff.rfl rfl (fun g6 => ?_) (fun g6 => ?_)
      · rw [if_pos g6] at h
        exact zr_wk [some (.ref 43), some (.int w.1), some (.int w.2), none, none] ⟨rfl, rfl, rfl, trivial⟩ (tX4_fitting_J65 h hn hx)
      · rw [if_neg g6] at h
        refine zr_many 2 (pc' := 66) (L' := [some (.ref 43), some (.int w.1), some (.int w.2), some (.int (((1 : Int32) <<< (((s.1 14 w.2.toNatClampNeg) + (1 : Int32)) &&& 31)) - ((1 : Int32) <<< ((s.1 13 w.2.toNatClampNeg) &&& 31)))), none]) (st' := [.int (1 : Int32)]) (S1 := zS c s) rfl ?_
        exact zr_wk [some (.ref 43), some (.int w.1), some (.int w.2), none, none] ⟨rfl, rfl, rfl, trivial⟩ (tX4_fitting_J66 h hn hx)
def fX4_fitting (n : Nat) (s : zs) : Option Int32 := zp (zl (fX4_fitting_B4 n s) n ((0 : Int32), (0 : Int32))) (fun w7 => some w7)
theorem tX4_fitting {n : Nat} {c : Nat × Nat} {s : zs} {r : Int32} (h : fX4_fitting n s = some r) : zc 1 805 [.ref 43] (zS c s) (some (.int r)) (zS c s) := by
  refine zc_of (k := kX4_fitting) (rt := 1) (L := [some (.ref 43), none, none, none, none]) zm_805.1 rfl rfl (by decide) rfl rfl ?_
  unfold fX4_fitting at h
  refine zr_many 4 (pc' := 4) (L' := [some (.ref 43), some (.int (0 : Int32)), some (.int (0 : Int32)), none, none]) (st' := []) (S1 := zS c s) rfl ?_
  obtain ⟨w7, g8, h⟩ := zp_inv h
  refine zr_wk [some (.ref 43), some (.int (0 : Int32)), some (.int (0 : Int32)), none, none] ⟨rfl, rfl, rfl, trivial⟩ (zl_cert (Z := fun w => zr kX4_fitting 1 0 4 [some (.ref 43), some (.int w.1), some (.int w.2), none, none] [] (zS c s) _ _) (Y := (fun w => zr kX4_fitting 1 0 89 [none, some (.int w), none, none, none] [] (zS c s) _ _)) (fun w o h1 h2 h3 => tX4_fitting_B4 h1 h2 h3) n _ _ g8 ?_)
  show zr kX4_fitting 1 0 89 [none, some (.int w7), none, none, none] [] (zS c s) _ _
  refine zr_many 1 (pc' := 90) (L' := [none, some (.int w7), none, none, none]) (st' := [.int w7]) (S1 := zS c s) rfl ?_
  cases h
  exact zq_iret rfl
def fX4_leftAtMost_J53 (n : Nat) (s : zs) (x1 : Int32) (x2 : Int32) (x3 : Int32) (x4 : Int32) (x5 : Int32) : Option ((Int32 × Int32 × Int32) ⊕ (Int32 × Int32)) := some (Sum.inl (x3, x4, (x5 + (1 : Int32))))
theorem tX4_leftAtMost_J53 {n : Nat} {c : Nat × Nat} {s : zs} {x1 : Int32} {x2 : Int32} {x3 : Int32} {x4 : Int32} {x5 : Int32} {o : _} {v : Option Value} {S' : zi_S} (h : fX4_leftAtMost_J53 n s x1 x2 x3 x4 x5 = some o) (hn : ∀ w, o = Sum.inl w → zr kX4_leftAtMost 1 1 8 [some (.ref 43), some (.int x1), some (.int x2), some (.int w.1), some (.int w.2.1), some (.int w.2.2), none] [] (zS c s) v S') (hx : ∀ w, o = Sum.inr w → (fun w => zr kX4_leftAtMost 1 1 59 [none, none, none, some (.int w.1), some (.int w.2), none, none] [] (zS c s) v S') w) : zr kX4_leftAtMost 1 1 53 [some (.ref 43), some (.int x1), some (.int x2), some (.int x3), some (.int x4), some (.int x5), none] [] (zS c s) v S' := by
  unfold fX4_leftAtMost_J53 at h
  refine zr_many 2 (pc' := 8) (L' := [some (.ref 43), some (.int x1), some (.int x2), some (.int x3), some (.int x4), some (.int (x5 + (1 : Int32))), none]) (st' := []) (S1 := zS c s) rfl ?_
  cases h
  exact zr_wk [some (.ref 43), some (.int x1), some (.int x2), some (.int x3), some (.int x4), some (.int (x5 + (1 : Int32))), none] ⟨rfl, rfl, rfl, rfl, rfl, rfl, trivial⟩ (hn _ rfl)
def fX4_leftAtMost_B8 (n : Nat) (s : zs) (x1 : Int32) (x2 : Int32) (w : Int32 × Int32 × Int32) : Option ((Int32 × Int32 × Int32) ⊕ (Int32 × Int32)) := if (s.1 5 8) ≤ w.2.2 then some (Sum.inr (w.1, w.2.1)) else zp (fX4_hasInRange n s w.2.2 x2) (fun r2 => if r2 = 0 then fX4_leftAtMost_J53 n s x1 x2 w.1 (w.2.1 + ((x1 >>> (w.2.2 &&& 31)) &&& (1 : Int32))) w.2.2 else fX4_leftAtMost_J53 n s x1 x2 (w.1 + ((x1 >>> (w.2.2 &&& 31)) &&& (1 : Int32))) w.2.1 w.2.2)
theorem tX4_leftAtMost_B8 {n : Nat} {c : Nat × Nat} {s : zs} {x1 : Int32} {x2 : Int32} {w : Int32 × Int32 × Int32} {o : _} {v : Option Value} {S' : zi_S} (h : fX4_leftAtMost_B8 n s x1 x2 w = some o) (hn : ∀ w, o = Sum.inl w → zr kX4_leftAtMost 1 1 8 [some (.ref 43), some (.int x1), some (.int x2), some (.int w.1), some (.int w.2.1), some (.int w.2.2), none] [] (zS c s) v S') (hx : ∀ w, o = Sum.inr w → (fun w => zr kX4_leftAtMost 1 1 59 [none, none, none, some (.int w.1), some (.int w.2), none, none] [] (zS c s) v S') w) : zr kX4_leftAtMost 1 1 8 [some (.ref 43), some (.int x1), some (.int x2), some (.int w.1), some (.int w.2.1), some (.int w.2.2), none] [] (zS c s) v S' := by
  unfold fX4_leftAtMost_B8 at h
  refine zr_many 2 (pc' := 11) (L' := [some (.ref 43), some (.int x1), some (.int x2), some (.int w.1), some (.int w.2.1), some (.int w.2.2), none]) (st' := [.ref 43, .int w.2.2]) (S1 := zS c s) rfl ?_
  refine zq_get rfl (zh_43 _) rfl rfl rfl ?_
  refine zq_get rfl (zh_5 _) rfl rfl rfl ?_
  refine zq_if2 (b := (s.1 5 8) ≤ w.2.2) rfl Iff.rfl rfl (fun g1 => ?_) (fun g1 => ?_)
  · rw [if_pos g1] at h
    cases h
    exact zr_wk [none, none, none, some (.int w.1), some (.int w.2.1), none, none] ⟨rfl, rfl, trivial⟩ (hx _ rfl)
  · rw [if_neg g1] at h
    refine zr_many 9 (pc' := 32) (L' := [some (.ref 43), some (.int x1), some (.int x2), some (.int w.1), some (.int w.2.1), some (.int w.2.2), some (.int ((x1 >>> (w.2.2 &&& 31)) &&& (1 : Int32)))]) (st' := [.int x2, .int w.2.2, .ref 43]) (S1 := zS c s) rfl ?_
    obtain ⟨r2, g4, h⟩ := zp_inv h
    refine zq_call1 rfl rfl (zh_43 _) rfl rfl rfl (tX4_hasInRange g4) rfl ?_
    refine zq_if1 (b := r2 = 0) rfl Iff.rfl rfl (fun g5 => ?_) (fun g5 => ?_)
    · rw [if_pos g5] at h
      refine zr_many 4 (pc' := 53) (L' := [some (.ref 43), some (.int x1), some (.int x2), some (.int w.1), some (.int (w.2.1 + ((x1 >>> (w.2.2 &&& 31)) &&& (1 : Int32)))), some (.int w.2.2), some (.int ((x1 >>> (w.2.2 &&& 31)) &&& (1 : Int32)))]) (st' := []) (S1 := zS c s) rfl ?_
      exact zr_wk [some (.ref 43), some (.int x1), some (.int x2), some (.int w.1), some (.int (w.2.1 + ((x1 >>> (w.2.2 &&& 31)) &&& (1 : Int32)))), some (.int w.2.2), none] ⟨rfl, rfl, rfl, rfl, rfl, rfl, trivial⟩ (tX4_leftAtMost_J53 h hn hx)
    · rw [if_neg g5] at h
      refine zr_many 5 (pc' := 53) (L' := [some (.ref 43), some (.int x1), some (.int x2), some (.int (w.1 + ((x1 >>> (w.2.2 &&& 31)) &&& (1 : Int32)))), some (.int w.2.1), some (.int w.2.2), some (.int ((x1 >>> (w.2.2 &&& 31)) &&& (1 : Int32)))]) (st' := []) (S1 := zS c s) rfl ?_
      exact zr_wk [some (.ref 43), some (.int x1), some (.int x2), some (.int (w.1 + ((x1 >>> (w.2.2 &&& 31)) &&& (1 : Int32)))), some (.int w.2.1), some (.int w.2.2), none] ⟨rfl, rfl, rfl, rfl, rfl, rfl, trivial⟩ (tX4_leftAtMost_J53 h hn hx)
def fX4_leftAtMost (n : Nat) (s : zs) (x1 : Int32) (x2 : Int32) : Option Int32 := zp (zl (fX4_leftAtMost_B8 n s x1 x2) n ((0 : Int32), (0 : Int32), (0 : Int32))) (fun w6 => some (if w6.1 < w6.2 then w6.2 else w6.1))
theorem tX4_leftAtMost {n : Nat} {c : Nat × Nat} {s : zs} {x1 : Int32} {x2 : Int32} {r : Int32} (h : fX4_leftAtMost n s x1 x2 = some r) : zc 2 806 [.ref 43, .int x1, .int x2] (zS c s) (some (.int r)) (zS c s) := by
  refine zc_of (k := kX4_leftAtMost) (rt := 1) (L := [some (.ref 43), some (.int x1), some (.int x2), none, none, none, none]) zm_806.1 rfl rfl (by decide) rfl rfl ?_
  unfold fX4_leftAtMost at h
  refine zr_many 6 (pc' := 8) (L' := [some (.ref 43), some (.int x1), some (.int x2), some (.int (0 : Int32)), some (.int (0 : Int32)), some (.int (0 : Int32)), none]) (st' := []) (S1 := zS c s) rfl ?_
  obtain ⟨w6, g7, h⟩ := zp_inv h
  refine zr_wk [some (.ref 43), some (.int x1), some (.int x2), some (.int (0 : Int32)), some (.int (0 : Int32)), some (.int (0 : Int32)), none] ⟨rfl, rfl, rfl, rfl, rfl, rfl, trivial⟩ (zl_cert (Z := fun w => zr kX4_leftAtMost 1 1 8 [some (.ref 43), some (.int x1), some (.int x2), some (.int w.1), some (.int w.2.1), some (.int w.2.2), none] [] (zS c s) _ _) (Y := (fun w => zr kX4_leftAtMost 1 1 59 [none, none, none, some (.int w.1), some (.int w.2), none, none] [] (zS c s) _ _)) (fun w o h1 h2 h3 => tX4_leftAtMost_B8 h1 h2 h3) n _ _ g7 ?_)
  show zr kX4_leftAtMost 1 1 59 [none, none, none, some (.int w6.1), some (.int w6.2), none, none] [] (zS c s) _ _
  refine zr_many 3 (pc' := 65) (L' := [none, none, none, some (.int w6.1), some (.int w6.2), none, none]) (st' := [.int (if w6.1 < w6.2 then w6.2 else w6.1)]) (S1 := zS c s) rfl ?_
  cases h
  exact zq_iret rfl
def fX4_markPair_J38 (n : Nat) (s : zs) (x1 : Int32) (x2 : Int32) (x3 : Int32) (x4 : Int32) : Option ((Int32 × zs) ⊕ (zs)) := some (Sum.inl ((x4 + (1 : Int32)), s))
theorem tX4_markPair_J38 {n : Nat} {c : Nat × Nat} {s : zs} {x1 : Int32} {x2 : Int32} {x3 : Int32} {x4 : Int32} {o : _} {v : Option Value} {S' : zi_S} (h : fX4_markPair_J38 n s x1 x2 x3 x4 = some o) (hn : ∀ w, o = Sum.inl w → zr kX4_markPair 0 1 3 [some (.ref 43), some (.int x1), some (.int x2), some (.int x3), some (.int w.1)] [] (zS c w.2) v S') (hx : ∀ w, o = Sum.inr w → (fun w => zr kX4_markPair 0 1 44 [none, none, none, none, none] [] (zS c w) v S') w) : zr kX4_markPair 0 1 38 [some (.ref 43), some (.int x1), some (.int x2), some (.int x3), some (.int x4)] [] (zS c s) v S' := by
  unfold fX4_markPair_J38 at h
  refine zr_many 2 (pc' := 3) (L' := [some (.ref 43), some (.int x1), some (.int x2), some (.int x3), some (.int (x4 + (1 : Int32)))]) (st' := []) (S1 := zS c s) rfl ?_
  cases h
  exact zr_wk [some (.ref 43), some (.int x1), some (.int x2), some (.int x3), some (.int (x4 + (1 : Int32)))] ⟨rfl, rfl, rfl, rfl, rfl, trivial⟩ (hn _ rfl)
def fX4_markPair_B3 (n : Nat) (x1 : Int32) (x2 : Int32) (x3 : Int32) (w : Int32 × zs) : Option ((Int32 × zs) ⊕ (zs)) := if (26 : Int32) ≤ w.1 then some (Sum.inr w.2) else zp (fX4_hasInRange n w.2 x1 w.1) (fun r2 => zp (fX4_hasInRange n w.2 x2 w.1) (fun r5 => if r2 = r5 then fX4_markPair_J38 n w.2 x1 x2 x3 w.1 else cond (zi_in w.1 26) (cond (zi_in w.1 26) (fX4_markPair_J38 n (zsi w.2 44 w.1.toNatClampNeg ((w.2.1 44 w.1.toNatClampNeg) ||| x3)) x1 x2 x3 w.1) none) none))
theorem tX4_markPair_B3 {n : Nat} {c : Nat × Nat} {x1 : Int32} {x2 : Int32} {x3 : Int32} {w : Int32 × zs} {o : _} {v : Option Value} {S' : zi_S} (h : fX4_markPair_B3 n x1 x2 x3 w = some o) (hn : ∀ w, o = Sum.inl w → zr kX4_markPair 0 1 3 [some (.ref 43), some (.int x1), some (.int x2), some (.int x3), some (.int w.1)] [] (zS c w.2) v S') (hx : ∀ w, o = Sum.inr w → (fun w => zr kX4_markPair 0 1 44 [none, none, none, none, none] [] (zS c w) v S') w) : zr kX4_markPair 0 1 3 [some (.ref 43), some (.int x1), some (.int x2), some (.int x3), some (.int w.1)] [] (zS c w.2) v S' := by
  unfold fX4_markPair_B3 at h
  refine zr_many 2 (pc' := 7) (L' := [some (.ref 43), some (.int x1), some (.int x2), some (.int x3), some (.int w.1)]) (st' := [.int (26 : Int32), .int w.1]) (S1 := zS c w.2) rfl ?_
  refine zq_if2 (b := (26 : Int32) ≤ w.1) rfl Iff.rfl rfl (fun g1 => ?_) (fun g1 => ?_)
  · rw [if_pos g1] at h
    cases h
    exact zr_wk [none, none, none, none, none] trivial (hx _ rfl)
  · rw [if_neg g1] at h
    refine zr_many 3 (pc' := 14) (L' := [some (.ref 43), some (.int x1), some (.int x2), some (.int x3), some (.int w.1)]) (st' := [.int w.1, .int x1, .ref 43]) (S1 := zS c w.2) rfl ?_
    obtain ⟨r2, g4, h⟩ := zp_inv h
    refine zq_call1 rfl rfl (zh_43 _) rfl rfl rfl (tX4_hasInRange g4) rfl ?_
    refine zr_many 3 (pc' := 21) (L' := [some (.ref 43), some (.int x1), some (.int x2), some (.int x3), some (.int w.1)]) (st' := [.int w.1, .int x2, .ref 43, .int r2]) (S1 := zS c w.2) rfl ?_
    obtain ⟨r5, g7, h⟩ := zp_inv h
    refine zq_call1 rfl rfl (zh_43 _) rfl rfl rfl (tX4_hasInRange g7) rfl ?_
    refine zq_if2 (b := r2 = r5) rfl Iff.rfl rfl (fun g8 => ?_) (fun g8 => ?_)
    · rw [if_pos g8] at h
      exact zr_wk [some (.ref 43), some (.int x1), some (.int x2), some (.int x3), some (.int w.1)] ⟨rfl, rfl, rfl, rfl, rfl, trivial⟩ (tX4_markPair_J38 h hn hx)
    · rw [if_neg g8] at h
      refine zr_many 1 (pc' := 28) (L' := [some (.ref 43), some (.int x1), some (.int x2), some (.int x3), some (.int w.1)]) (st' := [.ref 43]) (S1 := zS c w.2) rfl ?_
      refine zq_get rfl (zh_43 _) rfl rfl rfl ?_
      refine zr_many 2 (pc' := 34) (L' := [some (.ref 43), some (.int x1), some (.int x2), some (.int x3), some (.int w.1)]) (st' := [.int w.1, .ref 44, .int w.1, .ref 44]) (S1 := zS c w.2) rfl ?_
      obtain ⟨g9, h⟩ := zi_cond_inv h
      refine zq_ild rfl (zh_44 _) rfl g9 rfl ?_
      refine zr_many 2 (pc' := 37) (L' := [some (.ref 43), some (.int x1), some (.int x2), some (.int x3), some (.int w.1)]) (st' := [.int ((w.2.1 44 w.1.toNatClampNeg) ||| x3), .int w.1, .ref 44]) (S1 := zS c w.2) rfl ?_
      obtain ⟨g10, h⟩ := zi_cond_inv h
      refine zq_ist rfl zh_44 rfl g10 rfl ?_
      exact zr_wk [some (.ref 43), some (.int x1), some (.int x2), some (.int x3), some (.int w.1)] ⟨rfl, rfl, rfl, rfl, rfl, trivial⟩ (tX4_markPair_J38 h hn hx)
def fX4_markPair (n : Nat) (s : zs) (x1 : Int32) (x2 : Int32) (x3 : Int32) : Option zs := zp (zl (fX4_markPair_B3 n x1 x2 x3) n ((0 : Int32), s)) (fun w11 => some w11)
theorem tX4_markPair {n : Nat} {c : Nat × Nat} {s : zs} {x1 : Int32} {x2 : Int32} {x3 : Int32} {s' : zs} (h : fX4_markPair n s x1 x2 x3 = some s') : zc 2 810 [.ref 43, .int x1, .int x2, .int x3] (zS c s) none (zS c s') := by
  refine zc_of (k := kX4_markPair) (rt := 0) (L := [some (.ref 43), some (.int x1), some (.int x2), some (.int x3), none]) zm_810.1 rfl rfl (by decide) rfl rfl ?_
  unfold fX4_markPair at h
  refine zr_many 2 (pc' := 3) (L' := [some (.ref 43), some (.int x1), some (.int x2), some (.int x3), some (.int (0 : Int32))]) (st' := []) (S1 := zS c s) rfl ?_
  obtain ⟨w11, g12, h⟩ := zp_inv h
  refine zr_wk [some (.ref 43), some (.int x1), some (.int x2), some (.int x3), some (.int (0 : Int32))] ⟨rfl, rfl, rfl, rfl, rfl, trivial⟩ (zl_cert (Z := fun w => zr kX4_markPair 0 1 3 [some (.ref 43), some (.int x1), some (.int x2), some (.int x3), some (.int w.1)] [] (zS c w.2) _ _) (Y := (fun w => zr kX4_markPair 0 1 44 [none, none, none, none, none] [] (zS c w) _ _)) (fun w o h1 h2 h3 => tX4_markPair_B3 h1 h2 h3) n _ _ g12 ?_)
  show zr kX4_markPair 0 1 44 [none, none, none, none, none] [] (zS c w11) _ _
  cases h
  exact zq_vret rfl
def fX4_findPairs_B7 (n : Nat) (x1 : Int32) (w : Int32 × zs) : Option ((Int32 × zs) ⊕ (zs)) := if (26 : Int32) ≤ w.1 then some (Sum.inr w.2) else cond (zi_in w.1 26) (some (Sum.inl ((w.1 + (1 : Int32)), (zsi w.2 44 w.1.toNatClampNeg (0 : Int32))))) none
theorem tX4_findPairs_B7 {n : Nat} {c : Nat × Nat} {x1 : Int32} {w : Int32 × zs} {o : _} {v : Option Value} {S' : zi_S} (h : fX4_findPairs_B7 n x1 w = some o) (hn : ∀ w, o = Sum.inl w → zr kX4_findPairs 0 2 7 [some (.ref 43), some (.int x1), some (.int w.1), none, none] [] (zS c w.2) v S') (hx : ∀ w, o = Sum.inr w → (fun w => zr kX4_findPairs 0 2 26 [some (.ref 43), some (.int x1), none, none, none] [] (zS c w) v S') w) : zr kX4_findPairs 0 2 7 [some (.ref 43), some (.int x1), some (.int w.1), none, none] [] (zS c w.2) v S' := by
  unfold fX4_findPairs_B7 at h
  refine zr_many 2 (pc' := 10) (L' := [some (.ref 43), some (.int x1), some (.int w.1), none, none]) (st' := [.int (26 : Int32), .int w.1]) (S1 := zS c w.2) rfl ?_
  refine zq_if2 (b := (26 : Int32) ≤ w.1) rfl Iff.rfl rfl (fun g1 => ?_) (fun g1 => ?_)
  · rw [if_pos g1] at h
    cases h
    exact zr_wk [some (.ref 43), some (.int x1), none, none, none] ⟨rfl, rfl, trivial⟩ (hx _ rfl)
  · rw [if_neg g1] at h
    refine zr_many 1 (pc' := 14) (L' := [some (.ref 43), some (.int x1), some (.int w.1), none, none]) (st' := [.ref 43]) (S1 := zS c w.2) rfl ?_
    refine zq_get rfl (zh_43 _) rfl rfl rfl ?_
    refine zr_many 2 (pc' := 19) (L' := [some (.ref 43), some (.int x1), some (.int w.1), none, none]) (st' := [.int (0 : Int32), .int w.1, .ref 44]) (S1 := zS c w.2) rfl ?_
    obtain ⟨g2, h⟩ := zi_cond_inv h
    refine zq_ist rfl zh_44 rfl g2 rfl ?_
    refine zr_many 2 (pc' := 7) (L' := [some (.ref 43), some (.int x1), some (.int (w.1 + (1 : Int32))), none, none]) (st' := []) (S1 := zS c (zsi w.2 44 w.1.toNatClampNeg (0 : Int32))) rfl ?_
    cases h
    exact zr_wk [some (.ref 43), some (.int x1), some (.int (w.1 + (1 : Int32))), none, none] ⟨rfl, rfl, rfl, trivial⟩ (hn _ rfl)
def fX4_findPairs_J94 (n : Nat) (s : zs) (x1 : Int32) (x2 : Int32) (x3 : Int32) (x4 : Int32) : Option ((Int32 × Int32 × zs) ⊕ (Int32 × zs)) := some (Sum.inl (x2, (x4 + (1 : Int32)), s))
theorem tX4_findPairs_J94 {n : Nat} {c : Nat × Nat} {s : zs} {x1 : Int32} {x2 : Int32} {x3 : Int32} {x4 : Int32} {o : _} {v : Option Value} {S' : zi_S} (h : fX4_findPairs_J94 n s x1 x2 x3 x4 = some o) (hn : ∀ w, o = Sum.inl w → zr kX4_findPairs 0 2 46 [some (.ref 43), some (.int x1), some (.int w.1), some (.int x3), some (.int w.2.1)] [] (zS c w.2.2) v S') (hx : ∀ w, o = Sum.inr w → (fun w => zr kX4_findPairs 0 2 100 [some (.ref 43), some (.int x1), some (.int w.1), some (.int x3), none] [] (zS c w.2) v S') w) : zr kX4_findPairs 0 2 94 [some (.ref 43), some (.int x1), some (.int x2), some (.int x3), some (.int x4)] [] (zS c s) v S' := by
  unfold fX4_findPairs_J94 at h
  refine zr_many 2 (pc' := 46) (L' := [some (.ref 43), some (.int x1), some (.int x2), some (.int x3), some (.int (x4 + (1 : Int32)))]) (st' := []) (S1 := zS c s) rfl ?_
  cases h
  exact zr_wk [some (.ref 43), some (.int x1), some (.int x2), some (.int x3), some (.int (x4 + (1 : Int32)))] ⟨rfl, rfl, rfl, rfl, rfl, trivial⟩ (hn _ rfl)
def fX4_findPairs_B46 (n : Nat) (x1 : Int32) (x3 : Int32) (w : Int32 × Int32 × zs) : Option ((Int32 × Int32 × zs) ⊕ (Int32 × zs)) := if (w.2.2.1 5 8) ≤ w.2.1 then some (Sum.inr (w.1, w.2.2)) else if ¬ (((x1 >>> (x3 &&& 31)) &&& (x1 >>> (w.2.1 &&& 31))) &&& (1 : Int32)) = (1 : Int32) then fX4_findPairs_J94 n w.2.2 x1 w.1 x3 w.2.1 else zp (fX4_markPair n (zsi w.2.2 43 5 ((w.2.2.1 43 5) ||| w.1)) x3 w.2.1 w.1) (fun s8 => fX4_findPairs_J94 n s8 x1 (w.1 <<< ((1 : Int32) &&& 31)) x3 w.2.1)
theorem tX4_findPairs_B46 {n : Nat} {c : Nat × Nat} {x1 : Int32} {x3 : Int32} {w : Int32 × Int32 × zs} {o : _} {v : Option Value} {S' : zi_S} (h : fX4_findPairs_B46 n x1 x3 w = some o) (hn : ∀ w, o = Sum.inl w → zr kX4_findPairs 0 2 46 [some (.ref 43), some (.int x1), some (.int w.1), some (.int x3), some (.int w.2.1)] [] (zS c w.2.2) v S') (hx : ∀ w, o = Sum.inr w → (fun w => zr kX4_findPairs 0 2 100 [some (.ref 43), some (.int x1), some (.int w.1), some (.int x3), none] [] (zS c w.2) v S') w) : zr kX4_findPairs 0 2 46 [some (.ref 43), some (.int x1), some (.int w.1), some (.int x3), some (.int w.2.1)] [] (zS c w.2.2) v S' := by
  unfold fX4_findPairs_B46 at h
  refine zr_many 2 (pc' := 49) (L' := [some (.ref 43), some (.int x1), some (.int w.1), some (.int x3), some (.int w.2.1)]) (st' := [.ref 43, .int w.2.1]) (S1 := zS c w.2.2) rfl ?_
  refine zq_get rfl (zh_43 _) rfl rfl rfl ?_
  refine zq_get rfl (zh_5 _) rfl rfl rfl ?_
  refine zq_if2 (b := (w.2.2.1 5 8) ≤ w.2.1) rfl Iff.rfl rfl (fun g5 => ?_) (fun g5 => ?_)
  · rw [if_pos g5] at h
    cases h
    exact zr_wk [some (.ref 43), some (.int x1), some (.int w.1), some (.int x3), none] ⟨rfl, rfl, rfl, rfl, trivial⟩ (hx _ rfl)
  · rw [if_neg g5] at h
    refine zr_many 10 (pc' := 69) (L' := [some (.ref 43), some (.int x1), some (.int w.1), some (.int x3), some (.int w.2.1)]) (st' := [.int (1 : Int32), .int (((x1 >>> (x3 &&& 31)) &&& (x1 >>> (w.2.1 &&& 31))) &&& (1 : Int32))]) (S1 := zS c w.2.2) rfl ?_
    refine zq_if2 (b := ¬ (((x1 >>> (x3 &&& 31)) &&& (x1 >>> (w.2.1 &&& 31))) &&& (1 : Int32)) = (1 : Int32)) rfl Iff.rfl rfl (fun g6 => ?_) (fun g6 => ?_)
    · rw [if_pos g6] at h
      exact zr_wk [some (.ref 43), some (.int x1), some (.int w.1), some (.int x3), some (.int w.2.1)] ⟨rfl, rfl, rfl, rfl, rfl, trivial⟩ (tX4_findPairs_J94 h hn hx)
    · rw [if_neg g6] at h
      refine zr_many 2 (pc' := 74) (L' := [some (.ref 43), some (.int x1), some (.int w.1), some (.int x3), some (.int w.2.1)]) (st' := [.ref 43, .ref 43]) (S1 := zS c w.2.2) rfl ?_
      refine zq_get rfl (zh_43 _) rfl rfl rfl ?_
      refine zr_many 2 (pc' := 79) (L' := [some (.ref 43), some (.int x1), some (.int w.1), some (.int x3), some (.int w.2.1)]) (st' := [.int ((w.2.2.1 43 5) ||| w.1), .ref 43]) (S1 := zS c w.2.2) rfl ?_
      refine zq_put (s' := (zsi w.2.2 43 5 ((w.2.2.1 43 5) ||| w.1))) rfl (zh_43 _) rfl rfl rfl rfl zsi_ne rfl ?_
      refine zr_many 4 (pc' := 87) (L' := [some (.ref 43), some (.int x1), some (.int w.1), some (.int x3), some (.int w.2.1)]) (st' := [.int w.1, .int w.2.1, .int x3, .ref 43]) (S1 := zS c (zsi w.2.2 43 5 ((w.2.2.1 43 5) ||| w.1))) rfl ?_
      obtain ⟨s8, g9, h⟩ := zp_inv h
      refine zq_call0 rfl rfl (zh_43 _) rfl rfl rfl (tX4_markPair g9) rfl ?_
      refine zr_many 4 (pc' := 94) (L' := [some (.ref 43), some (.int x1), some (.int (w.1 <<< ((1 : Int32) &&& 31))), some (.int x3), some (.int w.2.1)]) (st' := []) (S1 := zS c s8) rfl ?_
      exact zr_wk [some (.ref 43), some (.int x1), some (.int (w.1 <<< ((1 : Int32) &&& 31))), some (.int x3), some (.int w.2.1)] ⟨rfl, rfl, rfl, rfl, rfl, trivial⟩ (tX4_findPairs_J94 h hn hx)
def fX4_findPairs_B30 (n : Nat) (x1 : Int32) (w : Int32 × Int32 × zs) : Option ((Int32 × Int32 × zs) ⊕ (zs)) := if (w.2.2.1 5 8) ≤ w.2.1 then some (Sum.inr w.2.2) else zp (zl (fX4_findPairs_B46 n x1 w.2.1) n (w.1, (w.2.1 + (1 : Int32)), w.2.2)) (fun w10 => some (Sum.inl (w10.1, (w.2.1 + (1 : Int32)), w10.2)))
theorem tX4_findPairs_B30 {n : Nat} {c : Nat × Nat} {x1 : Int32} {w : Int32 × Int32 × zs} {o : _} {v : Option Value} {S' : zi_S} (h : fX4_findPairs_B30 n x1 w = some o) (hn : ∀ w, o = Sum.inl w → zr kX4_findPairs 0 2 30 [some (.ref 43), some (.int x1), some (.int w.1), some (.int w.2.1), none] [] (zS c w.2.2) v S') (hx : ∀ w, o = Sum.inr w → (fun w => zr kX4_findPairs 0 2 106 [none, none, none, none, none] [] (zS c w) v S') w) : zr kX4_findPairs 0 2 30 [some (.ref 43), some (.int x1), some (.int w.1), some (.int w.2.1), none] [] (zS c w.2.2) v S' := by
  unfold fX4_findPairs_B30 at h
  refine zr_many 2 (pc' := 32) (L' := [some (.ref 43), some (.int x1), some (.int w.1), some (.int w.2.1), none]) (st' := [.ref 43, .int w.2.1]) (S1 := zS c w.2.2) rfl ?_
  refine zq_get rfl (zh_43 _) rfl rfl rfl ?_
  refine zq_get rfl (zh_5 _) rfl rfl rfl ?_
  refine zq_if2 (b := (w.2.2.1 5 8) ≤ w.2.1) rfl Iff.rfl rfl (fun g4 => ?_) (fun g4 => ?_)
  · rw [if_pos g4] at h
    cases h
    exact zr_wk [none, none, none, none, none] trivial (hx _ rfl)
  · rw [if_neg g4] at h
    refine zr_many 4 (pc' := 46) (L' := [some (.ref 43), some (.int x1), some (.int w.1), some (.int w.2.1), some (.int (w.2.1 + (1 : Int32)))]) (st' := []) (S1 := zS c w.2.2) rfl ?_
    obtain ⟨w10, g11, h⟩ := zp_inv h
    refine zr_wk [some (.ref 43), some (.int x1), some (.int w.1), some (.int w.2.1), some (.int (w.2.1 + (1 : Int32)))] ⟨rfl, rfl, rfl, rfl, rfl, trivial⟩ (zl_cert (Z := fun w => zr kX4_findPairs 0 2 46 [some (.ref 43), some (.int x1), some (.int w.1), some (.int w.2.1), some (.int w.2.1)] [] (zS c w.2.2) _ _) (Y := (fun w => zr kX4_findPairs 0 2 100 [some (.ref 43), some (.int x1), some (.int w.1), some (.int w.2.1), none] [] (zS c w.2) _ _)) (fun w o h1 h2 h3 => tX4_findPairs_B46 h1 h2 h3) n _ _ g11 ?_)
    show zr kX4_findPairs 0 2 100 [some (.ref 43), some (.int x1), some (.int w10.1), some (.int w.2.1), none] [] (zS c w10.2) _ _
    refine zr_many 2 (pc' := 30) (L' := [some (.ref 43), some (.int x1), some (.int w10.1), some (.int (w.2.1 + (1 : Int32))), none]) (st' := []) (S1 := zS c w10.2) rfl ?_
    cases h
    exact zr_wk [some (.ref 43), some (.int x1), some (.int w10.1), some (.int (w.2.1 + (1 : Int32))), none] ⟨rfl, rfl, rfl, rfl, trivial⟩ (hn _ rfl)
def fX4_findPairs (n : Nat) (s : zs) (x1 : Int32) : Option zs := zp (zl (fX4_findPairs_B7 n x1) n ((0 : Int32), (zsi s 43 5 (0 : Int32)))) (fun w3 => zp (zl (fX4_findPairs_B30 n x1) n ((1 : Int32), (0 : Int32), w3)) (fun w12 => some w12))
theorem tX4_findPairs {n : Nat} {c : Nat × Nat} {s : zs} {x1 : Int32} {s' : zs} (h : fX4_findPairs n s x1 = some s') : zc 3 808 [.ref 43, .int x1] (zS c s) none (zS c s') := by
  refine zc_of (k := kX4_findPairs) (rt := 0) (L := [some (.ref 43), some (.int x1), none, none, none]) zm_808.1 rfl rfl (by decide) rfl rfl ?_
  unfold fX4_findPairs at h
  refine zr_many 2 (pc' := 2) (L' := [some (.ref 43), some (.int x1), none, none, none]) (st' := [.int (0 : Int32), .ref 43]) (S1 := zS c s) rfl ?_
  refine zq_put (s' := (zsi s 43 5 (0 : Int32))) rfl (zh_43 _) rfl rfl rfl rfl zsi_ne rfl ?_
  refine zr_many 2 (pc' := 7) (L' := [some (.ref 43), some (.int x1), some (.int (0 : Int32)), none, none]) (st' := []) (S1 := zS c (zsi s 43 5 (0 : Int32))) rfl ?_
  obtain ⟨w3, g14, h⟩ := zp_inv h
  refine zr_wk [some (.ref 43), some (.int x1), some (.int (0 : Int32)), none, none] ⟨rfl, rfl, rfl, trivial⟩ (zl_cert (Z := fun w => zr kX4_findPairs 0 2 7 [some (.ref 43), some (.int x1), some (.int w.1), none, none] [] (zS c w.2) _ _) (Y := (fun w => zr kX4_findPairs 0 2 26 [some (.ref 43), some (.int x1), none, none, none] [] (zS c w) _ _)) (fun w o h1 h2 h3 => tX4_findPairs_B7 h1 h2 h3) n _ _ g14 ?_)
  show zr kX4_findPairs 0 2 26 [some (.ref 43), some (.int x1), none, none, none] [] (zS c w3) _ _
  refine zr_many 4 (pc' := 30) (L' := [some (.ref 43), some (.int x1), some (.int (1 : Int32)), some (.int (0 : Int32)), none]) (st' := []) (S1 := zS c w3) rfl ?_
  obtain ⟨w12, g13, h⟩ := zp_inv h
  refine zr_wk [some (.ref 43), some (.int x1), some (.int (1 : Int32)), some (.int (0 : Int32)), none] ⟨rfl, rfl, rfl, rfl, trivial⟩ (zl_cert (Z := fun w => zr kX4_findPairs 0 2 30 [some (.ref 43), some (.int x1), some (.int w.1), some (.int w.2.1), none] [] (zS c w.2.2) _ _) (Y := (fun w => zr kX4_findPairs 0 2 106 [none, none, none, none, none] [] (zS c w) _ _)) (fun w o h1 h2 h3 => tX4_findPairs_B30 h1 h2 h3) n _ _ g13 ?_)
  show zr kX4_findPairs 0 2 106 [none, none, none, none, none] [] (zS c w12) _ _
  cases h
  exact zq_vret rfl
def fX4_allApart_B4 (n : Nat) (s : zs) (w : Int32 × Int32) : Option ((Int32 × Int32) ⊕ (Int32)) := if (26 : Int32) ≤ w.2 then some (Sum.inr w.1) else cond (zi_in w.2 26) (some (Sum.inl ((w.1 ||| (s.1 44 w.2.toNatClampNeg)), (w.2 + (1 : Int32))))) none
theorem tX4_allApart_B4 {n : Nat} {c : Nat × Nat} {s : zs} {w : Int32 × Int32} {o : _} {v : Option Value} {S' : zi_S} (h : fX4_allApart_B4 n s w = some o) (hn : ∀ w, o = Sum.inl w → zr kX4_allApart 2 0 4 [some (.ref 43), some (.int w.1), some (.int w.2)] [] (zS c s) v S') (hx : ∀ w, o = Sum.inr w → (fun w => zr kX4_allApart 2 0 25 [some (.ref 43), some (.int w), none] [] (zS c s) v S') w) : zr kX4_allApart 2 0 4 [some (.ref 43), some (.int w.1), some (.int w.2)] [] (zS c s) v S' := by
  unfold fX4_allApart_B4 at h
  refine zr_many 2 (pc' := 7) (L' := [some (.ref 43), some (.int w.1), some (.int w.2)]) (st' := [.int (26 : Int32), .int w.2]) (S1 := zS c s) rfl ?_
  refine zq_if2 (b := (26 : Int32) ≤ w.2) rfl Iff.rfl rfl (fun g1 => ?_) (fun g1 => ?_)
  · rw [if_pos g1] at h
    cases h
    exact zr_wk [some (.ref 43), some (.int w.1), none] ⟨rfl, rfl, trivial⟩ (hx _ rfl)
  · rw [if_neg g1] at h
    refine zr_many 2 (pc' := 12) (L' := [some (.ref 43), some (.int w.1), some (.int w.2)]) (st' := [.ref 43, .int w.1]) (S1 := zS c s) rfl ?_
    refine zq_get rfl (zh_43 _) rfl rfl rfl ?_
    refine zr_many 1 (pc' := 16) (L' := [some (.ref 43), some (.int w.1), some (.int w.2)]) (st' := [.int w.2, .ref 44, .int w.1]) (S1 := zS c s) rfl ?_
    obtain ⟨g2, h⟩ := zi_cond_inv h
    refine zq_ild rfl (zh_44 _) rfl g2 rfl ?_
    refine zr_many 4 (pc' := 4) (L' := [some (.ref 43), some (.int (w.1 ||| (s.1 44 w.2.toNatClampNeg))), some (.int (w.2 + (1 : Int32)))]) (st' := []) (S1 := zS c s) rfl ?_
    cases h
    exact zr_wk [some (.ref 43), some (.int (w.1 ||| (s.1 44 w.2.toNatClampNeg))), some (.int (w.2 + (1 : Int32)))] ⟨rfl, rfl, rfl, trivial⟩ (hn _ rfl)
def fX4_allApart_J38 (n : Nat) (s : zs) (y0 : Int32) : Option Int32 := if y0 = 0 ∨ y0 = 1 then some y0 else none
theorem tX4_allApart_J38 {n : Nat} {c : Nat × Nat} {s : zs} {y0 : Int32} {r : Int32} (h : fX4_allApart_J38 n s y0 = some r) : zr kX4_allApart 2 0 38 [none, none, none] [.int y0] (zS c s) (some (.int r)) (zS c s) := by
  unfold fX4_allApart_J38 at h
  obtain ⟨gz, h⟩ := zt_inv h
  cases h
  exact zq_zret rfl gz
def fX4_allApart (n : Nat) (s : zs) : Option Int32 := zp (zl (fX4_allApart_B4 n s) n ((0 : Int32), (0 : Int32))) (fun w3 => if ¬ w3 = (s.1 43 5) then fX4_allApart_J38 n s (0 : Int32) else fX4_allApart_J38 n s (1 : Int32))
theorem tX4_allApart {n : Nat} {c : Nat × Nat} {s : zs} {r : Int32} (h : fX4_allApart n s = some r) : zc 1 809 [.ref 43] (zS c s) (some (.int r)) (zS c s) := by
  refine zc_of (k := kX4_allApart) (rt := 2) (L := [some (.ref 43), none, none]) zm_809.1 rfl rfl (by decide) rfl rfl ?_
  unfold fX4_allApart at h
  refine zr_many 4 (pc' := 4) (L' := [some (.ref 43), some (.int (0 : Int32)), some (.int (0 : Int32))]) (st' := []) (S1 := zS c s) rfl ?_
  obtain ⟨w3, g5, h⟩ := zp_inv h
  refine zr_wk [some (.ref 43), some (.int (0 : Int32)), some (.int (0 : Int32))] ⟨rfl, rfl, rfl, trivial⟩ (zl_cert (Z := fun w => zr kX4_allApart 2 0 4 [some (.ref 43), some (.int w.1), some (.int w.2)] [] (zS c s) _ _) (Y := (fun w => zr kX4_allApart 2 0 25 [some (.ref 43), some (.int w), none] [] (zS c s) _ _)) (fun w o h1 h2 h3 => tX4_allApart_B4 h1 h2 h3) n _ _ g5 ?_)
  show zr kX4_allApart 2 0 25 [some (.ref 43), some (.int w3), none] [] (zS c s) _ _
  refine zr_many 2 (pc' := 27) (L' := [some (.ref 43), some (.int w3), none]) (st' := [.ref 43, .int w3]) (S1 := zS c s) rfl ?_
  refine zq_get rfl (zh_43 _) rfl rfl rfl ?_
  refine zq_if2 (b := ¬ w3 = (s.1 43 5)) rfl Iff.rfl rfl (fun g4 => ?_) (fun g4 => ?_)
  · rw [if_pos g4] at h
    refine zr_many 1 (pc' := 38) (L' := [some (.ref 43), some (.int w3), none]) (st' := [.int (0 : Int32)]) (S1 := zS c s) rfl ?_
    exact zr_wk [none, none, none] trivial (tX4_allApart_J38 h)
  · rw [if_neg g4] at h
    refine zr_many 2 (pc' := 38) (L' := [some (.ref 43), some (.int w3), none]) (st' := [.int (1 : Int32)]) (S1 := zS c s) rfl ?_
    exact zr_wk [none, none, none] trivial (tX4_allApart_J38 h)
def fX5_size (n : Nat) (s : zs) : Option Int32 := some (s.1 3 1)
theorem tX5_size {n : Nat} {c : Nat × Nat} {s : zs} {r : Int32} (h : fX5_size n s = some r) : zc 1 1001 [.ref 3] (zS c s) (some (.int r)) (zS c s) := by
  refine zc_of (k := kX5_size) (rt := 1) (L := [some (.ref 3)]) zm_1001.1 rfl rfl (by decide) rfl rfl ?_
  unfold fX5_size at h
  refine zr_many 1 (pc' := 1) (L' := [some (.ref 3)]) (st' := [.ref 3]) (S1 := zS c s) rfl ?_
  refine zq_get rfl (zh_3 _) rfl rfl rfl ?_
  cases h
  exact zq_iret rfl
def fX5_at_J22 (n : Nat) (s : zs) (y0 : Int64) : Option Int64 := some y0
theorem tX5_at_J22 {n : Nat} {c : Nat × Nat} {s : zs} {y0 : Int64} {r : Int64} (h : fX5_at_J22 n s y0 = some r) : zr kX5_at 3 0 22 [none, none] [.long y0] (zS c s) (some (.long r)) (zS c s) := by
  unfold fX5_at_J22 at h
  cases h
  exact zq_lret rfl
def fX5_at_J21 (n : Nat) (s : zs) : Option Int64 := fX5_at_J22 n s (0 : Int64)
theorem tX5_at_J21 {n : Nat} {c : Nat × Nat} {s : zs} {r : Int64} (h : fX5_at_J21 n s = some r) : zr kX5_at 3 0 21 [none, none] [] (zS c s) (some (.long r)) (zS c s) := by
  unfold fX5_at_J21 at h
  refine zr_many 1 (pc' := 22) (L' := [none, none]) (st' := [.long (0 : Int64)]) (S1 := zS c s) rfl ?_
  exact zr_wk [none, none] trivial (tX5_at_J22 h)
def fX5_at (n : Nat) (s : zs) (x1 : Int32) : Option Int64 := if x1 < 0 then fX5_at_J21 n s else if (s.1 3 1) ≤ x1 then fX5_at_J21 n s else cond (zi_in x1 16) (fX5_at_J22 n s (s.2 4 x1.toNatClampNeg)) none
theorem tX5_at {n : Nat} {c : Nat × Nat} {s : zs} {x1 : Int32} {r : Int64} (h : fX5_at n s x1 = some r) : zc 1 1002 [.ref 3, .int x1] (zS c s) (some (.long r)) (zS c s) := by
  refine zc_of (k := kX5_at) (rt := 3) (L := [some (.ref 3), some (.int x1)]) zm_1002.1 rfl rfl (by decide) rfl rfl ?_
  unfold fX5_at at h
  refine zr_many 1 (pc' := 1) (L' := [some (.ref 3), some (.int x1)]) (st' := [.int x1]) (S1 := zS c s) rfl ?_
  refine zq_if1 (b := x1 < 0) rfl Iff.rfl rfl (fun g1 => ?_) (fun g1 => ?_)
  · rw [if_pos g1] at h
    exact zr_wk [none, none] trivial (tX5_at_J21 h)
  · rw [if_neg g1] at h
    refine zr_many 2 (pc' := 6) (L' := [some (.ref 3), some (.int x1)]) (st' := [.ref 3, .int x1]) (S1 := zS c s) rfl ?_
    refine zq_get rfl (zh_3 _) rfl rfl rfl ?_
    refine zq_if2 (b := (s.1 3 1) ≤ x1) rfl Iff.rfl rfl (fun g2 => ?_) (fun g2 => ?_)
    · rw [if_pos g2] at h
      exact zr_wk [none, none] trivial (tX5_at_J21 h)
    · rw [if_neg g2] at h
      refine zr_many 1 (pc' := 13) (L' := [some (.ref 3), some (.int x1)]) (st' := [.ref 3]) (S1 := zS c s) rfl ?_
      refine zq_get rfl (zh_3 _) rfl rfl rfl ?_
      refine zr_many 1 (pc' := 17) (L' := [some (.ref 3), some (.int x1)]) (st' := [.int x1, .ref 4]) (S1 := zS c s) rfl ?_
      obtain ⟨g3, h⟩ := zi_cond_inv h
      refine zq_lld rfl (zh_4 _) rfl g3 rfl ?_
      refine zr_many 1 (pc' := 22) (L' := [some (.ref 3), some (.int x1)]) (st' := [.long (s.2 4 x1.toNatClampNeg)]) (S1 := zS c s) rfl ?_
      exact zr_wk [none, none] trivial (tX5_at_J22 h)
def fX5_clear (n : Nat) (s : zs) : Option zs := some (zsi s 3 1 (0 : Int32))
theorem tX5_clear {n : Nat} {c : Nat × Nat} {s : zs} {s' : zs} (h : fX5_clear n s = some s') : zc 1 1003 [.ref 3] (zS c s) none (zS c s') := by
  refine zc_of (k := kX5_clear) (rt := 0) (L := [some (.ref 3)]) zm_1003.1 rfl rfl (by decide) rfl rfl ?_
  unfold fX5_clear at h
  refine zr_many 2 (pc' := 2) (L' := [some (.ref 3)]) (st' := [.int (0 : Int32), .ref 3]) (S1 := zS c s) rfl ?_
  refine zq_put (s' := (zsi s 3 1 (0 : Int32))) rfl (zh_3 _) rfl rfl rfl rfl zsi_ne rfl ?_
  cases h
  exact zq_vret rfl
def fX5_add_J32 (n : Nat) (s : zs) : Option zs := some s
theorem tX5_add_J32 {n : Nat} {c : Nat × Nat} {s : zs} {s' : zs} (h : fX5_add_J32 n s = some s') : zr kX5_add 0 0 32 [none, none, none] [] (zS c s) none (zS c s') := by
  unfold fX5_add_J32 at h
  cases h
  exact zq_vret rfl
def fX5_add (n : Nat) (s : zs) (x1 : Int64) : Option zs := if (16 : Int32) ≤ (s.1 3 1) then fX5_add_J32 n s else cond (zi_in (s.1 3 1) 16) (fX5_add_J32 n (zsi (zsl s 4 (s.1 3 1).toNatClampNeg x1) 3 1 (((zsl s 4 (s.1 3 1).toNatClampNeg x1).1 3 1) + (1 : Int32)))) none
theorem tX5_add {n : Nat} {c : Nat × Nat} {s : zs} {x1 : Int64} {s' : zs} (h : fX5_add n s x1 = some s') : zc 1 1004 [.ref 3, .long x1] (zS c s) none (zS c s') := by
  refine zc_of (k := kX5_add) (rt := 0) (L := [some (.ref 3), some (.long x1), none]) zm_1004.1 rfl rfl (by decide) rfl rfl ?_
  unfold fX5_add at h
  refine zr_many 1 (pc' := 1) (L' := [some (.ref 3), some (.long x1), none]) (st' := [.ref 3]) (S1 := zS c s) rfl ?_
  refine zq_get rfl (zh_3 _) rfl rfl rfl ?_
  refine zr_many 1 (pc' := 5) (L' := [some (.ref 3), some (.long x1), none]) (st' := [.ref 3, .int (s.1 3 1)]) (S1 := zS c s) rfl ?_
  refine zq_get rfl (zh_3 _) rfl rfl rfl ?_
  refine zr_many 1 (pc' := 9) (L' := [some (.ref 3), some (.long x1), none]) (st' := [.int (16 : Int32), .int (s.1 3 1)]) (S1 := zS c s) rfl ?_
  refine zq_if2 (b := (16 : Int32) ≤ (s.1 3 1)) rfl Iff.rfl rfl (fun g1 => ?_) (fun g1 => ?_)
  · rw [if_pos g1] at h
    exact zr_wk [none, none, none] trivial (tX5_add_J32 h)
  · rw [if_neg g1] at h
    refine zr_many 1 (pc' := 13) (L' := [some (.ref 3), some (.long x1), none]) (st' := [.ref 3]) (S1 := zS c s) rfl ?_
    refine zq_get rfl (zh_3 _) rfl rfl rfl ?_
    refine zr_many 1 (pc' := 17) (L' := [some (.ref 3), some (.long x1), none]) (st' := [.ref 3, .ref 4]) (S1 := zS c s) rfl ?_
    refine zq_get rfl (zh_3 _) rfl rfl rfl ?_
    refine zr_many 1 (pc' := 21) (L' := [some (.ref 3), some (.long x1), none]) (st' := [.long x1, .int (s.1 3 1), .ref 4]) (S1 := zS c s) rfl ?_
    obtain ⟨g2, h⟩ := zi_cond_inv h
    refine zq_lst rfl zh_4 rfl g2 rfl ?_
    refine zr_many 2 (pc' := 24) (L' := [some (.ref 3), some (.long x1), none]) (st' := [.ref 3, .ref 3]) (S1 := zS c (zsl s 4 (s.1 3 1).toNatClampNeg x1)) rfl ?_
    refine zq_get rfl (zh_3 _) rfl rfl rfl ?_
    refine zr_many 2 (pc' := 29) (L' := [some (.ref 3), some (.long x1), none]) (st' := [.int (((zsl s 4 (s.1 3 1).toNatClampNeg x1).1 3 1) + (1 : Int32)), .ref 3]) (S1 := zS c (zsl s 4 (s.1 3 1).toNatClampNeg x1)) rfl ?_
    refine zq_put (s' := (zsi (zsl s 4 (s.1 3 1).toNatClampNeg x1) 3 1 (((zsl s 4 (s.1 3 1).toNatClampNeg x1).1 3 1) + (1 : Int32)))) rfl (zh_3 _) rfl rfl rfl rfl zsi_ne rfl ?_
    exact zr_wk [none, none, none] trivial (tX5_add_J32 h)
def fX5_tell (n : Nat) (s : zs) (x1 : Int64) : Option zs := zp (fX5_clear n s) (fun s2 => zp (fX5_add n s2 x1) (fun s5 => some s5))
theorem tX5_tell {n : Nat} {c : Nat × Nat} {s : zs} {x1 : Int64} {s' : zs} (h : fX5_tell n s x1 = some s') : zc 2 1005 [.ref 3, .long x1] (zS c s) none (zS c s') := by
  refine zc_of (k := kX5_tell) (rt := 0) (L := [some (.ref 3), some (.long x1), none]) zm_1005.1 rfl rfl (by decide) rfl rfl ?_
  unfold fX5_tell at h
  refine zr_many 1 (pc' := 1) (L' := [some (.ref 3), some (.long x1), none]) (st' := [.ref 3]) (S1 := zS c s) rfl ?_
  obtain ⟨s2, g3, h⟩ := zp_inv h
  refine zq_call0 rfl rfl (zh_3 _) rfl rfl rfl (tX5_clear g3) rfl ?_
  refine zr_many 2 (pc' := 6) (L' := [some (.ref 3), some (.long x1), none]) (st' := [.long x1, .ref 3]) (S1 := zS c s2) rfl ?_
  obtain ⟨s5, g6, h⟩ := zp_inv h
  refine zq_call0 rfl rfl (zh_3 _) rfl rfl rfl (tX5_add g6) rfl ?_
  cases h
  exact zq_vret rfl
def fX6_size (n : Nat) (s : zs) : Option Int32 := some (s.1 49 2)
theorem tX6_size {n : Nat} {c : Nat × Nat} {s : zs} {r : Int32} (h : fX6_size n s = some r) : zc 1 1201 [.ref 49] (zS c s) (some (.int r)) (zS c s) := by
  refine zc_of (k := kX6_size) (rt := 1) (L := [some (.ref 49)]) zm_1201.1 rfl rfl (by decide) rfl rfl ?_
  unfold fX6_size at h
  refine zr_many 1 (pc' := 1) (L' := [some (.ref 49)]) (st' := [.ref 49]) (S1 := zS c s) rfl ?_
  refine zq_get rfl (zh_49 _) rfl rfl rfl ?_
  cases h
  exact zq_iret rfl
def fX6_clear (n : Nat) (s : zs) : Option zs := some (zsi s 49 2 (0 : Int32))
theorem tX6_clear {n : Nat} {c : Nat × Nat} {s : zs} {s' : zs} (h : fX6_clear n s = some s') : zc 1 1202 [.ref 49] (zS c s) none (zS c s') := by
  refine zc_of (k := kX6_clear) (rt := 0) (L := [some (.ref 49)]) zm_1202.1 rfl rfl (by decide) rfl rfl ?_
  unfold fX6_clear at h
  refine zr_many 2 (pc' := 2) (L' := [some (.ref 49)]) (st' := [.int (0 : Int32), .ref 49]) (S1 := zS c s) rfl ?_
  refine zq_put (s' := (zsi s 49 2 (0 : Int32))) rfl (zh_49 _) rfl rfl rfl rfl zsi_ne rfl ?_
  cases h
  exact zq_vret rfl
def fX6_add_J56 (n : Nat) (s : zs) : Option zs := some s
theorem tX6_add_J56 {n : Nat} {c : Nat × Nat} {s : zs} {s' : zs} (h : fX6_add_J56 n s = some s') : zr kX6_add 0 1 56 [none, none] [] (zS c s) none (zS c s') := by
  unfold fX6_add_J56 at h
  cases h
  exact zq_vret rfl
def fX6_add (n : Nat) (s : zs) (m1 : Nat) : Option zs := cond (zi_in (((s.1 49 1) + (s.1 49 2)) - ((s.1 49 1) + (s.1 49 2)) / (15 : Int32) * (15 : Int32)) 15) (zp (fX3_copy n s (51 + 6 * (((s.1 49 1) + (s.1 49 2)) - ((s.1 49 1) + (s.1 49 2)) / (15 : Int32) * (15 : Int32)).toNatClampNeg) m1) (fun s3 => if (15 : Int32) ≤ (s3.1 49 2) then fX6_add_J56 n (zsi s3 49 1 (((s3.1 49 1) + (1 : Int32)) - ((s3.1 49 1) + (1 : Int32)) / (15 : Int32) * (15 : Int32))) else fX6_add_J56 n (zsi s3 49 2 ((s3.1 49 2) + (1 : Int32))))) none
theorem tX6_add {n : Nat} {c : Nat × Nat} {s : zs} {m1 : Nat} {s' : zs} (hm1 : zM m1) (h : fX6_add n s m1 = some s') : zc 2 1203 [.ref 49, .ref m1] (zS c s) none (zS c s') := by
  refine zc_of (k := kX6_add) (rt := 0) (L := [some (.ref 49), some (.ref m1)]) zm_1203.1 rfl rfl (by decide) rfl rfl ?_
  unfold fX6_add at h
  refine zr_many 1 (pc' := 1) (L' := [some (.ref 49), some (.ref m1)]) (st' := [.ref 49]) (S1 := zS c s) rfl ?_
  refine zq_get rfl (zh_49 _) rfl rfl rfl ?_
  refine zr_many 1 (pc' := 5) (L' := [some (.ref 49), some (.ref m1)]) (st' := [.ref 49, .ref 50]) (S1 := zS c s) rfl ?_
  refine zq_get rfl (zh_49 _) rfl rfl rfl ?_
  refine zr_many 1 (pc' := 9) (L' := [some (.ref 49), some (.ref m1)]) (st' := [.ref 49, .int (s.1 49 1), .ref 50]) (S1 := zS c s) rfl ?_
  refine zq_get rfl (zh_49 _) rfl rfl rfl ?_
  refine zr_many 2 (pc' := 15) (L' := [some (.ref 49), some (.ref m1)]) (st' := [.int (15 : Int32), .int ((s.1 49 1) + (s.1 49 2)), .ref 50]) (S1 := zS c s) rfl ?_
  refine zq_irem rfl (by decide) rfl ?_
  obtain ⟨g1, h⟩ := zi_cond_inv h
  refine zq_ald rfl (zh_50 _) rfl g1 rfl ?_
  refine zr_many 1 (pc' := 18) (L' := [some (.ref 49), some (.ref m1)]) (st' := [.ref m1, .ref (51 + 6 * (((s.1 49 1) + (s.1 49 2)) - ((s.1 49 1) + (s.1 49 2)) / (15 : Int32) * (15 : Int32)).toNatClampNeg)]) (S1 := zS c s) rfl ?_
  obtain ⟨s3, g4, h⟩ := zp_inv h
  refine zq_call0 rfl rfl (zhM_0 (zM_51 g1) _) rfl (zM_lt (j := 0) (zM_51 g1) (by decide)) rfl (tX3_copy (zM_51 g1) hm1 g4) rfl ?_
  refine zr_many 1 (pc' := 22) (L' := [some (.ref 49), some (.ref m1)]) (st' := [.ref 49]) (S1 := zS c s3) rfl ?_
  refine zq_get rfl (zh_49 _) rfl rfl rfl ?_
  refine zr_many 1 (pc' := 27) (L' := [some (.ref 49), some (.ref m1)]) (st' := [.int (15 : Int32), .int (s3.1 49 2)]) (S1 := zS c s3) rfl ?_
  refine zq_if2 (b := (15 : Int32) ≤ (s3.1 49 2)) rfl Iff.rfl rfl (fun g5 => ?_) (fun g5 => ?_)
  · rw [if_pos g5] at h
    refine zr_many 2 (pc' := 45) (L' := [some (.ref 49), some (.ref m1)]) (st' := [.ref 49, .ref 49]) (S1 := zS c s3) rfl ?_
    refine zq_get rfl (zh_49 _) rfl rfl rfl ?_
    refine zr_many 3 (pc' := 52) (L' := [some (.ref 49), some (.ref m1)]) (st' := [.int (15 : Int32), .int ((s3.1 49 1) + (1 : Int32)), .ref 49]) (S1 := zS c s3) rfl ?_
    refine zq_irem rfl (by decide) rfl ?_
    refine zq_put (s' := (zsi s3 49 1 (((s3.1 49 1) + (1 : Int32)) - ((s3.1 49 1) + (1 : Int32)) / (15 : Int32) * (15 : Int32)))) rfl (zh_49 _) rfl rfl rfl rfl zsi_ne rfl ?_
    exact zr_wk [none, none] trivial (tX6_add_J56 h)
  · rw [if_neg g5] at h
    refine zr_many 2 (pc' := 32) (L' := [some (.ref 49), some (.ref m1)]) (st' := [.ref 49, .ref 49]) (S1 := zS c s3) rfl ?_
    refine zq_get rfl (zh_49 _) rfl rfl rfl ?_
    refine zr_many 2 (pc' := 37) (L' := [some (.ref 49), some (.ref m1)]) (st' := [.int ((s3.1 49 2) + (1 : Int32)), .ref 49]) (S1 := zS c s3) rfl ?_
    refine zq_put (s' := (zsi s3 49 2 ((s3.1 49 2) + (1 : Int32)))) rfl (zh_49 _) rfl rfl rfl rfl zsi_ne rfl ?_
    refine zr_many 1 (pc' := 56) (L' := [some (.ref 49), some (.ref m1)]) (st' := []) (S1 := zS c (zsi s3 49 2 ((s3.1 49 2) + (1 : Int32)))) rfl ?_
    exact zr_wk [none, none] trivial (tX6_add_J56 h)
def fX6_takeBack (n : Nat) (s : zs) (m1 : Nat) : Option (Int32 × zs) := if ¬ (s.1 49 2) = 0 then cond (zi_in ((((zsi s 49 2 ((s.1 49 2) - (1 : Int32))).1 49 1) + ((zsi s 49 2 ((s.1 49 2) - (1 : Int32))).1 49 2)) - (((zsi s 49 2 ((s.1 49 2) - (1 : Int32))).1 49 1) + ((zsi s 49 2 ((s.1 49 2) - (1 : Int32))).1 49 2)) / (15 : Int32) * (15 : Int32)) 15) (zp (fX3_copy n (zsi s 49 2 ((s.1 49 2) - (1 : Int32))) m1 (51 + 6 * ((((zsi s 49 2 ((s.1 49 2) - (1 : Int32))).1 49 1) + ((zsi s 49 2 ((s.1 49 2) - (1 : Int32))).1 49 2)) - (((zsi s 49 2 ((s.1 49 2) - (1 : Int32))).1 49 1) + ((zsi s 49 2 ((s.1 49 2) - (1 : Int32))).1 49 2)) / (15 : Int32) * (15 : Int32)).toNatClampNeg)) (fun s4 => some ((1 : Int32), s4))) none else some ((0 : Int32), s)
theorem tX6_takeBack {n : Nat} {c : Nat × Nat} {s : zs} {m1 : Nat} {r : Int32} {s' : zs} (hm1 : zM m1) (h : fX6_takeBack n s m1 = some (r, s')) : zc 2 1204 [.ref 49, .ref m1] (zS c s) (some (.int r)) (zS c s') := by
  refine zc_of (k := kX6_takeBack) (rt := 2) (L := [some (.ref 49), some (.ref m1)]) zm_1204.1 rfl rfl (by decide) rfl rfl ?_
  unfold fX6_takeBack at h
  refine zr_many 1 (pc' := 1) (L' := [some (.ref 49), some (.ref m1)]) (st' := [.ref 49]) (S1 := zS c s) rfl ?_
  refine zq_get rfl (zh_49 _) rfl rfl rfl ?_
  refine zq_if1 (b := ¬ (s.1 49 2) = 0) rfl Iff.rfl rfl (fun g1 => ?_) (fun g1 => ?_)
  · rw [if_pos g1] at h
    refine zr_many 2 (pc' := 11) (L' := [some (.ref 49), some (.ref m1)]) (st' := [.ref 49, .ref 49]) (S1 := zS c s) rfl ?_
    refine zq_get rfl (zh_49 _) rfl rfl rfl ?_
    refine zr_many 2 (pc' := 16) (L' := [some (.ref 49), some (.ref m1)]) (st' := [.int ((s.1 49 2) - (1 : Int32)), .ref 49]) (S1 := zS c s) rfl ?_
    refine zq_put (s' := (zsi s 49 2 ((s.1 49 2) - (1 : Int32)))) rfl (zh_49 _) rfl rfl rfl rfl zsi_ne rfl ?_
    refine zr_many 2 (pc' := 21) (L' := [some (.ref 49), some (.ref m1)]) (st' := [.ref 49, .ref m1]) (S1 := zS c (zsi s 49 2 ((s.1 49 2) - (1 : Int32)))) rfl ?_
    refine zq_get rfl (zh_49 _) rfl rfl rfl ?_
    refine zr_many 1 (pc' := 25) (L' := [some (.ref 49), some (.ref m1)]) (st' := [.ref 49, .ref 50, .ref m1]) (S1 := zS c (zsi s 49 2 ((s.1 49 2) - (1 : Int32)))) rfl ?_
    refine zq_get rfl (zh_49 _) rfl rfl rfl ?_
    refine zr_many 1 (pc' := 29) (L' := [some (.ref 49), some (.ref m1)]) (st' := [.ref 49, .int ((zsi s 49 2 ((s.1 49 2) - (1 : Int32))).1 49 1), .ref 50, .ref m1]) (S1 := zS c (zsi s 49 2 ((s.1 49 2) - (1 : Int32)))) rfl ?_
    refine zq_get rfl (zh_49 _) rfl rfl rfl ?_
    refine zr_many 2 (pc' := 35) (L' := [some (.ref 49), some (.ref m1)]) (st' := [.int (15 : Int32), .int (((zsi s 49 2 ((s.1 49 2) - (1 : Int32))).1 49 1) + ((zsi s 49 2 ((s.1 49 2) - (1 : Int32))).1 49 2)), .ref 50, .ref m1]) (S1 := zS c (zsi s 49 2 ((s.1 49 2) - (1 : Int32)))) rfl ?_
    refine zq_irem rfl (by decide) rfl ?_
    obtain ⟨g2, h⟩ := zi_cond_inv h
    refine zq_ald rfl (zh_50 _) rfl g2 rfl ?_
    obtain ⟨s4, g5, h⟩ := zp_inv h
    refine zq_call0 rfl rfl (zhM_0 hm1 _) rfl (zM_lt (j := 0) hm1 (by decide)) rfl (tX3_copy hm1 (zM_51 g2) g5) rfl ?_
    refine zr_many 1 (pc' := 41) (L' := [some (.ref 49), some (.ref m1)]) (st' := [.int (1 : Int32)]) (S1 := zS c s4) rfl ?_
    cases h
    exact zq_zret rfl (by decide)
  · rw [if_neg g1] at h
    refine zr_many 1 (pc' := 8) (L' := [some (.ref 49), some (.ref m1)]) (st' := [.int (0 : Int32)]) (S1 := zS c s) rfl ?_
    cases h
    exact zq_zret rfl (by decide)
def fX7_emit (n : Nat) (s : zs) (x1 : Int32) : Option (Int32 × zs) := if (s.1 6 5) < (40 : Int32) then cond (zi_in (s.1 6 5) 40) (some ((1 : Int32), (zsi (zsi s 8 (s.1 6 5).toNatClampNeg x1) 6 5 (((zsi s 8 (s.1 6 5).toNatClampNeg x1).1 6 5) + (1 : Int32))))) none else some ((0 : Int32), s)
theorem tX7_emit {n : Nat} {c : Nat × Nat} {s : zs} {x1 : Int32} {r : Int32} {s' : zs} (h : fX7_emit n s x1 = some (r, s')) : zc 1 1409 [.ref 6, .int x1] (zS c s) (some (.int r)) (zS c s') := by
  refine zc_of (k := kX7_emit) (rt := 2) (L := [some (.ref 6), some (.int x1)]) zm_1409.1 rfl rfl (by decide) rfl rfl ?_
  unfold fX7_emit at h
  refine zr_many 1 (pc' := 1) (L' := [some (.ref 6), some (.int x1)]) (st' := [.ref 6]) (S1 := zS c s) rfl ?_
  refine zq_get rfl (zh_6 _) rfl rfl rfl ?_
  refine zr_many 1 (pc' := 5) (L' := [some (.ref 6), some (.int x1)]) (st' := [.ref 6, .int (s.1 6 5)]) (S1 := zS c s) rfl ?_
  refine zq_get rfl (zh_6 _) rfl rfl rfl ?_
  refine zr_many 1 (pc' := 9) (L' := [some (.ref 6), some (.int x1)]) (st' := [.int (40 : Int32), .int (s.1 6 5)]) (S1 := zS c s) rfl ?_
  refine zq_if2 (b := (s.1 6 5) < (40 : Int32)) rfl Iff.rfl rfl (fun g1 => ?_) (fun g1 => ?_)
  · rw [if_pos g1] at h
    refine zr_many 1 (pc' := 15) (L' := [some (.ref 6), some (.int x1)]) (st' := [.ref 6]) (S1 := zS c s) rfl ?_
    refine zq_get rfl (zh_6 _) rfl rfl rfl ?_
    refine zr_many 1 (pc' := 19) (L' := [some (.ref 6), some (.int x1)]) (st' := [.ref 6, .ref 8]) (S1 := zS c s) rfl ?_
    refine zq_get rfl (zh_6 _) rfl rfl rfl ?_
    refine zr_many 1 (pc' := 23) (L' := [some (.ref 6), some (.int x1)]) (st' := [.int x1, .int (s.1 6 5), .ref 8]) (S1 := zS c s) rfl ?_
    obtain ⟨g2, h⟩ := zi_cond_inv h
    refine zq_ist rfl zh_8 rfl g2 rfl ?_
    refine zr_many 2 (pc' := 26) (L' := [some (.ref 6), some (.int x1)]) (st' := [.ref 6, .ref 6]) (S1 := zS c (zsi s 8 (s.1 6 5).toNatClampNeg x1)) rfl ?_
    refine zq_get rfl (zh_6 _) rfl rfl rfl ?_
    refine zr_many 2 (pc' := 31) (L' := [some (.ref 6), some (.int x1)]) (st' := [.int (((zsi s 8 (s.1 6 5).toNatClampNeg x1).1 6 5) + (1 : Int32)), .ref 6]) (S1 := zS c (zsi s 8 (s.1 6 5).toNatClampNeg x1)) rfl ?_
    refine zq_put (s' := (zsi (zsi s 8 (s.1 6 5).toNatClampNeg x1) 6 5 (((zsi s 8 (s.1 6 5).toNatClampNeg x1).1 6 5) + (1 : Int32)))) rfl (zh_6 _) rfl rfl rfl rfl zsi_ne rfl ?_
    refine zr_many 1 (pc' := 35) (L' := [some (.ref 6), some (.int x1)]) (st' := [.int (1 : Int32)]) (S1 := zS c (zsi (zsi s 8 (s.1 6 5).toNatClampNeg x1) 6 5 (((zsi s 8 (s.1 6 5).toNatClampNeg x1).1 6 5) + (1 : Int32)))) rfl ?_
    cases h
    exact zq_zret rfl (by decide)
  · rw [if_neg g1] at h
    refine zr_many 1 (pc' := 13) (L' := [some (.ref 6), some (.int x1)]) (st' := [.int (0 : Int32)]) (S1 := zS c s) rfl ?_
    cases h
    exact zq_zret rfl (by decide)
def fX8_open (n : Nat) (s : zs) (x1 : Int32) : Option zs := some (zsi (zsi s 1 2 (0 : Int32)) 1 3 (if x1 < ((zsi s 1 2 (0 : Int32)).1 1 1) then x1 else ((zsi s 1 2 (0 : Int32)).1 1 1)))
theorem tX8_open {n : Nat} {c : Nat × Nat} {s : zs} {x1 : Int32} {s' : zs} (h : fX8_open n s x1 = some s') : zc 1 1605 [.ref 1, .int x1] (zS c s) none (zS c s') := by
  refine zc_of (k := kX8_open) (rt := 0) (L := [some (.ref 1), some (.int x1)]) zm_1605.1 rfl rfl (by decide) rfl rfl ?_
  unfold fX8_open at h
  refine zr_many 2 (pc' := 2) (L' := [some (.ref 1), some (.int x1)]) (st' := [.int (0 : Int32), .ref 1]) (S1 := zS c s) rfl ?_
  refine zq_put (s' := (zsi s 1 2 (0 : Int32))) rfl (zh_1 _) rfl rfl rfl rfl zsi_ne rfl ?_
  refine zr_many 2 (pc' := 7) (L' := [some (.ref 1), some (.int x1)]) (st' := [.ref 1, .ref 1]) (S1 := zS c (zsi s 1 2 (0 : Int32))) rfl ?_
  refine zq_get rfl (zh_1 _) rfl rfl rfl ?_
  refine zr_many 2 (pc' := 14) (L' := [some (.ref 1), some (.int x1)]) (st' := [.int (if x1 < ((zsi s 1 2 (0 : Int32)).1 1 1) then x1 else ((zsi s 1 2 (0 : Int32)).1 1 1)), .ref 1]) (S1 := zS c (zsi s 1 2 (0 : Int32))) rfl ?_
  refine zq_put (s' := (zsi (zsi s 1 2 (0 : Int32)) 1 3 (if x1 < ((zsi s 1 2 (0 : Int32)).1 1 1) then x1 else ((zsi s 1 2 (0 : Int32)).1 1 1)))) rfl (zh_1 _) rfl rfl rfl rfl zsi_ne rfl ?_
  cases h
  exact zq_vret rfl
def fX8_over_J16 (n : Nat) (s : zs) (y0 : Int32) : Option Int32 := if y0 = 0 ∨ y0 = 1 then some y0 else none
theorem tX8_over_J16 {n : Nat} {c : Nat × Nat} {s : zs} {y0 : Int32} {r : Int32} (h : fX8_over_J16 n s y0 = some r) : zr kX8_over 2 0 16 [none] [.int y0] (zS c s) (some (.int r)) (zS c s) := by
  unfold fX8_over_J16 at h
  obtain ⟨gz, h⟩ := zt_inv h
  cases h
  exact zq_zret rfl gz
def fX8_over (n : Nat) (s : zs) : Option Int32 := if (s.1 1 2) < (s.1 1 1) then fX8_over_J16 n s (0 : Int32) else fX8_over_J16 n s (1 : Int32)
theorem tX8_over {n : Nat} {c : Nat × Nat} {s : zs} {r : Int32} (h : fX8_over n s = some r) : zc 1 1608 [.ref 1] (zS c s) (some (.int r)) (zS c s) := by
  refine zc_of (k := kX8_over) (rt := 2) (L := [some (.ref 1)]) zm_1608.1 rfl rfl (by decide) rfl rfl ?_
  unfold fX8_over at h
  refine zr_many 1 (pc' := 1) (L' := [some (.ref 1)]) (st' := [.ref 1]) (S1 := zS c s) rfl ?_
  refine zq_get rfl (zh_1 _) rfl rfl rfl ?_
  refine zr_many 1 (pc' := 5) (L' := [some (.ref 1)]) (st' := [.ref 1, .int (s.1 1 2)]) (S1 := zS c s) rfl ?_
  refine zq_get rfl (zh_1 _) rfl rfl rfl ?_
  refine zq_if2 (b := (s.1 1 2) < (s.1 1 1)) rfl Iff.rfl rfl (fun g1 => ?_) (fun g1 => ?_)
  · rw [if_pos g1] at h
    refine zr_many 1 (pc' := 16) (L' := [some (.ref 1)]) (st' := [.int (0 : Int32)]) (S1 := zS c s) rfl ?_
    exact zr_wk [none] trivial (tX8_over_J16 h)
  · rw [if_neg g1] at h
    refine zr_many 2 (pc' := 16) (L' := [some (.ref 1)]) (st' := [.int (1 : Int32)]) (S1 := zS c s) rfl ?_
    exact zr_wk [none] trivial (tX8_over_J16 h)
def fX8_fault (n : Nat) (s : zs) : Option Int32 := some ((-1 : Int32) - (s.1 1 2))
theorem tX8_fault {n : Nat} {c : Nat × Nat} {s : zs} {r : Int32} (h : fX8_fault n s = some r) : zc 1 1609 [.ref 1] (zS c s) (some (.int r)) (zS c s) := by
  refine zc_of (k := kX8_fault) (rt := 1) (L := [some (.ref 1)]) zm_1609.1 rfl rfl (by decide) rfl rfl ?_
  unfold fX8_fault at h
  refine zr_many 2 (pc' := 2) (L' := [some (.ref 1)]) (st' := [.ref 1, .int (-1 : Int32)]) (S1 := zS c s) rfl ?_
  refine zq_get rfl (zh_1 _) rfl rfl rfl ?_
  refine zr_many 1 (pc' := 6) (L' := [some (.ref 1)]) (st' := [.int ((-1 : Int32) - (s.1 1 2))]) (S1 := zS c s) rfl ?_
  cases h
  exact zq_iret rfl
def fX7_put_J20 (n : Nat) (s : zs) : Option zs := some s
theorem tX7_put_J20 {n : Nat} {c : Nat × Nat} {s : zs} {s' : zs} (h : fX7_put_J20 n s = some s') : zr kX7_put 0 0 20 [none, none, none] [] (zS c s) none (zS c s') := by
  unfold fX7_put_J20 at h
  cases h
  exact zq_vret rfl
def fX7_put (n : Nat) (s : zs) (x1 : Int32) (x2 : Int32) : Option zs := if x1 < 0 then fX7_put_J20 n s else if (7 : Int32) ≤ x1 then fX7_put_J20 n s else cond (zi_in x1 7) (fX7_put_J20 n (zsi s 10 x1.toNatClampNeg x2)) none
theorem tX7_put {n : Nat} {c : Nat × Nat} {s : zs} {x1 : Int32} {x2 : Int32} {s' : zs} (h : fX7_put n s x1 x2 = some s') : zc 1 1402 [.ref 6, .int x1, .int x2] (zS c s) none (zS c s') := by
  refine zc_of (k := kX7_put) (rt := 0) (L := [some (.ref 6), some (.int x1), some (.int x2)]) zm_1402.1 rfl rfl (by decide) rfl rfl ?_
  unfold fX7_put at h
  refine zr_many 1 (pc' := 1) (L' := [some (.ref 6), some (.int x1), some (.int x2)]) (st' := [.int x1]) (S1 := zS c s) rfl ?_
  refine zq_if1 (b := x1 < 0) rfl Iff.rfl rfl (fun g1 => ?_) (fun g1 => ?_)
  · rw [if_pos g1] at h
    exact zr_wk [none, none, none] trivial (tX7_put_J20 h)
  · rw [if_neg g1] at h
    refine zr_many 2 (pc' := 6) (L' := [some (.ref 6), some (.int x1), some (.int x2)]) (st' := [.ref 6, .int x1]) (S1 := zS c s) rfl ?_
    refine zq_get rfl (zh_6 _) rfl rfl rfl ?_
    refine zr_many 1 (pc' := 10) (L' := [some (.ref 6), some (.int x1), some (.int x2)]) (st' := [.int (7 : Int32), .int x1]) (S1 := zS c s) rfl ?_
    refine zq_if2 (b := (7 : Int32) ≤ x1) rfl Iff.rfl rfl (fun g2 => ?_) (fun g2 => ?_)
    · rw [if_pos g2] at h
      exact zr_wk [none, none, none] trivial (tX7_put_J20 h)
    · rw [if_neg g2] at h
      refine zr_many 1 (pc' := 14) (L' := [some (.ref 6), some (.int x1), some (.int x2)]) (st' := [.ref 6]) (S1 := zS c s) rfl ?_
      refine zq_get rfl (zh_6 _) rfl rfl rfl ?_
      refine zr_many 2 (pc' := 19) (L' := [some (.ref 6), some (.int x1), some (.int x2)]) (st' := [.int x2, .int x1, .ref 10]) (S1 := zS c s) rfl ?_
      obtain ⟨g3, h⟩ := zi_cond_inv h
      refine zq_ist rfl zh_10 rfl g3 rfl ?_
      exact zr_wk [none, none, none] trivial (tX7_put_J20 h)
def fX7_joined_J70 (n : Nat) (s : zs) (y0 : Int32) : Option Int32 := some y0
theorem tX7_joined_J70 {n : Nat} {c : Nat × Nat} {s : zs} {y0 : Int32} {r : Int32} (h : fX7_joined_J70 n s y0 = some r) : zr kX7_joined 1 0 70 [none, none, none] [.int y0] (zS c s) (some (.int r)) (zS c s) := by
  unfold fX7_joined_J70 at h
  cases h
  exact zq_iret rfl
def fX7_joined_J92 (n : Nat) (s : zs) (y0 : Int32) : Option Int32 := some y0
theorem tX7_joined_J92 {n : Nat} {c : Nat × Nat} {s : zs} {y0 : Int32} {r : Int32} (h : fX7_joined_J92 n s y0 = some r) : zr kX7_joined 1 0 92 [none, none, none] [.int y0] (zS c s) (some (.int r)) (zS c s) := by
  unfold fX7_joined_J92 at h
  cases h
  exact zq_iret rfl
def fX7_joined_J81 (n : Nat) (s : zs) (y0 : Int32) : Option Int32 := some y0
theorem tX7_joined_J81 {n : Nat} {c : Nat × Nat} {s : zs} {y0 : Int32} {r : Int32} (h : fX7_joined_J81 n s y0 = some r) : zr kX7_joined 1 0 81 [none, none, none] [.int y0] (zS c s) (some (.int r)) (zS c s) := by
  unfold fX7_joined_J81 at h
  cases h
  exact zq_iret rfl
def fX7_joined_J116 (n : Nat) (s : zs) (y0 : Int32) : Option Int32 := some y0
theorem tX7_joined_J116 {n : Nat} {c : Nat × Nat} {s : zs} {y0 : Int32} {r : Int32} (h : fX7_joined_J116 n s y0 = some r) : zr kX7_joined 1 0 116 [none, none, none] [.int y0] (zS c s) (some (.int r)) (zS c s) := by
  unfold fX7_joined_J116 at h
  cases h
  exact zq_iret rfl
def fX7_joined (n : Nat) (s : zs) (x0 : Int32) (x1 : Int32) (x2 : Int32) : Option Int32 := if x0 = (42 : Int32) then some (x1 * x2) else if x0 = (43 : Int32) then some (x1 + x2) else if x0 = (45 : Int32) then some (x1 - x2) else if x0 = (60 : Int32) then if x2 ≤ x1 then fX7_joined_J70 n s (0 : Int32) else fX7_joined_J70 n s (1 : Int32) else if x0 = (61 : Int32) then if ¬ x1 = x2 then fX7_joined_J92 n s (0 : Int32) else fX7_joined_J92 n s (1 : Int32) else if x0 = (62 : Int32) then if x1 ≤ x2 then fX7_joined_J81 n s (0 : Int32) else fX7_joined_J81 n s (1 : Int32) else if ¬ x2 = 0 then if x2 = 0 then none else (fX7_joined_J116 n s (x1 / x2)) else fX7_joined_J116 n s (0 : Int32)
theorem tX7_joined {n : Nat} {c : Nat × Nat} {s : zs} {x0 : Int32} {x1 : Int32} {x2 : Int32} {r : Int32} (h : fX7_joined n s x0 x1 x2 = some r) : zc 1 1411 [.int x0, .int x1, .int x2] (zS c s) (some (.int r)) (zS c s) := by
  refine zc_of (k := kX7_joined) (rt := 1) (L := [some (.int x0), some (.int x1), some (.int x2)]) zm_1411.1 rfl rfl (by decide) rfl rfl ?_
  unfold fX7_joined at h
  refine zr_many 1 (pc' := 1) (L' := [some (.int x0), some (.int x1), some (.int x2)]) (st' := [.int x0]) (S1 := zS c s) rfl ?_
  refine zq_sw (Or.inr ⟨_, _, rfl⟩) ?_
  by_cases g1 : x0 = (42 : Int32)
  · rw [if_pos g1] at h
    rw [zi_sw_pos g1]
    refine zr_many 3 (pc' := 104) (L' := [some (.int x0), some (.int x1), some (.int x2)]) (st' := [.int (x1 * x2)]) (S1 := zS c s) rfl ?_
    cases h
    exact zq_iret rfl
  rw [if_neg g1] at h
  rw [zi_sw_neg g1]
  by_cases g2 : x0 = (43 : Int32)
  · rw [if_pos g2] at h
    rw [zi_sw_pos g2]
    refine zr_many 3 (pc' := 96) (L' := [some (.int x0), some (.int x1), some (.int x2)]) (st' := [.int (x1 + x2)]) (S1 := zS c s) rfl ?_
    cases h
    exact zq_iret rfl
  rw [if_neg g2] at h
  rw [zi_sw_neg g2]
  by_cases g3 : x0 = (45 : Int32)
  · rw [if_pos g3] at h
    rw [zi_sw_pos g3]
    refine zr_many 3 (pc' := 100) (L' := [some (.int x0), some (.int x1), some (.int x2)]) (st' := [.int (x1 - x2)]) (S1 := zS c s) rfl ?_
    cases h
    exact zq_iret rfl
  rw [if_neg g3] at h
  rw [zi_sw_neg g3]
  by_cases g4 : x0 = (60 : Int32)
  · rw [if_pos g4] at h
    rw [zi_sw_pos g4]
    refine zr_many 2 (pc' := 62) (L' := [some (.int x0), some (.int x1), some (.int x2)]) (st' := [.int x2, .int x1]) (S1 := zS c s) rfl ?_
    refine zq_if2 (b := x2 ≤ x1) rfl Iff.rfl rfl (fun g5 => ?_) (fun g5 => ?_)
    · rw [if_pos g5] at h
      refine zr_many 1 (pc' := 70) (L' := [some (.int x0), some (.int x1), some (.int x2)]) (st' := [.int (0 : Int32)]) (S1 := zS c s) rfl ?_
      exact zr_wk [none, none, none] trivial (tX7_joined_J70 h)
    · rw [if_neg g5] at h
      refine zr_many 2 (pc' := 70) (L' := [some (.int x0), some (.int x1), some (.int x2)]) (st' := [.int (1 : Int32)]) (S1 := zS c s) rfl ?_
      exact zr_wk [none, none, none] trivial (tX7_joined_J70 h)
  rw [if_neg g4] at h
  rw [zi_sw_neg g4]
  by_cases g6 : x0 = (61 : Int32)
  · rw [if_pos g6] at h
    rw [zi_sw_pos g6]
    refine zr_many 2 (pc' := 84) (L' := [some (.int x0), some (.int x1), some (.int x2)]) (st' := [.int x2, .int x1]) (S1 := zS c s) rfl ?_
    refine zq_if2 (b := ¬ x1 = x2) rfl Iff.rfl rfl (fun g7 => ?_) (fun g7 => ?_)
    · rw [if_pos g7] at h
      refine zr_many 1 (pc' := 92) (L' := [some (.int x0), some (.int x1), some (.int x2)]) (st' := [.int (0 : Int32)]) (S1 := zS c s) rfl ?_
      exact zr_wk [none, none, none] trivial (tX7_joined_J92 h)
    · rw [if_neg g7] at h
      refine zr_many 2 (pc' := 92) (L' := [some (.int x0), some (.int x1), some (.int x2)]) (st' := [.int (1 : Int32)]) (S1 := zS c s) rfl ?_
      exact zr_wk [none, none, none] trivial (tX7_joined_J92 h)
  rw [if_neg g6] at h
  rw [zi_sw_neg g6]
  by_cases g8 : x0 = (62 : Int32)
  · rw [if_pos g8] at h
    rw [zi_sw_pos g8]
    refine zr_many 2 (pc' := 73) (L' := [some (.int x0), some (.int x1), some (.int x2)]) (st' := [.int x2, .int x1]) (S1 := zS c s) rfl ?_
    refine zq_if2 (b := x1 ≤ x2) rfl Iff.rfl rfl (fun g9 => ?_) (fun g9 => ?_)
    · rw [if_pos g9] at h
      refine zr_many 1 (pc' := 81) (L' := [some (.int x0), some (.int x1), some (.int x2)]) (st' := [.int (0 : Int32)]) (S1 := zS c s) rfl ?_
      exact zr_wk [none, none, none] trivial (tX7_joined_J81 h)
    · rw [if_neg g9] at h
      refine zr_many 2 (pc' := 81) (L' := [some (.int x0), some (.int x1), some (.int x2)]) (st' := [.int (1 : Int32)]) (S1 := zS c s) rfl ?_
      exact zr_wk [none, none, none] trivial (tX7_joined_J81 h)
  rw [if_neg g8] at h
  rw [zi_sw_neg g8]
  simp only [zi_sw]
  refine zr_many 1 (pc' := 106) (L' := [some (.int x0), some (.int x1), some (.int x2)]) (st' := [.int x2]) (S1 := zS c s) rfl ?_
  refine zq_if1 (b := ¬ x2 = 0) rfl Iff.rfl rfl (fun g10 => ?_) (fun g10 => ?_)
  · rw [if_pos g10] at h
    refine zr_many 2 (pc' := 115) (L' := [some (.int x0), some (.int x1), some (.int x2)]) (st' := [.int x2, .int x1]) (S1 := zS c s) rfl ?_
    obtain ⟨g11, h⟩ := zn_inv h
    refine zq_idiv rfl g11 rfl ?_
    exact zr_wk [none, none, none] trivial (tX7_joined_J116 h)
  · rw [if_neg g10] at h
    refine zr_many 2 (pc' := 116) (L' := [some (.int x0), some (.int x1), some (.int x2)]) (st' := [.int (0 : Int32)]) (S1 := zS c s) rfl ?_
    exact zr_wk [none, none, none] trivial (tX7_joined_J116 h)
def fX8_length (n : Nat) (s : zs) : Option Int32 := some (s.1 1 1)
theorem tX8_length {n : Nat} {c : Nat × Nat} {s : zs} {r : Int32} (h : fX8_length n s = some r) : zc 1 1601 [.ref 1] (zS c s) (some (.int r)) (zS c s) := by
  refine zc_of (k := kX8_length) (rt := 1) (L := [some (.ref 1)]) zm_1601.1 rfl rfl (by decide) rfl rfl ?_
  unfold fX8_length at h
  refine zr_many 1 (pc' := 1) (L' := [some (.ref 1)]) (st' := [.ref 1]) (S1 := zS c s) rfl ?_
  refine zq_get rfl (zh_1 _) rfl rfl rfl ?_
  cases h
  exact zq_iret rfl
def fX8_addFour_B15 (n : Nat) (x1 : Int32) (w : Int32 × zs) : Option ((Int32 × zs) ⊕ (zs)) := if (4 : Int32) ≤ w.1 then some (Sum.inr w.2) else cond (zi_in ((w.2.1 1 1) + w.1) 80) (some (Sum.inl ((w.1 + (1 : Int32)), (zsi w.2 2 ((w.2.1 1 1) + w.1).toNatClampNeg ((x1.toUInt32 >>> (((24 : Int32) - ((8 : Int32) * w.1)).toUInt32 &&& Int32.toUInt32 31)).toInt32 &&& (255 : Int32)))))) none
theorem tX8_addFour_B15 {n : Nat} {c : Nat × Nat} {x1 : Int32} {w : Int32 × zs} {o : _} {v : Option Value} {S' : zi_S} (h : fX8_addFour_B15 n x1 w = some o) (hn : ∀ w, o = Sum.inl w → zr kX8_addFour 2 0 15 [some (.ref 1), some (.int x1), some (.int w.1)] [] (zS c w.2) v S') (hx : ∀ w, o = Sum.inr w → (fun w => zr kX8_addFour 2 0 50 [some (.ref 1), none, none] [] (zS c w) v S') w) : zr kX8_addFour 2 0 15 [some (.ref 1), some (.int x1), some (.int w.1)] [] (zS c w.2) v S' := by
  unfold fX8_addFour_B15 at h
  refine zr_many 2 (pc' := 17) (L' := [some (.ref 1), some (.int x1), some (.int w.1)]) (st' := [.int (4 : Int32), .int w.1]) (S1 := zS c w.2) rfl ?_
  refine zq_if2 (b := (4 : Int32) ≤ w.1) rfl Iff.rfl rfl (fun g2 => ?_) (fun g2 => ?_)
  · rw [if_pos g2] at h
    cases h
    exact zr_wk [some (.ref 1), none, none] ⟨rfl, trivial⟩ (hx _ rfl)
  · rw [if_neg g2] at h
    refine zr_many 1 (pc' := 21) (L' := [some (.ref 1), some (.int x1), some (.int w.1)]) (st' := [.ref 1]) (S1 := zS c w.2) rfl ?_
    refine zq_get rfl (zh_1 _) rfl rfl rfl ?_
    refine zr_many 1 (pc' := 25) (L' := [some (.ref 1), some (.int x1), some (.int w.1)]) (st' := [.ref 1, .ref 2]) (S1 := zS c w.2) rfl ?_
    refine zq_get rfl (zh_1 _) rfl rfl rfl ?_
    refine zr_many 11 (pc' := 43) (L' := [some (.ref 1), some (.int x1), some (.int w.1)]) (st' := [.int ((x1.toUInt32 >>> (((24 : Int32) - ((8 : Int32) * w.1)).toUInt32 &&& Int32.toUInt32 31)).toInt32 &&& (255 : Int32)), .int ((w.2.1 1 1) + w.1), .ref 2]) (S1 := zS c w.2) rfl ?_
    obtain ⟨g3, h⟩ := zi_cond_inv h
    refine zq_ist rfl zh_2 rfl g3 rfl ?_
    refine zr_many 2 (pc' := 15) (L' := [some (.ref 1), some (.int x1), some (.int (w.1 + (1 : Int32)))]) (st' := []) (S1 := zS c (zsi w.2 2 ((w.2.1 1 1) + w.1).toNatClampNeg ((x1.toUInt32 >>> (((24 : Int32) - ((8 : Int32) * w.1)).toUInt32 &&& Int32.toUInt32 31)).toInt32 &&& (255 : Int32)))) rfl ?_
    cases h
    exact zr_wk [some (.ref 1), some (.int x1), some (.int (w.1 + (1 : Int32)))] ⟨rfl, rfl, rfl, trivial⟩ (hn _ rfl)
def fX8_addFour (n : Nat) (s : zs) (x1 : Int32) : Option (Int32 × zs) := if ((s.1 1 1) + (4 : Int32)) ≤ (80 : Int32) then zp (zl (fX8_addFour_B15 n x1) n ((0 : Int32), s)) (fun w4 => some ((1 : Int32), (zsi w4 1 1 ((w4.1 1 1) + (4 : Int32))))) else some ((0 : Int32), s)
theorem tX8_addFour {n : Nat} {c : Nat × Nat} {s : zs} {x1 : Int32} {r : Int32} {s' : zs} (h : fX8_addFour n s x1 = some (r, s')) : zc 1 1602 [.ref 1, .int x1] (zS c s) (some (.int r)) (zS c s') := by
  refine zc_of (k := kX8_addFour) (rt := 2) (L := [some (.ref 1), some (.int x1), none]) zm_1602.1 rfl rfl (by decide) rfl rfl ?_
  unfold fX8_addFour at h
  refine zr_many 1 (pc' := 1) (L' := [some (.ref 1), some (.int x1), none]) (st' := [.ref 1]) (S1 := zS c s) rfl ?_
  refine zq_get rfl (zh_1 _) rfl rfl rfl ?_
  refine zr_many 3 (pc' := 8) (L' := [some (.ref 1), some (.int x1), none]) (st' := [.int (80 : Int32), .int ((s.1 1 1) + (4 : Int32))]) (S1 := zS c s) rfl ?_
  refine zq_if2 (b := ((s.1 1 1) + (4 : Int32)) ≤ (80 : Int32)) rfl Iff.rfl rfl (fun g1 => ?_) (fun g1 => ?_)
  · rw [if_pos g1] at h
    refine zr_many 2 (pc' := 15) (L' := [some (.ref 1), some (.int x1), some (.int (0 : Int32))]) (st' := []) (S1 := zS c s) rfl ?_
    obtain ⟨w4, g5, h⟩ := zp_inv h
    refine zr_wk [some (.ref 1), some (.int x1), some (.int (0 : Int32))] ⟨rfl, rfl, rfl, trivial⟩ (zl_cert (Z := fun w => zr kX8_addFour 2 0 15 [some (.ref 1), some (.int x1), some (.int w.1)] [] (zS c w.2) _ _) (Y := (fun w => zr kX8_addFour 2 0 50 [some (.ref 1), none, none] [] (zS c w) _ _)) (fun w o h1 h2 h3 => tX8_addFour_B15 h1 h2 h3) n _ _ g5 ?_)
    show zr kX8_addFour 2 0 50 [some (.ref 1), none, none] [] (zS c w4) _ _
    refine zr_many 2 (pc' := 52) (L' := [some (.ref 1), none, none]) (st' := [.ref 1, .ref 1]) (S1 := zS c w4) rfl ?_
    refine zq_get rfl (zh_1 _) rfl rfl rfl ?_
    refine zr_many 2 (pc' := 57) (L' := [some (.ref 1), none, none]) (st' := [.int ((w4.1 1 1) + (4 : Int32)), .ref 1]) (S1 := zS c w4) rfl ?_
    refine zq_put (s' := (zsi w4 1 1 ((w4.1 1 1) + (4 : Int32)))) rfl (zh_1 _) rfl rfl rfl rfl zsi_ne rfl ?_
    refine zr_many 1 (pc' := 61) (L' := [some (.ref 1), none, none]) (st' := [.int (1 : Int32)]) (S1 := zS c (zsi w4 1 1 ((w4.1 1 1) + (4 : Int32)))) rfl ?_
    cases h
    exact zq_zret rfl (by decide)
  · rw [if_neg g1] at h
    refine zr_many 1 (pc' := 12) (L' := [some (.ref 1), some (.int x1), none]) (st' := [.int (0 : Int32)]) (S1 := zS c s) rfl ?_
    cases h
    exact zq_zret rfl (by decide)
def fX8_cutTo_J12 (n : Nat) (s : zs) : Option (Int32 × zs) := some ((0 : Int32), s)
theorem tX8_cutTo_J12 {n : Nat} {c : Nat × Nat} {s : zs} {r : Int32} {s' : zs} (h : fX8_cutTo_J12 n s = some (r, s')) : zr kX8_cutTo 2 0 12 [none, none] [] (zS c s) (some (.int r)) (zS c s') := by
  unfold fX8_cutTo_J12 at h
  refine zr_many 1 (pc' := 13) (L' := [none, none]) (st' := [.int (0 : Int32)]) (S1 := zS c s) rfl ?_
  cases h
  exact zq_zret rfl (by decide)
def fX8_cutTo (n : Nat) (s : zs) (x1 : Int32) : Option (Int32 × zs) := if x1 < 0 then fX8_cutTo_J12 n s else if x1 ≤ (s.1 1 1) then some ((1 : Int32), (zsi s 1 1 x1)) else fX8_cutTo_J12 n s
theorem tX8_cutTo {n : Nat} {c : Nat × Nat} {s : zs} {x1 : Int32} {r : Int32} {s' : zs} (h : fX8_cutTo n s x1 = some (r, s')) : zc 1 1603 [.ref 1, .int x1] (zS c s) (some (.int r)) (zS c s') := by
  refine zc_of (k := kX8_cutTo) (rt := 2) (L := [some (.ref 1), some (.int x1)]) zm_1603.1 rfl rfl (by decide) rfl rfl ?_
  unfold fX8_cutTo at h
  refine zr_many 1 (pc' := 1) (L' := [some (.ref 1), some (.int x1)]) (st' := [.int x1]) (S1 := zS c s) rfl ?_
  refine zq_if1 (b := x1 < 0) rfl Iff.rfl rfl (fun g1 => ?_) (fun g1 => ?_)
  · rw [if_pos g1] at h
    exact zr_wk [none, none] trivial (tX8_cutTo_J12 h)
  · rw [if_neg g1] at h
    refine zr_many 2 (pc' := 6) (L' := [some (.ref 1), some (.int x1)]) (st' := [.ref 1, .int x1]) (S1 := zS c s) rfl ?_
    refine zq_get rfl (zh_1 _) rfl rfl rfl ?_
    refine zq_if2 (b := x1 ≤ (s.1 1 1)) rfl Iff.rfl rfl (fun g2 => ?_) (fun g2 => ?_)
    · rw [if_pos g2] at h
      refine zr_many 2 (pc' := 16) (L' := [some (.ref 1), some (.int x1)]) (st' := [.int x1, .ref 1]) (S1 := zS c s) rfl ?_
      refine zq_put (s' := (zsi s 1 1 x1)) rfl (zh_1 _) rfl rfl rfl rfl zsi_ne rfl ?_
      refine zr_many 1 (pc' := 20) (L' := [some (.ref 1), some (.int x1)]) (st' := [.int (1 : Int32)]) (S1 := zS c (zsi s 1 1 x1)) rfl ?_
      cases h
      exact zq_zret rfl (by decide)
    · rw [if_neg g2] at h
      exact zr_wk [none, none] trivial (tX8_cutTo_J12 h)
def fX8_clear (n : Nat) (s : zs) : Option zs := some (zsi s 1 1 (0 : Int32))
theorem tX8_clear {n : Nat} {c : Nat × Nat} {s : zs} {s' : zs} (h : fX8_clear n s = some s') : zc 1 1604 [.ref 1] (zS c s) none (zS c s') := by
  refine zc_of (k := kX8_clear) (rt := 0) (L := [some (.ref 1)]) zm_1604.1 rfl rfl (by decide) rfl rfl ?_
  unfold fX8_clear at h
  refine zr_many 2 (pc' := 2) (L' := [some (.ref 1)]) (st' := [.int (0 : Int32), .ref 1]) (S1 := zS c s) rfl ?_
  refine zq_put (s' := (zsi s 1 1 (0 : Int32))) rfl (zh_1 _) rfl rfl rfl rfl zsi_ne rfl ?_
  cases h
  exact zq_vret rfl
def fX9_way_J15 (n : Nat) (s : zs) (y0 : Int32) : Option Int32 := some y0
theorem tX9_way_J15 {n : Nat} {c : Nat × Nat} {s : zs} {y0 : Int32} {r : Int32} (h : fX9_way_J15 n s y0 = some r) : zr kX9_way 1 0 15 [none, none, none, none] [.int y0] (zS c s) (some (.int r)) (zS c s) := by
  unfold fX9_way_J15 at h
  cases h
  exact zq_iret rfl
def fX9_way (n : Nat) (s : zs) (m1 : Nat) (x2 : Int32) (x3 : Int32) : Option Int32 := cond (zi_in x2 4) (if x3 ≤ (s.1 (m1 + 4) x2.toNatClampNeg) then fX9_way_J15 n s (0 : Int32) else fX9_way_J15 n s (1 : Int32)) none
theorem tX9_way {n : Nat} {c : Nat × Nat} {s : zs} {m1 : Nat} {x2 : Int32} {x3 : Int32} {r : Int32} (hm1 : zM m1) (h : fX9_way n s m1 x2 x3 = some r) : zc 1 1801 [.ref 38, .ref m1, .int x2, .int x3] (zS c s) (some (.int r)) (zS c s) := by
  refine zc_of (k := kX9_way) (rt := 1) (L := [some (.ref 38), some (.ref m1), some (.int x2), some (.int x3)]) zm_1801.1 rfl rfl (by decide) rfl rfl ?_
  unfold fX9_way at h
  refine zr_many 1 (pc' := 1) (L' := [some (.ref 38), some (.ref m1), some (.int x2), some (.int x3)]) (st' := [.ref m1]) (S1 := zS c s) rfl ?_
  refine zq_get rfl (zhM_0 hm1 _) (zM_lt (j := 0) hm1 (by decide)) rfl rfl ?_
  refine zr_many 1 (pc' := 5) (L' := [some (.ref 38), some (.ref m1), some (.int x2), some (.int x3)]) (st' := [.int x2, .ref (m1 + 4)]) (S1 := zS c s) rfl ?_
  obtain ⟨g1, h⟩ := zi_cond_inv h
  refine zq_ild rfl (zhM_4 hm1 _) (zM_lt (j := 4) hm1 (by decide)) g1 rfl ?_
  refine zr_many 1 (pc' := 7) (L' := [some (.ref 38), some (.ref m1), some (.int x2), some (.int x3)]) (st' := [.int x3, .int (s.1 (m1 + 4) x2.toNatClampNeg)]) (S1 := zS c s) rfl ?_
  refine zq_if2 (b := x3 ≤ (s.1 (m1 + 4) x2.toNatClampNeg)) rfl Iff.rfl rfl (fun g2 => ?_) (fun g2 => ?_)
  · rw [if_pos g2] at h
    refine zr_many 1 (pc' := 15) (L' := [some (.ref 38), some (.ref m1), some (.int x2), some (.int x3)]) (st' := [.int (0 : Int32)]) (S1 := zS c s) rfl ?_
    exact zr_wk [none, none, none, none] trivial (tX9_way_J15 h)
  · rw [if_neg g2] at h
    refine zr_many 2 (pc' := 15) (L' := [some (.ref 38), some (.ref m1), some (.int x2), some (.int x3)]) (st' := [.int (1 : Int32)]) (S1 := zS c s) rfl ?_
    exact zr_wk [none, none, none, none] trivial (tX9_way_J15 h)
def fX9_lockAhead_J42 (n : Nat) (s : zs) (y0 : Int32) : Option Int32 := some y0
theorem tX9_lockAhead_J42 {n : Nat} {c : Nat × Nat} {s : zs} {y0 : Int32} {r : Int32} (h : fX9_lockAhead_J42 n s y0 = some r) : zr kX9_lockAhead 1 1 42 [none, none, none, none, none] [.int y0] (zS c s) (some (.int r)) (zS c s) := by
  unfold fX9_lockAhead_J42 at h
  cases h
  exact zq_iret rfl
def fX9_lockAhead_J22 (n : Nat) (s : zs) (y0 : Int32) : Option Int32 := zp (fX0_hasLock n s y0) (fun r3 => if r3 = 0 then fX9_lockAhead_J42 n s (-1 : Int32) else fX9_lockAhead_J42 n s y0)
theorem tX9_lockAhead_J22 {n : Nat} {c : Nat × Nat} {s : zs} {y0 : Int32} {r : Int32} (h : fX9_lockAhead_J22 n s y0 = some r) : zr kX9_lockAhead 1 1 22 [some (.ref 38), none, none, none, none] [.int y0] (zS c s) (some (.int r)) (zS c s) := by
  unfold fX9_lockAhead_J22 at h
  refine zr_many 2 (pc' := 25) (L' := [some (.ref 38), none, none, none, some (.int y0)]) (st' := [.ref 38]) (S1 := zS c s) rfl ?_
  refine zq_get rfl (zh_38 _) rfl rfl rfl ?_
  refine zr_many 1 (pc' := 30) (L' := [some (.ref 38), none, none, none, some (.int y0)]) (st' := [.int y0, .ref 5]) (S1 := zS c s) rfl ?_
  obtain ⟨r3, g5, h⟩ := zp_inv h
  refine zq_call1 rfl rfl (zh_5 _) rfl rfl rfl (tX0_hasLock g5) rfl ?_
  refine zq_if1 (b := r3 = 0) rfl Iff.rfl rfl (fun g6 => ?_) (fun g6 => ?_)
  · rw [if_pos g6] at h
    refine zr_many 1 (pc' := 42) (L' := [some (.ref 38), none, none, none, some (.int y0)]) (st' := [.int (-1 : Int32)]) (S1 := zS c s) rfl ?_
    exact zr_wk [none, none, none, none, none] trivial (tX9_lockAhead_J42 h)
  · rw [if_neg g6] at h
    refine zr_many 2 (pc' := 42) (L' := [some (.ref 38), none, none, none, some (.int y0)]) (st' := [.int y0]) (S1 := zS c s) rfl ?_
    exact zr_wk [none, none, none, none, none] trivial (tX9_lockAhead_J42 h)
def fX9_lockAhead (n : Nat) (s : zs) (m1 : Nat) (x2 : Int32) (x3 : Int32) : Option Int32 := if ¬ x3 = (1 : Int32) then cond (zi_in x2 4) (fX9_lockAhead_J22 n s ((s.1 (m1 + 4) x2.toNatClampNeg) - (1 : Int32))) none else cond (zi_in x2 4) (fX9_lockAhead_J22 n s (s.1 (m1 + 4) x2.toNatClampNeg)) none
theorem tX9_lockAhead {n : Nat} {c : Nat × Nat} {s : zs} {m1 : Nat} {x2 : Int32} {x3 : Int32} {r : Int32} (hm1 : zM m1) (h : fX9_lockAhead n s m1 x2 x3 = some r) : zc 2 1802 [.ref 38, .ref m1, .int x2, .int x3] (zS c s) (some (.int r)) (zS c s) := by
  refine zc_of (k := kX9_lockAhead) (rt := 1) (L := [some (.ref 38), some (.ref m1), some (.int x2), some (.int x3), none]) zm_1802.1 rfl rfl (by decide) rfl rfl ?_
  unfold fX9_lockAhead at h
  refine zr_many 2 (pc' := 2) (L' := [some (.ref 38), some (.ref m1), some (.int x2), some (.int x3), none]) (st' := [.int (1 : Int32), .int x3]) (S1 := zS c s) rfl ?_
  refine zq_if2 (b := ¬ x3 = (1 : Int32)) rfl Iff.rfl rfl (fun g1 => ?_) (fun g1 => ?_)
  · rw [if_pos g1] at h
    refine zr_many 1 (pc' := 15) (L' := [some (.ref 38), some (.ref m1), some (.int x2), some (.int x3), none]) (st' := [.ref m1]) (S1 := zS c s) rfl ?_
    refine zq_get rfl (zhM_0 hm1 _) (zM_lt (j := 0) hm1 (by decide)) rfl rfl ?_
    refine zr_many 1 (pc' := 19) (L' := [some (.ref 38), some (.ref m1), some (.int x2), some (.int x3), none]) (st' := [.int x2, .ref (m1 + 4)]) (S1 := zS c s) rfl ?_
    obtain ⟨g2, h⟩ := zi_cond_inv h
    refine zq_ild rfl (zhM_4 hm1 _) (zM_lt (j := 4) hm1 (by decide)) g2 rfl ?_
    refine zr_many 2 (pc' := 22) (L' := [some (.ref 38), some (.ref m1), some (.int x2), some (.int x3), none]) (st' := [.int ((s.1 (m1 + 4) x2.toNatClampNeg) - (1 : Int32))]) (S1 := zS c s) rfl ?_
    exact zr_wk [some (.ref 38), none, none, none, none] ⟨rfl, trivial⟩ (tX9_lockAhead_J22 h)
  · rw [if_neg g1] at h
    refine zr_many 1 (pc' := 6) (L' := [some (.ref 38), some (.ref m1), some (.int x2), some (.int x3), none]) (st' := [.ref m1]) (S1 := zS c s) rfl ?_
    refine zq_get rfl (zhM_0 hm1 _) (zM_lt (j := 0) hm1 (by decide)) rfl rfl ?_
    refine zr_many 1 (pc' := 10) (L' := [some (.ref 38), some (.ref m1), some (.int x2), some (.int x3), none]) (st' := [.int x2, .ref (m1 + 4)]) (S1 := zS c s) rfl ?_
    obtain ⟨g7, h⟩ := zi_cond_inv h
    refine zq_ild rfl (zhM_4 hm1 _) (zM_lt (j := 4) hm1 (by decide)) g7 rfl ?_
    refine zr_many 1 (pc' := 22) (L' := [some (.ref 38), some (.ref m1), some (.int x2), some (.int x3), none]) (st' := [.int (s.1 (m1 + 4) x2.toNatClampNeg)]) (S1 := zS c s) rfl ?_
    exact zr_wk [some (.ref 38), none, none, none, none] ⟨rfl, trivial⟩ (tX9_lockAhead_J22 h)
def fX9_waterFor_J14 (n : Nat) (s : zs) (y0 : Int32) : Option Int32 := some y0
theorem tX9_waterFor_J14 {n : Nat} {c : Nat × Nat} {s : zs} {y0 : Int32} {r : Int32} (h : fX9_waterFor_J14 n s y0 = some r) : zr kX9_waterFor 1 1 14 [none, none, none] [.int y0] (zS c s) (some (.int r)) (zS c s) := by
  unfold fX9_waterFor_J14 at h
  cases h
  exact zq_iret rfl
def fX9_waterFor (n : Nat) (s : zs) (m0 : Nat) (x1 : Int32) (x2 : Int32) : Option Int32 := if ¬ x2 = (1 : Int32) then fX9_waterFor_J14 n s (1 : Int32) else zp (fX3_levelOf n s m0 x1) (fun r2 => fX9_waterFor_J14 n s r2)
theorem tX9_waterFor {n : Nat} {c : Nat × Nat} {s : zs} {m0 : Nat} {x1 : Int32} {x2 : Int32} {r : Int32} (hm0 : zM m0) (h : fX9_waterFor n s m0 x1 x2 = some r) : zc 2 1804 [.ref m0, .int x1, .int x2] (zS c s) (some (.int r)) (zS c s) := by
  refine zc_of (k := kX9_waterFor) (rt := 1) (L := [some (.ref m0), some (.int x1), some (.int x2)]) zm_1804.1 rfl rfl (by decide) rfl rfl ?_
  unfold fX9_waterFor at h
  refine zr_many 2 (pc' := 2) (L' := [some (.ref m0), some (.int x1), some (.int x2)]) (st' := [.int (1 : Int32), .int x2]) (S1 := zS c s) rfl ?_
  refine zq_if2 (b := ¬ x2 = (1 : Int32)) rfl Iff.rfl rfl (fun g1 => ?_) (fun g1 => ?_)
  · rw [if_pos g1] at h
    refine zr_many 1 (pc' := 14) (L' := [some (.ref m0), some (.int x1), some (.int x2)]) (st' := [.int (1 : Int32)]) (S1 := zS c s) rfl ?_
    exact zr_wk [none, none, none] trivial (tX9_waterFor_J14 h)
  · rw [if_neg g1] at h
    refine zr_many 2 (pc' := 7) (L' := [some (.ref m0), some (.int x1), some (.int x2)]) (st' := [.int x1, .ref m0]) (S1 := zS c s) rfl ?_
    obtain ⟨r2, g4, h⟩ := zp_inv h
    refine zq_call1 rfl rfl (zhM_0 hm0 _) rfl (zM_lt (j := 0) hm0 (by decide)) rfl (tX3_levelOf hm0 g4) rfl ?_
    refine zr_many 1 (pc' := 14) (L' := [some (.ref m0), some (.int x1), some (.int x2)]) (st' := [.int r2]) (S1 := zS c s) rfl ?_
    exact zr_wk [none, none, none] trivial (tX9_waterFor_J14 h)
def fX9_hindrance_J20 (n : Nat) (s : zs) : Option (Int32 × zs) := some ((-1 : Int32), s)
theorem tX9_hindrance_J20 {n : Nat} {c : Nat × Nat} {s : zs} {r : Int32} {s' : zs} (h : fX9_hindrance_J20 n s = some (r, s')) : zr kX9_hindrance 1 4 20 [none, none, none, none, none] [] (zS c s) (some (.int r)) (zS c s') := by
  unfold fX9_hindrance_J20 at h
  refine zr_many 1 (pc' := 21) (L' := [none, none, none, none, none]) (st' := [.int (-1 : Int32)]) (S1 := zS c s) rfl ?_
  cases h
  exact zq_iret rfl
def fX9_hindrance_J92 (n : Nat) (s : zs) (y0 : Int32) : Option (Int32 × zs) := some (y0, s)
theorem tX9_hindrance_J92 {n : Nat} {c : Nat × Nat} {s : zs} {y0 : Int32} {r : Int32} {s' : zs} (h : fX9_hindrance_J92 n s y0 = some (r, s')) : zr kX9_hindrance 1 4 92 [none, none, none, none, none] [.int y0] (zS c s) (some (.int r)) (zS c s') := by
  unfold fX9_hindrance_J92 at h
  cases h
  exact zq_iret rfl
def fX9_hindrance (n : Nat) (s : zs) (m1 : Nat) (x2 : Int32) (x3 : Int32) : Option (Int32 × zs) := zp (fX0_hasBarge n s x2) (fun r1 => if r1 = 0 then fX9_hindrance_J20 n s else if x3 < 0 then fX9_hindrance_J20 n s else if x3 ≤ (1 : Int32) then zp (fX9_lockAhead n s m1 x2 x3) (fun r7 => if 0 ≤ r7 then zp (fX1_gather n s m1 r7 (0 : Int32)) (fun s12 => zp (fX0_crewOf n s12 m1 x2) (fun r14 => zb (fX1_settle n s12 r14) (fun r17 s18 => if ¬ r17 = 0 then zp (fX9_waterFor n s18 m1 r7 x3) (fun r21 => if r21 ≤ (s18.1 m1 1) then fX9_hindrance_J92 n s18 (0 : Int32) else fX9_hindrance_J92 n s18 (-4 : Int32)) else some ((-3 : Int32), s18)))) else some ((-2 : Int32), s)) else fX9_hindrance_J20 n s)
theorem tX9_hindrance {n : Nat} {c : Nat × Nat} {s : zs} {m1 : Nat} {x2 : Int32} {x3 : Int32} {r : Int32} {s' : zs} (hm1 : zM m1) (h : fX9_hindrance n s m1 x2 x3 = some (r, s')) : zc 5 1803 [.ref 38, .ref m1, .int x2, .int x3] (zS c s) (some (.int r)) (zS c s') := by
  refine zc_of (k := kX9_hindrance) (rt := 1) (L := [some (.ref 38), some (.ref m1), some (.int x2), some (.int x3), none]) zm_1803.1 rfl rfl (by decide) rfl rfl ?_
  unfold fX9_hindrance at h
  refine zr_many 1 (pc' := 1) (L' := [some (.ref 38), some (.ref m1), some (.int x2), some (.int x3), none]) (st' := [.ref 38]) (S1 := zS c s) rfl ?_
  refine zq_get rfl (zh_38 _) rfl rfl rfl ?_
  refine zr_many 1 (pc' := 5) (L' := [some (.ref 38), some (.ref m1), some (.int x2), some (.int x3), none]) (st' := [.int x2, .ref 5]) (S1 := zS c s) rfl ?_
  obtain ⟨r1, g3, h⟩ := zp_inv h
  refine zq_call1 rfl rfl (zh_5 _) rfl rfl rfl ((tX0_hasBarge g3).up (by decide)) rfl ?_
  refine zq_if1 (b := r1 = 0) rfl Iff.rfl rfl (fun g4 => ?_) (fun g4 => ?_)
  · rw [if_pos g4] at h
    exact zr_wk [none, none, none, none, none] trivial (tX9_hindrance_J20 h)
  · rw [if_neg g4] at h
    refine zr_many 1 (pc' := 12) (L' := [some (.ref 38), some (.ref m1), some (.int x2), some (.int x3), none]) (st' := [.int x3]) (S1 := zS c s) rfl ?_
    refine zq_if1 (b := x3 < 0) rfl Iff.rfl rfl (fun g5 => ?_) (fun g5 => ?_)
    · rw [if_pos g5] at h
      exact zr_wk [none, none, none, none, none] trivial (tX9_hindrance_J20 h)
    · rw [if_neg g5] at h
      refine zr_many 2 (pc' := 17) (L' := [some (.ref 38), some (.ref m1), some (.int x2), some (.int x3), none]) (st' := [.int (1 : Int32), .int x3]) (S1 := zS c s) rfl ?_
      refine zq_if2 (b := x3 ≤ (1 : Int32)) rfl Iff.rfl rfl (fun g6 => ?_) (fun g6 => ?_)
      · rw [if_pos g6] at h
        refine zr_many 4 (pc' := 26) (L' := [some (.ref 38), some (.ref m1), some (.int x2), some (.int x3), none]) (st' := [.int x3, .int x2, .ref m1, .ref 38]) (S1 := zS c s) rfl ?_
        obtain ⟨r7, g9, h⟩ := zp_inv h
        refine zq_call1 rfl rfl (zh_38 _) rfl rfl rfl ((tX9_lockAhead hm1 g9).up (by decide)) rfl ?_
        refine zr_many 2 (pc' := 33) (L' := [some (.ref 38), some (.ref m1), some (.int x2), some (.int x3), some (.int r7)]) (st' := [.int r7]) (S1 := zS c s) rfl ?_
        refine zq_if1 (b := 0 ≤ r7) rfl Iff.rfl rfl (fun g10 => ?_) (fun g10 => ?_)
        · rw [if_pos g10] at h
          refine zr_many 1 (pc' := 40) (L' := [some (.ref 38), some (.ref m1), some (.int x2), some (.int x3), some (.int r7)]) (st' := [.ref 38]) (S1 := zS c s) rfl ?_
          refine zq_get rfl (zh_38 _) rfl rfl rfl ?_
          refine zr_many 3 (pc' := 47) (L' := [some (.ref 38), some (.ref m1), some (.int x2), some (.int x3), some (.int r7)]) (st' := [.int (0 : Int32), .int r7, .ref m1, .ref 35]) (S1 := zS c s) rfl ?_
          obtain ⟨s12, g13, h⟩ := zp_inv h
          refine zq_call0 rfl rfl (zh_35 _) rfl rfl rfl ((tX1_gather hm1 g13).up (by decide)) rfl ?_
          refine zr_many 1 (pc' := 51) (L' := [some (.ref 38), some (.ref m1), some (.int x2), some (.int x3), some (.int r7)]) (st' := [.ref 38]) (S1 := zS c s12) rfl ?_
          refine zq_get rfl (zh_38 _) rfl rfl rfl ?_
          refine zr_many 1 (pc' := 55) (L' := [some (.ref 38), some (.ref m1), some (.int x2), some (.int x3), some (.int r7)]) (st' := [.ref 38, .ref 35]) (S1 := zS c s12) rfl ?_
          refine zq_get rfl (zh_38 _) rfl rfl rfl ?_
          refine zr_many 2 (pc' := 60) (L' := [some (.ref 38), some (.ref m1), some (.int x2), some (.int x3), some (.int r7)]) (st' := [.int x2, .ref m1, .ref 5, .ref 35]) (S1 := zS c s12) rfl ?_
          obtain ⟨r14, g16, h⟩ := zp_inv h
          refine zq_call1 rfl rfl (zh_5 _) rfl rfl rfl ((tX0_crewOf hm1 g16).up (by decide)) rfl ?_
          obtain ⟨r17, s18, g19, h⟩ := zb_inv h
          refine zq_call1 rfl rfl (zh_35 _) rfl rfl rfl (tX1_settle g19) rfl ?_
          refine zq_if1 (b := ¬ r17 = 0) rfl Iff.rfl rfl (fun g20 => ?_) (fun g20 => ?_)
          · rw [if_pos g20] at h
            refine zr_many 1 (pc' := 73) (L' := [some (.ref 38), some (.ref m1), some (.int x2), some (.int x3), some (.int r7)]) (st' := [.ref m1]) (S1 := zS c s18) rfl ?_
            refine zq_get rfl (zhM_0 hm1 _) (zM_lt (j := 0) hm1 (by decide)) rfl rfl ?_
            refine zr_many 3 (pc' := 80) (L' := [some (.ref 38), some (.ref m1), some (.int x2), some (.int x3), some (.int r7)]) (st' := [.int x3, .int r7, .ref m1, .int (s18.1 m1 1)]) (S1 := zS c s18) rfl ?_
            obtain ⟨r21, g23, h⟩ := zp_inv h
            refine zq_scall1 rfl (by decide) rfl rfl ((tX9_waterFor hm1 g23).up (by decide)) rfl ?_
            refine zq_if2 (b := r21 ≤ (s18.1 m1 1)) rfl Iff.rfl rfl (fun g24 => ?_) (fun g24 => ?_)
            · rw [if_pos g24] at h
              refine zr_many 1 (pc' := 92) (L' := [some (.ref 38), some (.ref m1), some (.int x2), some (.int x3), some (.int r7)]) (st' := [.int (0 : Int32)]) (S1 := zS c s18) rfl ?_
              exact zr_wk [none, none, none, none, none] trivial (tX9_hindrance_J92 h)
            · rw [if_neg g24] at h
              refine zr_many 2 (pc' := 92) (L' := [some (.ref 38), some (.ref m1), some (.int x2), some (.int x3), some (.int r7)]) (st' := [.int (-4 : Int32)]) (S1 := zS c s18) rfl ?_
              exact zr_wk [none, none, none, none, none] trivial (tX9_hindrance_J92 h)
          · rw [if_neg g20] at h
            refine zr_many 1 (pc' := 71) (L' := [some (.ref 38), some (.ref m1), some (.int x2), some (.int x3), some (.int r7)]) (st' := [.int (-3 : Int32)]) (S1 := zS c s18) rfl ?_
            cases h
            exact zq_iret rfl
        · rw [if_neg g10] at h
          refine zr_many 1 (pc' := 38) (L' := [some (.ref 38), some (.ref m1), some (.int x2), some (.int x3), some (.int r7)]) (st' := [.int (-2 : Int32)]) (S1 := zS c s) rfl ?_
          cases h
          exact zq_iret rfl
      · rw [if_neg g6] at h
        exact zr_wk [none, none, none, none, none] trivial (tX9_hindrance_J20 h)
def fX9_chordAhead_J37 (n : Nat) (s : zs) (y0 : Int32) : Option (Int32 × zs) := some (y0, s)
theorem tX9_chordAhead_J37 {n : Nat} {c : Nat × Nat} {s : zs} {y0 : Int32} {r : Int32} {s' : zs} (h : fX9_chordAhead_J37 n s y0 = some (r, s')) : zr kX9_chordAhead 1 5 37 [none, none, none, none, none] [.int y0] (zS c s) (some (.int r)) (zS c s') := by
  unfold fX9_chordAhead_J37 at h
  cases h
  exact zq_iret rfl
def fX9_chordAhead_J36 (n : Nat) (s : zs) : Option (Int32 × zs) := fX9_chordAhead_J37 n s (0 : Int32)
theorem tX9_chordAhead_J36 {n : Nat} {c : Nat × Nat} {s : zs} {r : Int32} {s' : zs} (h : fX9_chordAhead_J36 n s = some (r, s')) : zr kX9_chordAhead 1 5 36 [none, none, none, none, none] [] (zS c s) (some (.int r)) (zS c s') := by
  unfold fX9_chordAhead_J36 at h
  refine zr_many 1 (pc' := 37) (L' := [none, none, none, none, none]) (st' := [.int (0 : Int32)]) (S1 := zS c s) rfl ?_
  exact zr_wk [none, none, none, none, none] trivial (tX9_chordAhead_J37 h)
def fX9_chordAhead (n : Nat) (s : zs) (m1 : Nat) (x2 : Int32) (x3 : Int32) : Option (Int32 × zs) := zp (fX9_lockAhead n s m1 x2 x3) (fun r1 => if r1 < 0 then fX9_chordAhead_J36 n s else zb (fX9_hindrance n s m1 x2 x3) (fun r5 s6 => if ¬ r5 = 0 then fX9_chordAhead_J36 n s6 else zp (fX0_chordBits n s6 r1) (fun r9 => fX9_chordAhead_J37 n s6 r9)))
theorem tX9_chordAhead {n : Nat} {c : Nat × Nat} {s : zs} {m1 : Nat} {x2 : Int32} {x3 : Int32} {r : Int32} {s' : zs} (hm1 : zM m1) (h : fX9_chordAhead n s m1 x2 x3 = some (r, s')) : zc 6 1809 [.ref 38, .ref m1, .int x2, .int x3] (zS c s) (some (.int r)) (zS c s') := by
  refine zc_of (k := kX9_chordAhead) (rt := 1) (L := [some (.ref 38), some (.ref m1), some (.int x2), some (.int x3), none]) zm_1809.1 rfl rfl (by decide) rfl rfl ?_
  unfold fX9_chordAhead at h
  refine zr_many 4 (pc' := 4) (L' := [some (.ref 38), some (.ref m1), some (.int x2), some (.int x3), none]) (st' := [.int x3, .int x2, .ref m1, .ref 38]) (S1 := zS c s) rfl ?_
  obtain ⟨r1, g3, h⟩ := zp_inv h
  refine zq_call1 rfl rfl (zh_38 _) rfl rfl rfl ((tX9_lockAhead hm1 g3).up (by decide)) rfl ?_
  refine zr_many 2 (pc' := 11) (L' := [some (.ref 38), some (.ref m1), some (.int x2), some (.int x3), some (.int r1)]) (st' := [.int r1]) (S1 := zS c s) rfl ?_
  refine zq_if1 (b := r1 < 0) rfl Iff.rfl rfl (fun g4 => ?_) (fun g4 => ?_)
  · rw [if_pos g4] at h
    exact zr_wk [none, none, none, none, none] trivial (tX9_chordAhead_J36 h)
  · rw [if_neg g4] at h
    refine zr_many 4 (pc' := 18) (L' := [some (.ref 38), some (.ref m1), some (.int x2), some (.int x3), some (.int r1)]) (st' := [.int x3, .int x2, .ref m1, .ref 38]) (S1 := zS c s) rfl ?_
    obtain ⟨r5, s6, g7, h⟩ := zb_inv h
    refine zq_call1 rfl rfl (zh_38 _) rfl rfl rfl (tX9_hindrance hm1 g7) rfl ?_
    refine zq_if1 (b := ¬ r5 = 0) rfl Iff.rfl rfl (fun g8 => ?_) (fun g8 => ?_)
    · rw [if_pos g8] at h
      exact zr_wk [none, none, none, none, none] trivial (tX9_chordAhead_J36 h)
    · rw [if_neg g8] at h
      refine zr_many 1 (pc' := 25) (L' := [some (.ref 38), some (.ref m1), some (.int x2), some (.int x3), some (.int r1)]) (st' := [.ref 38]) (S1 := zS c s6) rfl ?_
      refine zq_get rfl (zh_38 _) rfl rfl rfl ?_
      refine zr_many 1 (pc' := 30) (L' := [some (.ref 38), some (.ref m1), some (.int x2), some (.int x3), some (.int r1)]) (st' := [.int r1, .ref 5]) (S1 := zS c s6) rfl ?_
      obtain ⟨r9, g11, h⟩ := zp_inv h
      refine zq_call1 rfl rfl (zh_5 _) rfl rfl rfl ((tX0_chordBits g11).up (by decide)) rfl ?_
      refine zr_many 1 (pc' := 37) (L' := [some (.ref 38), some (.ref m1), some (.int x2), some (.int x3), some (.int r1)]) (st' := [.int r9]) (S1 := zS c s6) rfl ?_
      exact zr_wk [none, none, none, none, none] trivial (tX9_chordAhead_J37 h)
def fX9_findWays_B2 (n : Nat) (m1 : Nat) (w : Int32 × zs) : Option ((Int32 × zs) ⊕ (zs)) := if (w.2.1 5 9) ≤ w.1 then some (Sum.inr w.2) else zb (fX9_chordAhead n w.2 m1 w.1 (1 : Int32)) (fun r2 s3 => cond (zi_in w.1 4) (zb (fX9_chordAhead n (zsi s3 39 w.1.toNatClampNeg r2) m1 w.1 (0 : Int32)) (fun r5 s6 => cond (zi_in w.1 4) (some (Sum.inl ((w.1 + (1 : Int32)), (zsi s6 40 w.1.toNatClampNeg r5)))) none)) none)
theorem tX9_findWays_B2 {n : Nat} {c : Nat × Nat} {m1 : Nat} {w : Int32 × zs} {o : _} {v : Option Value} {S' : zi_S} (hm1 : zM m1) (h : fX9_findWays_B2 n m1 w = some o) (hn : ∀ w, o = Sum.inl w → zr kX9_findWays 0 6 2 [some (.ref 38), some (.ref m1), some (.int w.1)] [] (zS c w.2) v S') (hx : ∀ w, o = Sum.inr w → (fun w => zr kX9_findWays 0 6 45 [none, none, none] [] (zS c w) v S') w) : zr kX9_findWays 0 6 2 [some (.ref 38), some (.ref m1), some (.int w.1)] [] (zS c w.2) v S' := by
  unfold fX9_findWays_B2 at h
  refine zr_many 2 (pc' := 4) (L' := [some (.ref 38), some (.ref m1), some (.int w.1)]) (st' := [.ref 38, .int w.1]) (S1 := zS c w.2) rfl ?_
  refine zq_get rfl (zh_38 _) rfl rfl rfl ?_
  refine zq_get rfl (zh_5 _) rfl rfl rfl ?_
  refine zq_if2 (b := (w.2.1 5 9) ≤ w.1) rfl Iff.rfl rfl (fun g1 => ?_) (fun g1 => ?_)
  · rw [if_pos g1] at h
    cases h
    exact zr_wk [none, none, none] trivial (hx _ rfl)
  · rw [if_neg g1] at h
    refine zr_many 1 (pc' := 14) (L' := [some (.ref 38), some (.ref m1), some (.int w.1)]) (st' := [.ref 38]) (S1 := zS c w.2) rfl ?_
    refine zq_get rfl (zh_38 _) rfl rfl rfl ?_
    refine zr_many 5 (pc' := 22) (L' := [some (.ref 38), some (.ref m1), some (.int w.1)]) (st' := [.int (1 : Int32), .int w.1, .ref m1, .ref 38, .int w.1, .ref 39]) (S1 := zS c w.2) rfl ?_
    obtain ⟨r2, s3, g4, h⟩ := zb_inv h
    refine zq_call1 rfl rfl (zh_38 _) rfl rfl rfl (tX9_chordAhead hm1 g4) rfl ?_
    obtain ⟨g8, h⟩ := zi_cond_inv h
    refine zq_ist rfl zh_39 rfl g8 rfl ?_
    refine zr_many 1 (pc' := 27) (L' := [some (.ref 38), some (.ref m1), some (.int w.1)]) (st' := [.ref 38]) (S1 := zS c (zsi s3 39 w.1.toNatClampNeg r2)) rfl ?_
    refine zq_get rfl (zh_38 _) rfl rfl rfl ?_
    refine zr_many 5 (pc' := 35) (L' := [some (.ref 38), some (.ref m1), some (.int w.1)]) (st' := [.int (0 : Int32), .int w.1, .ref m1, .ref 38, .int w.1, .ref 40]) (S1 := zS c (zsi s3 39 w.1.toNatClampNeg r2)) rfl ?_
    obtain ⟨r5, s6, g7, h⟩ := zb_inv h
    refine zq_call1 rfl rfl (zh_38 _) rfl rfl rfl (tX9_chordAhead hm1 g7) rfl ?_
    obtain ⟨g9, h⟩ := zi_cond_inv h
    refine zq_ist rfl zh_40 rfl g9 rfl ?_
    refine zr_many 2 (pc' := 2) (L' := [some (.ref 38), some (.ref m1), some (.int (w.1 + (1 : Int32)))]) (st' := []) (S1 := zS c (zsi s6 40 w.1.toNatClampNeg r5)) rfl ?_
    cases h
    exact zr_wk [some (.ref 38), some (.ref m1), some (.int (w.1 + (1 : Int32)))] ⟨rfl, rfl, rfl, trivial⟩ (hn _ rfl)
def fX9_findWays (n : Nat) (s : zs) (m1 : Nat) : Option zs := zp (zl (fX9_findWays_B2 n m1) n ((0 : Int32), s)) (fun w10 => some w10)
theorem tX9_findWays {n : Nat} {c : Nat × Nat} {s : zs} {m1 : Nat} {s' : zs} (hm1 : zM m1) (h : fX9_findWays n s m1 = some s') : zc 7 1808 [.ref 38, .ref m1] (zS c s) none (zS c s') := by
  refine zc_of (k := kX9_findWays) (rt := 0) (L := [some (.ref 38), some (.ref m1), none]) zm_1808.1 rfl rfl (by decide) rfl rfl ?_
  unfold fX9_findWays at h
  refine zr_many 2 (pc' := 2) (L' := [some (.ref 38), some (.ref m1), some (.int (0 : Int32))]) (st' := []) (S1 := zS c s) rfl ?_
  obtain ⟨w10, g11, h⟩ := zp_inv h
  refine zr_wk [some (.ref 38), some (.ref m1), some (.int (0 : Int32))] ⟨rfl, rfl, rfl, trivial⟩ (zl_cert (Z := fun w => zr kX9_findWays 0 6 2 [some (.ref 38), some (.ref m1), some (.int w.1)] [] (zS c w.2) _ _) (Y := (fun w => zr kX9_findWays 0 6 45 [none, none, none] [] (zS c w) _ _)) (fun w o h1 h2 h3 => tX9_findWays_B2 hm1 h1 h2 h3) n _ _ g11 ?_)
  show zr kX9_findWays 0 6 45 [none, none, none] [] (zS c w10) _ _
  cases h
  exact zq_vret rfl
def fX9_keptBy_J113 (n : Nat) (s : zs) (x1 : Int32) (x3 : Int32) (y0 : Int32) (y1 : Int32) : Option ((Int32 × Int32) ⊕ (Int32)) := some (Sum.inl ((y0 + y1), (x3 + (1 : Int32))))
theorem tX9_keptBy_J113 {n : Nat} {c : Nat × Nat} {s : zs} {x1 : Int32} {x3 : Int32} {y0 : Int32} {y1 : Int32} {o : _} {v : Option Value} {S' : zi_S} (h : fX9_keptBy_J113 n s x1 x3 y0 y1 = some o) (hn : ∀ w, o = Sum.inl w → zr kX9_keptBy 1 0 4 [some (.ref 38), some (.int x1), some (.int w.1), some (.int w.2), none, none, none] [] (zS c s) v S') (hx : ∀ w, o = Sum.inr w → (fun w => zr kX9_keptBy 1 0 121 [none, none, some (.int w), none, none, none, none] [] (zS c s) v S') w) : zr kX9_keptBy 1 0 113 [some (.ref 38), some (.int x1), none, some (.int x3), none, none, none] [.int y1, .int y0] (zS c s) v S' := by
  unfold fX9_keptBy_J113 at h
  refine zr_many 4 (pc' := 4) (L' := [some (.ref 38), some (.int x1), some (.int (y0 + y1)), some (.int (x3 + (1 : Int32))), none, none, none]) (st' := []) (S1 := zS c s) rfl ?_
  cases h
  exact zr_wk [some (.ref 38), some (.int x1), some (.int (y0 + y1)), some (.int (x3 + (1 : Int32))), none, none, none] ⟨rfl, rfl, rfl, rfl, trivial⟩ (hn _ rfl)
def fX9_keptBy_J112 (n : Nat) (s : zs) (x1 : Int32) (x3 : Int32) (y0 : Int32) : Option ((Int32 × Int32) ⊕ (Int32)) := fX9_keptBy_J113 n s x1 x3 y0 (0 : Int32)
theorem tX9_keptBy_J112 {n : Nat} {c : Nat × Nat} {s : zs} {x1 : Int32} {x3 : Int32} {y0 : Int32} {o : _} {v : Option Value} {S' : zi_S} (h : fX9_keptBy_J112 n s x1 x3 y0 = some o) (hn : ∀ w, o = Sum.inl w → zr kX9_keptBy 1 0 4 [some (.ref 38), some (.int x1), some (.int w.1), some (.int w.2), none, none, none] [] (zS c s) v S') (hx : ∀ w, o = Sum.inr w → (fun w => zr kX9_keptBy 1 0 121 [none, none, some (.int w), none, none, none, none] [] (zS c s) v S') w) : zr kX9_keptBy 1 0 112 [some (.ref 38), some (.int x1), none, some (.int x3), none, none, none] [.int y0] (zS c s) v S' := by
  unfold fX9_keptBy_J112 at h
  refine zr_many 1 (pc' := 113) (L' := [some (.ref 38), some (.int x1), none, some (.int x3), none, none, none]) (st' := [.int (0 : Int32), .int y0]) (S1 := zS c s) rfl ?_
  exact zr_wk [some (.ref 38), some (.int x1), none, some (.int x3), none, none, none] ⟨rfl, rfl, rfl, trivial⟩ (tX9_keptBy_J113 h hn hx)
def fX9_keptBy_J90 (n : Nat) (s : zs) (x1 : Int32) (x2 : Int32) (x3 : Int32) (x4 : Int32) (x5 : Int32) (y0 : Int32) : Option ((Int32 × Int32) ⊕ (Int32)) := if x4 = 0 then fX9_keptBy_J112 n s x1 x3 x2 else if ¬ x5 = 0 then fX9_keptBy_J112 n s x1 x3 x2 else if ¬ y0 = 0 then fX9_keptBy_J112 n s x1 x3 x2 else fX9_keptBy_J113 n s x1 x3 x2 (1 : Int32)
theorem tX9_keptBy_J90 {n : Nat} {c : Nat × Nat} {s : zs} {x1 : Int32} {x2 : Int32} {x3 : Int32} {x4 : Int32} {x5 : Int32} {y0 : Int32} {o : _} {v : Option Value} {S' : zi_S} (h : fX9_keptBy_J90 n s x1 x2 x3 x4 x5 y0 = some o) (hn : ∀ w, o = Sum.inl w → zr kX9_keptBy 1 0 4 [some (.ref 38), some (.int x1), some (.int w.1), some (.int w.2), none, none, none] [] (zS c s) v S') (hx : ∀ w, o = Sum.inr w → (fun w => zr kX9_keptBy 1 0 121 [none, none, some (.int w), none, none, none, none] [] (zS c s) v S') w) : zr kX9_keptBy 1 0 90 [some (.ref 38), some (.int x1), some (.int x2), some (.int x3), some (.int x4), some (.int x5), none] [.int y0] (zS c s) v S' := by
  unfold fX9_keptBy_J90 at h
  refine zr_many 3 (pc' := 95) (L' := [some (.ref 38), some (.int x1), some (.int x2), some (.int x3), some (.int x4), some (.int x5), some (.int y0)]) (st' := [.int x4, .int x2]) (S1 := zS c s) rfl ?_
  refine zq_if1 (b := x4 = 0) rfl Iff.rfl rfl (fun g9 => ?_) (fun g9 => ?_)
  · rw [if_pos g9] at h
    exact zr_wk [some (.ref 38), some (.int x1), none, some (.int x3), none, none, none] ⟨rfl, rfl, rfl, trivial⟩ (tX9_keptBy_J112 h hn hx)
  · rw [if_neg g9] at h
    refine zr_many 1 (pc' := 100) (L' := [some (.ref 38), some (.int x1), some (.int x2), some (.int x3), some (.int x4), some (.int x5), some (.int y0)]) (st' := [.int x5, .int x2]) (S1 := zS c s) rfl ?_
    refine zq_if1 (b := ¬ x5 = 0) rfl Iff.rfl rfl (fun g10 => ?_) (fun g10 => ?_)
    · rw [if_pos g10] at h
      exact zr_wk [some (.ref 38), some (.int x1), none, some (.int x3), none, none, none] ⟨rfl, rfl, rfl, trivial⟩ (tX9_keptBy_J112 h hn hx)
    · rw [if_neg g10] at h
      refine zr_many 1 (pc' := 105) (L' := [some (.ref 38), some (.int x1), some (.int x2), some (.int x3), some (.int x4), some (.int x5), some (.int y0)]) (st' := [.int y0, .int x2]) (S1 := zS c s) rfl ?_
      refine zq_if1 (b := ¬ y0 = 0) rfl Iff.rfl rfl (fun g11 => ?_) (fun g11 => ?_)
      · rw [if_pos g11] at h
        exact zr_wk [some (.ref 38), some (.int x1), none, some (.int x3), none, none, none] ⟨rfl, rfl, rfl, trivial⟩ (tX9_keptBy_J112 h hn hx)
      · rw [if_neg g11] at h
        refine zr_many 2 (pc' := 113) (L' := [some (.ref 38), some (.int x1), some (.int x2), some (.int x3), some (.int x4), some (.int x5), some (.int y0)]) (st' := [.int (1 : Int32), .int x2]) (S1 := zS c s) rfl ?_
        exact zr_wk [some (.ref 38), some (.int x1), none, some (.int x3), none, none, none] ⟨rfl, rfl, rfl, trivial⟩ (tX9_keptBy_J113 h hn hx)
def fX9_keptBy_J89 (n : Nat) (s : zs) (x1 : Int32) (x2 : Int32) (x3 : Int32) (x4 : Int32) (x5 : Int32) : Option ((Int32 × Int32) ⊕ (Int32)) := fX9_keptBy_J90 n s x1 x2 x3 x4 x5 (0 : Int32)
theorem tX9_keptBy_J89 {n : Nat} {c : Nat × Nat} {s : zs} {x1 : Int32} {x2 : Int32} {x3 : Int32} {x4 : Int32} {x5 : Int32} {o : _} {v : Option Value} {S' : zi_S} (h : fX9_keptBy_J89 n s x1 x2 x3 x4 x5 = some o) (hn : ∀ w, o = Sum.inl w → zr kX9_keptBy 1 0 4 [some (.ref 38), some (.int x1), some (.int w.1), some (.int w.2), none, none, none] [] (zS c s) v S') (hx : ∀ w, o = Sum.inr w → (fun w => zr kX9_keptBy 1 0 121 [none, none, some (.int w), none, none, none, none] [] (zS c s) v S') w) : zr kX9_keptBy 1 0 89 [some (.ref 38), some (.int x1), some (.int x2), some (.int x3), some (.int x4), some (.int x5), none] [] (zS c s) v S' := by
  unfold fX9_keptBy_J89 at h
  refine zr_many 1 (pc' := 90) (L' := [some (.ref 38), some (.int x1), some (.int x2), some (.int x3), some (.int x4), some (.int x5), none]) (st' := [.int (0 : Int32)]) (S1 := zS c s) rfl ?_
  exact zr_wk [some (.ref 38), some (.int x1), some (.int x2), some (.int x3), some (.int x4), some (.int x5), none] ⟨rfl, rfl, rfl, rfl, rfl, rfl, trivial⟩ (tX9_keptBy_J90 h hn hx)
def fX9_keptBy_J63 (n : Nat) (s : zs) (x1 : Int32) (x2 : Int32) (x3 : Int32) (x4 : Int32) (y0 : Int32) : Option ((Int32 × Int32) ⊕ (Int32)) := cond (zi_in x3 4) (if (s.1 40 x3.toNatClampNeg) = 0 then fX9_keptBy_J89 n s x1 x2 x3 x4 y0 else cond (zi_in x3 4) (if ¬ ((s.1 40 x3.toNatClampNeg) &&& x1) = 0 then fX9_keptBy_J89 n s x1 x2 x3 x4 y0 else fX9_keptBy_J90 n s x1 x2 x3 x4 y0 (1 : Int32)) none) none
theorem tX9_keptBy_J63 {n : Nat} {c : Nat × Nat} {s : zs} {x1 : Int32} {x2 : Int32} {x3 : Int32} {x4 : Int32} {y0 : Int32} {o : _} {v : Option Value} {S' : zi_S} (h : fX9_keptBy_J63 n s x1 x2 x3 x4 y0 = some o) (hn : ∀ w, o = Sum.inl w → zr kX9_keptBy 1 0 4 [some (.ref 38), some (.int x1), some (.int w.1), some (.int w.2), none, none, none] [] (zS c s) v S') (hx : ∀ w, o = Sum.inr w → (fun w => zr kX9_keptBy 1 0 121 [none, none, some (.int w), none, none, none, none] [] (zS c s) v S') w) : zr kX9_keptBy 1 0 63 [some (.ref 38), some (.int x1), some (.int x2), some (.int x3), some (.int x4), none, none] [.int y0] (zS c s) v S' := by
  unfold fX9_keptBy_J63 at h
  refine zr_many 2 (pc' := 66) (L' := [some (.ref 38), some (.int x1), some (.int x2), some (.int x3), some (.int x4), some (.int y0), none]) (st' := [.ref 38]) (S1 := zS c s) rfl ?_
  refine zq_get rfl (zh_38 _) rfl rfl rfl ?_
  refine zr_many 1 (pc' := 70) (L' := [some (.ref 38), some (.int x1), some (.int x2), some (.int x3), some (.int x4), some (.int y0), none]) (st' := [.int x3, .ref 40]) (S1 := zS c s) rfl ?_
  obtain ⟨g7, h⟩ := zi_cond_inv h
  refine zq_ild rfl (zh_40 _) rfl g7 rfl ?_
  refine zq_if1 (b := (s.1 40 x3.toNatClampNeg) = 0) rfl Iff.rfl rfl (fun g8 => ?_) (fun g8 => ?_)
  · rw [if_pos g8] at h
    exact zr_wk [some (.ref 38), some (.int x1), some (.int x2), some (.int x3), some (.int x4), some (.int y0), none] ⟨rfl, rfl, rfl, rfl, rfl, rfl, trivial⟩ (tX9_keptBy_J89 h hn hx)
  · rw [if_neg g8] at h
    refine zr_many 1 (pc' := 75) (L' := [some (.ref 38), some (.int x1), some (.int x2), some (.int x3), some (.int x4), some (.int y0), none]) (st' := [.ref 38]) (S1 := zS c s) rfl ?_
    refine zq_get rfl (zh_38 _) rfl rfl rfl ?_
    refine zr_many 1 (pc' := 79) (L' := [some (.ref 38), some (.int x1), some (.int x2), some (.int x3), some (.int x4), some (.int y0), none]) (st' := [.int x3, .ref 40]) (S1 := zS c s) rfl ?_
    obtain ⟨g12, h⟩ := zi_cond_inv h
    refine zq_ild rfl (zh_40 _) rfl g12 rfl ?_
    refine zr_many 2 (pc' := 82) (L' := [some (.ref 38), some (.int x1), some (.int x2), some (.int x3), some (.int x4), some (.int y0), none]) (st' := [.int ((s.1 40 x3.toNatClampNeg) &&& x1)]) (S1 := zS c s) rfl ?_
    refine zq_if1 (b := ¬ ((s.1 40 x3.toNatClampNeg) &&& x1) = 0) rfl Iff.rfl rfl (fun g13 => ?_) (fun g13 => ?_)
    · rw [if_pos g13] at h
      exact zr_wk [some (.ref 38), some (.int x1), some (.int x2), some (.int x3), some (.int x4), some (.int y0), none] ⟨rfl, rfl, rfl, rfl, rfl, rfl, trivial⟩ (tX9_keptBy_J89 h hn hx)
    · rw [if_neg g13] at h
      refine zr_many 2 (pc' := 90) (L' := [some (.ref 38), some (.int x1), some (.int x2), some (.int x3), some (.int x4), some (.int y0), none]) (st' := [.int (1 : Int32)]) (S1 := zS c s) rfl ?_
      exact zr_wk [some (.ref 38), some (.int x1), some (.int x2), some (.int x3), some (.int x4), some (.int y0), none] ⟨rfl, rfl, rfl, rfl, rfl, rfl, trivial⟩ (tX9_keptBy_J90 h hn hx)
def fX9_keptBy_J62 (n : Nat) (s : zs) (x1 : Int32) (x2 : Int32) (x3 : Int32) (x4 : Int32) : Option ((Int32 × Int32) ⊕ (Int32)) := fX9_keptBy_J63 n s x1 x2 x3 x4 (0 : Int32)
theorem tX9_keptBy_J62 {n : Nat} {c : Nat × Nat} {s : zs} {x1 : Int32} {x2 : Int32} {x3 : Int32} {x4 : Int32} {o : _} {v : Option Value} {S' : zi_S} (h : fX9_keptBy_J62 n s x1 x2 x3 x4 = some o) (hn : ∀ w, o = Sum.inl w → zr kX9_keptBy 1 0 4 [some (.ref 38), some (.int x1), some (.int w.1), some (.int w.2), none, none, none] [] (zS c s) v S') (hx : ∀ w, o = Sum.inr w → (fun w => zr kX9_keptBy 1 0 121 [none, none, some (.int w), none, none, none, none] [] (zS c s) v S') w) : zr kX9_keptBy 1 0 62 [some (.ref 38), some (.int x1), some (.int x2), some (.int x3), some (.int x4), none, none] [] (zS c s) v S' := by
  unfold fX9_keptBy_J62 at h
  refine zr_many 1 (pc' := 63) (L' := [some (.ref 38), some (.int x1), some (.int x2), some (.int x3), some (.int x4), none, none]) (st' := [.int (0 : Int32)]) (S1 := zS c s) rfl ?_
  exact zr_wk [some (.ref 38), some (.int x1), some (.int x2), some (.int x3), some (.int x4), none, none] ⟨rfl, rfl, rfl, rfl, rfl, trivial⟩ (tX9_keptBy_J63 h hn hx)
def fX9_keptBy_J36 (n : Nat) (s : zs) (x1 : Int32) (x2 : Int32) (x3 : Int32) (y0 : Int32) : Option ((Int32 × Int32) ⊕ (Int32)) := cond (zi_in x3 4) (if (s.1 39 x3.toNatClampNeg) = 0 then fX9_keptBy_J62 n s x1 x2 x3 y0 else cond (zi_in x3 4) (if ¬ ((s.1 39 x3.toNatClampNeg) &&& x1) = 0 then fX9_keptBy_J62 n s x1 x2 x3 y0 else fX9_keptBy_J63 n s x1 x2 x3 y0 (1 : Int32)) none) none
theorem tX9_keptBy_J36 {n : Nat} {c : Nat × Nat} {s : zs} {x1 : Int32} {x2 : Int32} {x3 : Int32} {y0 : Int32} {o : _} {v : Option Value} {S' : zi_S} (h : fX9_keptBy_J36 n s x1 x2 x3 y0 = some o) (hn : ∀ w, o = Sum.inl w → zr kX9_keptBy 1 0 4 [some (.ref 38), some (.int x1), some (.int w.1), some (.int w.2), none, none, none] [] (zS c s) v S') (hx : ∀ w, o = Sum.inr w → (fun w => zr kX9_keptBy 1 0 121 [none, none, some (.int w), none, none, none, none] [] (zS c s) v S') w) : zr kX9_keptBy 1 0 36 [some (.ref 38), some (.int x1), some (.int x2), some (.int x3), none, none, none] [.int y0] (zS c s) v S' := by
  unfold fX9_keptBy_J36 at h
  refine zr_many 2 (pc' := 39) (L' := [some (.ref 38), some (.int x1), some (.int x2), some (.int x3), some (.int y0), none, none]) (st' := [.ref 38]) (S1 := zS c s) rfl ?_
  refine zq_get rfl (zh_38 _) rfl rfl rfl ?_
  refine zr_many 1 (pc' := 43) (L' := [some (.ref 38), some (.int x1), some (.int x2), some (.int x3), some (.int y0), none, none]) (st' := [.int x3, .ref 39]) (S1 := zS c s) rfl ?_
  obtain ⟨g5, h⟩ := zi_cond_inv h
  refine zq_ild rfl (zh_39 _) rfl g5 rfl ?_
  refine zq_if1 (b := (s.1 39 x3.toNatClampNeg) = 0) rfl Iff.rfl rfl (fun g6 => ?_) (fun g6 => ?_)
  · rw [if_pos g6] at h
    exact zr_wk [some (.ref 38), some (.int x1), some (.int x2), some (.int x3), some (.int y0), none, none] ⟨rfl, rfl, rfl, rfl, rfl, trivial⟩ (tX9_keptBy_J62 h hn hx)
  · rw [if_neg g6] at h
    refine zr_many 1 (pc' := 48) (L' := [some (.ref 38), some (.int x1), some (.int x2), some (.int x3), some (.int y0), none, none]) (st' := [.ref 38]) (S1 := zS c s) rfl ?_
    refine zq_get rfl (zh_38 _) rfl rfl rfl ?_
    refine zr_many 1 (pc' := 52) (L' := [some (.ref 38), some (.int x1), some (.int x2), some (.int x3), some (.int y0), none, none]) (st' := [.int x3, .ref 39]) (S1 := zS c s) rfl ?_
    obtain ⟨g14, h⟩ := zi_cond_inv h
    refine zq_ild rfl (zh_39 _) rfl g14 rfl ?_
    refine zr_many 2 (pc' := 55) (L' := [some (.ref 38), some (.int x1), some (.int x2), some (.int x3), some (.int y0), none, none]) (st' := [.int ((s.1 39 x3.toNatClampNeg) &&& x1)]) (S1 := zS c s) rfl ?_
    refine zq_if1 (b := ¬ ((s.1 39 x3.toNatClampNeg) &&& x1) = 0) rfl Iff.rfl rfl (fun g15 => ?_) (fun g15 => ?_)
    · rw [if_pos g15] at h
      exact zr_wk [some (.ref 38), some (.int x1), some (.int x2), some (.int x3), some (.int y0), none, none] ⟨rfl, rfl, rfl, rfl, rfl, trivial⟩ (tX9_keptBy_J62 h hn hx)
    · rw [if_neg g15] at h
      refine zr_many 2 (pc' := 63) (L' := [some (.ref 38), some (.int x1), some (.int x2), some (.int x3), some (.int y0), none, none]) (st' := [.int (1 : Int32)]) (S1 := zS c s) rfl ?_
      exact zr_wk [some (.ref 38), some (.int x1), some (.int x2), some (.int x3), some (.int y0), none, none] ⟨rfl, rfl, rfl, rfl, rfl, trivial⟩ (tX9_keptBy_J63 h hn hx)
def fX9_keptBy_B4 (n : Nat) (s : zs) (x1 : Int32) (w : Int32 × Int32) : Option ((Int32 × Int32) ⊕ (Int32)) := if (s.1 5 9) ≤ w.2 then some (Sum.inr w.1) else cond (zi_in w.2 4) (cond (zi_in w.2 4) (if ((s.1 39 w.2.toNatClampNeg) ||| (s.1 40 w.2.toNatClampNeg)) = 0 then fX9_keptBy_J36 n s x1 w.1 w.2 (0 : Int32) else fX9_keptBy_J36 n s x1 w.1 w.2 (1 : Int32)) none) none
theorem tX9_keptBy_B4 {n : Nat} {c : Nat × Nat} {s : zs} {x1 : Int32} {w : Int32 × Int32} {o : _} {v : Option Value} {S' : zi_S} (h : fX9_keptBy_B4 n s x1 w = some o) (hn : ∀ w, o = Sum.inl w → zr kX9_keptBy 1 0 4 [some (.ref 38), some (.int x1), some (.int w.1), some (.int w.2), none, none, none] [] (zS c s) v S') (hx : ∀ w, o = Sum.inr w → (fun w => zr kX9_keptBy 1 0 121 [none, none, some (.int w), none, none, none, none] [] (zS c s) v S') w) : zr kX9_keptBy 1 0 4 [some (.ref 38), some (.int x1), some (.int w.1), some (.int w.2), none, none, none] [] (zS c s) v S' := by
  unfold fX9_keptBy_B4 at h
  refine zr_many 2 (pc' := 6) (L' := [some (.ref 38), some (.int x1), some (.int w.1), some (.int w.2), none, none, none]) (st' := [.ref 38, .int w.2]) (S1 := zS c s) rfl ?_
  refine zq_get rfl (zh_38 _) rfl rfl rfl ?_
  refine zq_get rfl (zh_5 _) rfl rfl rfl ?_
  refine zq_if2 (b := (s.1 5 9) ≤ w.2) rfl Iff.rfl rfl (fun g1 => ?_) (fun g1 => ?_)
  · rw [if_pos g1] at h
    cases h
    exact zr_wk [none, none, some (.int w.1), none, none, none, none] ⟨rfl, trivial⟩ (hx _ rfl)
  · rw [if_neg g1] at h
    refine zr_many 1 (pc' := 16) (L' := [some (.ref 38), some (.int x1), some (.int w.1), some (.int w.2), none, none, none]) (st' := [.ref 38]) (S1 := zS c s) rfl ?_
    refine zq_get rfl (zh_38 _) rfl rfl rfl ?_
    refine zr_many 1 (pc' := 20) (L' := [some (.ref 38), some (.int x1), some (.int w.1), some (.int w.2), none, none, none]) (st' := [.int w.2, .ref 39]) (S1 := zS c s) rfl ?_
    obtain ⟨g2, h⟩ := zi_cond_inv h
    refine zq_ild rfl (zh_39 _) rfl g2 rfl ?_
    refine zr_many 1 (pc' := 22) (L' := [some (.ref 38), some (.int x1), some (.int w.1), some (.int w.2), none, none, none]) (st' := [.ref 38, .int (s.1 39 w.2.toNatClampNeg)]) (S1 := zS c s) rfl ?_
    refine zq_get rfl (zh_38 _) rfl rfl rfl ?_
    refine zr_many 1 (pc' := 26) (L' := [some (.ref 38), some (.int x1), some (.int w.1), some (.int w.2), none, none, none]) (st' := [.int w.2, .ref 40, .int (s.1 39 w.2.toNatClampNeg)]) (S1 := zS c s) rfl ?_
    obtain ⟨g3, h⟩ := zi_cond_inv h
    refine zq_ild rfl (zh_40 _) rfl g3 rfl ?_
    refine zr_many 1 (pc' := 28) (L' := [some (.ref 38), some (.int x1), some (.int w.1), some (.int w.2), none, none, none]) (st' := [.int ((s.1 39 w.2.toNatClampNeg) ||| (s.1 40 w.2.toNatClampNeg))]) (S1 := zS c s) rfl ?_
    refine zq_if1 (b := ((s.1 39 w.2.toNatClampNeg) ||| (s.1 40 w.2.toNatClampNeg)) = 0) rfl Iff.rfl rfl (fun g4 => ?_) (fun g4 => ?_)
    · rw [if_pos g4] at h
      refine zr_many 1 (pc' := 36) (L' := [some (.ref 38), some (.int x1), some (.int w.1), some (.int w.2), none, none, none]) (st' := [.int (0 : Int32)]) (S1 := zS c s) rfl ?_
      exact zr_wk [some (.ref 38), some (.int x1), some (.int w.1), some (.int w.2), none, none, none] ⟨rfl, rfl, rfl, rfl, trivial⟩ (tX9_keptBy_J36 h hn hx)
    · rw [if_neg g4] at h
      refine zr_many 2 (pc' := 36) (L' := [some (.ref 38), some (.int x1), some (.int w.1), some (.int w.2), none, none, none]) (st' := [.int (1 : Int32)]) (S1 := zS c s) rfl ?_
      exact zr_wk [some (.ref 38), some (.int x1), some (.int w.1), some (.int w.2), none, none, none] ⟨rfl, rfl, rfl, rfl, trivial⟩ (tX9_keptBy_J36 h hn hx)
def fX9_keptBy (n : Nat) (s : zs) (x1 : Int32) : Option Int32 := zp (zl (fX9_keptBy_B4 n s x1) n ((0 : Int32), (0 : Int32))) (fun w16 => some w16)
theorem tX9_keptBy {n : Nat} {c : Nat × Nat} {s : zs} {x1 : Int32} {r : Int32} (h : fX9_keptBy n s x1 = some r) : zc 1 1810 [.ref 38, .int x1] (zS c s) (some (.int r)) (zS c s) := by
  refine zc_of (k := kX9_keptBy) (rt := 1) (L := [some (.ref 38), some (.int x1), none, none, none, none, none]) zm_1810.1 rfl rfl (by decide) rfl rfl ?_
  unfold fX9_keptBy at h
  refine zr_many 4 (pc' := 4) (L' := [some (.ref 38), some (.int x1), some (.int (0 : Int32)), some (.int (0 : Int32)), none, none, none]) (st' := []) (S1 := zS c s) rfl ?_
  obtain ⟨w16, g17, h⟩ := zp_inv h
  refine zr_wk [some (.ref 38), some (.int x1), some (.int (0 : Int32)), some (.int (0 : Int32)), none, none, none] ⟨rfl, rfl, rfl, rfl, trivial⟩ (zl_cert (Z := fun w => zr kX9_keptBy 1 0 4 [some (.ref 38), some (.int x1), some (.int w.1), some (.int w.2), none, none, none] [] (zS c s) _ _) (Y := (fun w => zr kX9_keptBy 1 0 121 [none, none, some (.int w), none, none, none, none] [] (zS c s) _ _)) (fun w o h1 h2 h3 => tX9_keptBy_B4 h1 h2 h3) n _ _ g17 ?_)
  show zr kX9_keptBy 1 0 121 [none, none, some (.int w16), none, none, none, none] [] (zS c s) _ _
  refine zr_many 1 (pc' := 122) (L' := [none, none, some (.int w16), none, none, none, none]) (st' := [.int w16]) (S1 := zS c s) rfl ?_
  cases h
  exact zq_iret rfl
def fX10_read_J112 (n : Nat) (s : zs) (x2 : Int32) : Option ((Int32 × zs) ⊕ ((Int32 × zs) ⊕ (zs))) := some (Sum.inl ((x2 + (1 : Int32)), s))
theorem tX10_read_J112 {n : Nat} {c : Nat × Nat} {s : zs} {x2 : Int32} {o : _} {v : Option Value} {S' : zi_S} (h : fX10_read_J112 n s x2 = some o) (hn : ∀ w, o = Sum.inl w → zr kX10_read 1 2 18 [some (.ref 45), some (.ref 1), some (.int w.1)] [] (zS c w.2) v S') (hx : ∀ w, o = Sum.inr w → (Sum.elim (fun w => zr kX10_read 1 2 92 [none, some (.ref 1), some (.int w.1)] [] (zS c w.2) v S') (fun w => zr kX10_read 1 2 118 [none, some (.ref 1), none] [] (zS c w) v S')) w) : zr kX10_read 1 2 112 [some (.ref 45), some (.ref 1), some (.int x2)] [] (zS c s) v S' := by
  unfold fX10_read_J112 at h
  refine zr_many 2 (pc' := 18) (L' := [some (.ref 45), some (.ref 1), some (.int (x2 + (1 : Int32)))]) (st' := []) (S1 := zS c s) rfl ?_
  cases h
  exact zr_wk [some (.ref 45), some (.ref 1), some (.int (x2 + (1 : Int32)))] ⟨rfl, rfl, rfl, trivial⟩ (hn _ rfl)
def fX10_read_B18 (n : Nat) (w : Int32 × zs) : Option ((Int32 × zs) ⊕ ((Int32 × zs) ⊕ (zs))) := if (14 : Int32) ≤ w.1 then some (Sum.inr (Sum.inr w.2)) else zb (fX8_take n w.2 (117 : Int32) (117 : Int32)) (fun r5 s6 => if r5 < 0 then zb (fX8_take n s6 (100 : Int32) (100 : Int32)) (fun r9 s10 => if r9 < 0 then some (Sum.inr (Sum.inl (w.1, s10))) else cond (zi_in (s10.1 45 4) 14) (fX10_read_J112 n (zsi (zsi s10 47 (s10.1 45 4).toNatClampNeg w.1) 45 4 (((zsi s10 47 (s10.1 45 4).toNatClampNeg w.1).1 45 4) + (1 : Int32))) w.1) none) else cond (zi_in (s6.1 45 3) 14) (fX10_read_J112 n (zsi (zsi s6 46 (s6.1 45 3).toNatClampNeg w.1) 45 3 (((zsi s6 46 (s6.1 45 3).toNatClampNeg w.1).1 45 3) + (1 : Int32))) w.1) none)
theorem tX10_read_B18 {n : Nat} {c : Nat × Nat} {w : Int32 × zs} {o : _} {v : Option Value} {S' : zi_S} (h : fX10_read_B18 n w = some o) (hn : ∀ w, o = Sum.inl w → zr kX10_read 1 2 18 [some (.ref 45), some (.ref 1), some (.int w.1)] [] (zS c w.2) v S') (hx : ∀ w, o = Sum.inr w → (Sum.elim (fun w => zr kX10_read 1 2 92 [none, some (.ref 1), some (.int w.1)] [] (zS c w.2) v S') (fun w => zr kX10_read 1 2 118 [none, some (.ref 1), none] [] (zS c w) v S')) w) : zr kX10_read 1 2 18 [some (.ref 45), some (.ref 1), some (.int w.1)] [] (zS c w.2) v S' := by
  unfold fX10_read_B18 at h
  refine zr_many 2 (pc' := 21) (L' := [some (.ref 45), some (.ref 1), some (.int w.1)]) (st' := [.int (14 : Int32), .int w.1]) (S1 := zS c w.2) rfl ?_
  refine zq_if2 (b := (14 : Int32) ≤ w.1) rfl Iff.rfl rfl (fun g4 => ?_) (fun g4 => ?_)
  · rw [if_pos g4] at h
    cases h
    exact zr_wk [none, some (.ref 1), none] ⟨rfl, trivial⟩ (hx _ rfl)
  · rw [if_neg g4] at h
    refine zr_many 3 (pc' := 29) (L' := [some (.ref 45), some (.ref 1), some (.int w.1)]) (st' := [.int (117 : Int32), .int (117 : Int32), .ref 1]) (S1 := zS c w.2) rfl ?_
    obtain ⟨r5, s6, g7, h⟩ := zb_inv h
    refine zq_call1 rfl rfl (zh_1 _) rfl rfl rfl (tX8_take g7) rfl ?_
    refine zq_if1 (b := r5 < 0) rfl Iff.rfl rfl (fun g8 => ?_) (fun g8 => ?_)
    · rw [if_pos g8] at h
      refine zr_many 3 (pc' := 63) (L' := [some (.ref 45), some (.ref 1), some (.int w.1)]) (st' := [.int (100 : Int32), .int (100 : Int32), .ref 1]) (S1 := zS c s6) rfl ?_
      obtain ⟨r9, s10, g11, h⟩ := zb_inv h
      refine zq_call1 rfl rfl (zh_1 _) rfl rfl rfl (tX8_take g11) rfl ?_
      refine zq_if1 (b := r9 < 0) rfl Iff.rfl rfl (fun g12 => ?_) (fun g12 => ?_)
      · rw [if_pos g12] at h
        cases h
        exact zr_wk [none, some (.ref 1), some (.int w.1)] ⟨rfl, rfl, trivial⟩ (hx _ rfl)
      · rw [if_neg g12] at h
        refine zr_many 1 (pc' := 70) (L' := [some (.ref 45), some (.ref 1), some (.int w.1)]) (st' := [.ref 45]) (S1 := zS c s10) rfl ?_
        refine zq_get rfl (zh_45 _) rfl rfl rfl ?_
        refine zr_many 1 (pc' := 74) (L' := [some (.ref 45), some (.ref 1), some (.int w.1)]) (st' := [.ref 45, .ref 47]) (S1 := zS c s10) rfl ?_
        refine zq_get rfl (zh_45 _) rfl rfl rfl ?_
        refine zr_many 1 (pc' := 78) (L' := [some (.ref 45), some (.ref 1), some (.int w.1)]) (st' := [.int w.1, .int (s10.1 45 4), .ref 47]) (S1 := zS c s10) rfl ?_
        obtain ⟨g13, h⟩ := zi_cond_inv h
        refine zq_ist rfl zh_47 rfl g13 rfl ?_
        refine zr_many 2 (pc' := 81) (L' := [some (.ref 45), some (.ref 1), some (.int w.1)]) (st' := [.ref 45, .ref 45]) (S1 := zS c (zsi s10 47 (s10.1 45 4).toNatClampNeg w.1)) rfl ?_
        refine zq_get rfl (zh_45 _) rfl rfl rfl ?_
        refine zr_many 2 (pc' := 86) (L' := [some (.ref 45), some (.ref 1), some (.int w.1)]) (st' := [.int (((zsi s10 47 (s10.1 45 4).toNatClampNeg w.1).1 45 4) + (1 : Int32)), .ref 45]) (S1 := zS c (zsi s10 47 (s10.1 45 4).toNatClampNeg w.1)) rfl ?_
        refine zq_put (s' := (zsi (zsi s10 47 (s10.1 45 4).toNatClampNeg w.1) 45 4 (((zsi s10 47 (s10.1 45 4).toNatClampNeg w.1).1 45 4) + (1 : Int32)))) rfl (zh_45 _) rfl rfl rfl rfl zsi_ne rfl ?_
        refine zr_many 1 (pc' := 112) (L' := [some (.ref 45), some (.ref 1), some (.int w.1)]) (st' := []) (S1 := zS c (zsi (zsi s10 47 (s10.1 45 4).toNatClampNeg w.1) 45 4 (((zsi s10 47 (s10.1 45 4).toNatClampNeg w.1).1 45 4) + (1 : Int32)))) rfl ?_
        exact zr_wk [some (.ref 45), some (.ref 1), some (.int w.1)] ⟨rfl, rfl, rfl, trivial⟩ (tX10_read_J112 h hn hx)
    · rw [if_neg g8] at h
      refine zr_many 1 (pc' := 36) (L' := [some (.ref 45), some (.ref 1), some (.int w.1)]) (st' := [.ref 45]) (S1 := zS c s6) rfl ?_
      refine zq_get rfl (zh_45 _) rfl rfl rfl ?_
      refine zr_many 1 (pc' := 40) (L' := [some (.ref 45), some (.ref 1), some (.int w.1)]) (st' := [.ref 45, .ref 46]) (S1 := zS c s6) rfl ?_
      refine zq_get rfl (zh_45 _) rfl rfl rfl ?_
      refine zr_many 1 (pc' := 44) (L' := [some (.ref 45), some (.ref 1), some (.int w.1)]) (st' := [.int w.1, .int (s6.1 45 3), .ref 46]) (S1 := zS c s6) rfl ?_
      obtain ⟨g14, h⟩ := zi_cond_inv h
      refine zq_ist rfl zh_46 rfl g14 rfl ?_
      refine zr_many 2 (pc' := 47) (L' := [some (.ref 45), some (.ref 1), some (.int w.1)]) (st' := [.ref 45, .ref 45]) (S1 := zS c (zsi s6 46 (s6.1 45 3).toNatClampNeg w.1)) rfl ?_
      refine zq_get rfl (zh_45 _) rfl rfl rfl ?_
      refine zr_many 2 (pc' := 52) (L' := [some (.ref 45), some (.ref 1), some (.int w.1)]) (st' := [.int (((zsi s6 46 (s6.1 45 3).toNatClampNeg w.1).1 45 3) + (1 : Int32)), .ref 45]) (S1 := zS c (zsi s6 46 (s6.1 45 3).toNatClampNeg w.1)) rfl ?_
      refine zq_put (s' := (zsi (zsi s6 46 (s6.1 45 3).toNatClampNeg w.1) 45 3 (((zsi s6 46 (s6.1 45 3).toNatClampNeg w.1).1 45 3) + (1 : Int32)))) rfl (zh_45 _) rfl rfl rfl rfl zsi_ne rfl ?_
      refine zr_many 1 (pc' := 112) (L' := [some (.ref 45), some (.ref 1), some (.int w.1)]) (st' := []) (S1 := zS c (zsi (zsi s6 46 (s6.1 45 3).toNatClampNeg w.1) 45 3 (((zsi s6 46 (s6.1 45 3).toNatClampNeg w.1).1 45 3) + (1 : Int32)))) rfl ?_
      exact zr_wk [some (.ref 45), some (.ref 1), some (.int w.1)] ⟨rfl, rfl, rfl, trivial⟩ (tX10_read_J112 h hn hx)
def fX10_read_J111 (n : Nat) (s : zs) (y0 : Int32) : Option (Int32 × zs) := some (y0, s)
theorem tX10_read_J111 {n : Nat} {c : Nat × Nat} {s : zs} {y0 : Int32} {r : Int32} {s' : zs} (h : fX10_read_J111 n s y0 = some (r, s')) : zr kX10_read 1 2 111 [none, none, none] [.int y0] (zS c s) (some (.int r)) (zS c s') := by
  unfold fX10_read_J111 at h
  cases h
  exact zq_iret rfl
def fX10_read_J107 (n : Nat) (s : zs) : Option (Int32 × zs) := zp (fX8_fault n s) (fun r17 => fX10_read_J111 n s r17)
theorem tX10_read_J107 {n : Nat} {c : Nat × Nat} {s : zs} {r : Int32} {s' : zs} (h : fX10_read_J107 n s = some (r, s')) : zr kX10_read 1 2 107 [none, some (.ref 1), none] [] (zS c s) (some (.int r)) (zS c s') := by
  unfold fX10_read_J107 at h
  refine zr_many 1 (pc' := 108) (L' := [none, some (.ref 1), none]) (st' := [.ref 1]) (S1 := zS c s) rfl ?_
  obtain ⟨r17, g19, h⟩ := zp_inv h
  refine zq_call1 rfl rfl (zh_1 _) rfl rfl rfl ((tX8_fault g19).up (by decide)) rfl ?_
  exact zr_wk [none, none, none] trivial (tX10_read_J111 h)
def fX10_read_J133 (n : Nat) (s : zs) (y0 : Int32) : Option (Int32 × zs) := some (y0, s)
theorem tX10_read_J133 {n : Nat} {c : Nat × Nat} {s : zs} {y0 : Int32} {r : Int32} {s' : zs} (h : fX10_read_J133 n s y0 = some (r, s')) : zr kX10_read 1 2 133 [none, none, none] [.int y0] (zS c s) (some (.int r)) (zS c s') := by
  unfold fX10_read_J133 at h
  cases h
  exact zq_iret rfl
def fX10_read (n : Nat) (s : zs) : Option (Int32 × zs) := zp (fX8_open n s (14 : Int32)) (fun s2 => zw (zl (fX10_read_B18 n) n ((0 : Int32), (zsi (zsi s2 45 3 (0 : Int32)) 45 4 (0 : Int32)))) (fun w15 => if w15.1 ≤ 0 then fX10_read_J107 n w15.2 else zp (fX8_over n w15.2) (fun r20 => if r20 = 0 then fX10_read_J107 n w15.2 else fX10_read_J111 n w15.2 (0 : Int32))) (fun w24 => zp (fX8_over n w24) (fun r25 => if r25 = 0 then zp (fX8_fault n w24) (fun r29 => fX10_read_J133 n w24 r29) else fX10_read_J133 n w24 (0 : Int32))))
theorem tX10_read {n : Nat} {c : Nat × Nat} {s : zs} {r : Int32} {s' : zs} (h : fX10_read n s = some (r, s')) : zc 3 2001 [.ref 45, .ref 1] (zS c s) (some (.int r)) (zS c s') := by
  refine zc_of (k := kX10_read) (rt := 1) (L := [some (.ref 45), some (.ref 1), none]) zm_2001.1 rfl rfl (by decide) rfl rfl ?_
  unfold fX10_read at h
  refine zr_many 2 (pc' := 3) (L' := [some (.ref 45), some (.ref 1), none]) (st' := [.int (14 : Int32), .ref 1]) (S1 := zS c s) rfl ?_
  obtain ⟨s2, g3, h⟩ := zp_inv h
  refine zq_call0 rfl rfl (zh_1 _) rfl rfl rfl ((tX8_open g3).up (by decide)) rfl ?_
  refine zr_many 2 (pc' := 8) (L' := [some (.ref 45), some (.ref 1), none]) (st' := [.int (0 : Int32), .ref 45]) (S1 := zS c s2) rfl ?_
  refine zq_put (s' := (zsi s2 45 3 (0 : Int32))) rfl (zh_45 _) rfl rfl rfl rfl zsi_ne rfl ?_
  refine zr_many 2 (pc' := 13) (L' := [some (.ref 45), some (.ref 1), none]) (st' := [.int (0 : Int32), .ref 45]) (S1 := zS c (zsi s2 45 3 (0 : Int32))) rfl ?_
  refine zq_put (s' := (zsi (zsi s2 45 3 (0 : Int32)) 45 4 (0 : Int32))) rfl (zh_45 _) rfl rfl rfl rfl zsi_ne rfl ?_
  refine zr_many 2 (pc' := 18) (L' := [some (.ref 45), some (.ref 1), some (.int (0 : Int32))]) (st' := []) (S1 := zS c (zsi (zsi s2 45 3 (0 : Int32)) 45 4 (0 : Int32))) rfl ?_
  rcases zw_inv h with ⟨w15, g32, h⟩ | ⟨w24, g32, h⟩
  · skip
    refine zr_wk [some (.ref 45), some (.ref 1), some (.int (0 : Int32))] ⟨rfl, rfl, rfl, trivial⟩ (zl_cert (Z := fun w => zr kX10_read 1 2 18 [some (.ref 45), some (.ref 1), some (.int w.1)] [] (zS c w.2) _ _) (Y := (Sum.elim (fun w => zr kX10_read 1 2 92 [none, some (.ref 1), some (.int w.1)] [] (zS c w.2) _ _) (fun w => zr kX10_read 1 2 118 [none, some (.ref 1), none] [] (zS c w) _ _))) (fun w o h1 h2 h3 => tX10_read_B18 h1 h2 h3) n _ _ g32 ?_)
    show zr kX10_read 1 2 92 [none, some (.ref 1), some (.int w15.1)] [] (zS c w15.2) _ _
    refine zr_many 1 (pc' := 93) (L' := [none, some (.ref 1), some (.int w15.1)]) (st' := [.int w15.1]) (S1 := zS c w15.2) rfl ?_
    refine zq_if1 (b := w15.1 ≤ 0) rfl Iff.rfl rfl (fun g16 => ?_) (fun g16 => ?_)
    · rw [if_pos g16] at h
      exact zr_wk [none, some (.ref 1), none] ⟨rfl, trivial⟩ (tX10_read_J107 h)
    · rw [if_neg g16] at h
      refine zr_many 1 (pc' := 97) (L' := [none, some (.ref 1), some (.int w15.1)]) (st' := [.ref 1]) (S1 := zS c w15.2) rfl ?_
      obtain ⟨r20, g22, h⟩ := zp_inv h
      refine zq_call1 rfl rfl (zh_1 _) rfl rfl rfl ((tX8_over g22).up (by decide)) rfl ?_
      refine zq_if1 (b := r20 = 0) rfl Iff.rfl rfl (fun g23 => ?_) (fun g23 => ?_)
      · rw [if_pos g23] at h
        exact zr_wk [none, some (.ref 1), none] ⟨rfl, trivial⟩ (tX10_read_J107 h)
      · rw [if_neg g23] at h
        refine zr_many 2 (pc' := 111) (L' := [none, some (.ref 1), some (.int w15.1)]) (st' := [.int (0 : Int32)]) (S1 := zS c w15.2) rfl ?_
        exact zr_wk [none, none, none] trivial (tX10_read_J111 h)
  · skip
    refine zr_wk [some (.ref 45), some (.ref 1), some (.int (0 : Int32))] ⟨rfl, rfl, rfl, trivial⟩ (zl_cert (Z := fun w => zr kX10_read 1 2 18 [some (.ref 45), some (.ref 1), some (.int w.1)] [] (zS c w.2) _ _) (Y := (Sum.elim (fun w => zr kX10_read 1 2 92 [none, some (.ref 1), some (.int w.1)] [] (zS c w.2) _ _) (fun w => zr kX10_read 1 2 118 [none, some (.ref 1), none] [] (zS c w) _ _))) (fun w o h1 h2 h3 => tX10_read_B18 h1 h2 h3) n _ _ g32 ?_)
    show zr kX10_read 1 2 118 [none, some (.ref 1), none] [] (zS c w24) _ _
    refine zr_many 1 (pc' := 119) (L' := [none, some (.ref 1), none]) (st' := [.ref 1]) (S1 := zS c w24) rfl ?_
    obtain ⟨r25, g27, h⟩ := zp_inv h
    refine zq_call1 rfl rfl (zh_1 _) rfl rfl rfl ((tX8_over g27).up (by decide)) rfl ?_
    refine zq_if1 (b := r25 = 0) rfl Iff.rfl rfl (fun g28 => ?_) (fun g28 => ?_)
    · rw [if_pos g28] at h
      refine zr_many 1 (pc' := 130) (L' := [none, some (.ref 1), none]) (st' := [.ref 1]) (S1 := zS c w24) rfl ?_
      obtain ⟨r29, g31, h⟩ := zp_inv h
      refine zq_call1 rfl rfl (zh_1 _) rfl rfl rfl ((tX8_fault g31).up (by decide)) rfl ?_
      exact zr_wk [none, none, none] trivial (tX10_read_J133 h)
    · rw [if_neg g28] at h
      refine zr_many 2 (pc' := 133) (L' := [none, some (.ref 1), none]) (st' := [.int (0 : Int32)]) (S1 := zS c w24) rfl ?_
      exact zr_wk [none, none, none] trivial (tX10_read_J133 h)
