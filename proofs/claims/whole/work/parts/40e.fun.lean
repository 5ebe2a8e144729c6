/-! ===== printed by wip/gen/dec.py: the methods as functions, each with its run ===== -/
def fX11_hires_J22 (n : Nat) (s : zs) : Option (Int32 × zs) := some ((-1 : Int32), s)
theorem tX11_hires_J22 {n : Nat} {c : Nat × Nat} {s : zs} {r : Int32} {s' : zs} (h : fX11_hires_J22 n s = some (r, s')) : zr kX11_hires 1 4 22 [none, none, none, none, none, none, none, none] [] (zS c s) (some (.int r)) (zS c s') := by
  unfold fX11_hires_J22 at h
  refine zr_many 1 (pc' := 23) (L' := [none, none, none, none, none, none, none, none]) (st' := [.int (-1 : Int32)]) (S1 := zS c s) rfl ?_
  cases h
  exact zq_iret rfl
def fX11_hires_J149 (n : Nat) (s : zs) (x2 : Int32) (x3 : Int32) (x5 : Int32) (x6 : Int32) (x7 : Int32) (y0 : Int32) (y1 : Int32) : Option ((Int32 × Int32 × Int32 × zs) ⊕ (Int32 × zs)) := some (Sum.inl ((y0 + y1), x6, (x7 + (1 : Int32)), s))
theorem tX11_hires_J149 {n : Nat} {c : Nat × Nat} {s : zs} {x2 : Int32} {x3 : Int32} {x5 : Int32} {x6 : Int32} {x7 : Int32} {y0 : Int32} {y1 : Int32} {o : _} {v : Option Value} {S' : zi_S} (h : fX11_hires_J149 n s x2 x3 x5 x6 x7 y0 y1 = some o) (hn : ∀ w, o = Sum.inl w → zr kX11_hires 1 4 76 [some (.ref 0), none, some (.int x2), some (.int x3), some (.int w.1), some (.int x5), some (.int w.2.1), some (.int w.2.2.1)] [] (zS c w.2.2.2) v S') (hx : ∀ w, o = Sum.inr w → (fun w => zr kX11_hires 1 4 158 [some (.ref 0), none, none, none, none, none, some (.int w.1), none] [] (zS c w.2) v S') w) : zr kX11_hires 1 4 149 [some (.ref 0), none, some (.int x2), some (.int x3), none, some (.int x5), some (.int x6), some (.int x7)] [.int y1, .int y0] (zS c s) v S' := by
  unfold fX11_hires_J149 at h
  refine zr_many 4 (pc' := 76) (L' := [some (.ref 0), none, some (.int x2), some (.int x3), some (.int (y0 + y1)), some (.int x5), some (.int x6), some (.int (x7 + (1 : Int32)))]) (st' := []) (S1 := zS c s) rfl ?_
  cases h
  exact zr_wk [some (.ref 0), none, some (.int x2), some (.int x3), some (.int (y0 + y1)), some (.int x5), some (.int x6), some (.int (x7 + (1 : Int32)))] ⟨rfl, rfl, rfl, rfl, rfl, rfl, rfl, trivial⟩ (hn _ rfl)
def fX11_hires_J130 (n : Nat) (s : zs) (x2 : Int32) (x3 : Int32) (x4 : Int32) (x5 : Int32) (x6 : Int32) (x7 : Int32) (y2 : Int32) : Option ((Int32 × Int32 × Int32 × zs) ⊕ (Int32 × zs)) := zp (fX2_mustSing n s 17 y2 x3 x6) (fun s26 => if ¬ x5 = (1 : Int32) then fX11_hires_J149 n s26 x2 x3 x5 x6 x7 x4 (-1 : Int32) else fX11_hires_J149 n s26 x2 x3 x5 x6 x7 x4 (1 : Int32))
theorem tX11_hires_J130 {n : Nat} {c : Nat × Nat} {s : zs} {x2 : Int32} {x3 : Int32} {x4 : Int32} {x5 : Int32} {x6 : Int32} {x7 : Int32} {y2 : Int32} {o : _} {v : Option Value} {S' : zi_S} (h : fX11_hires_J130 n s x2 x3 x4 x5 x6 x7 y2 = some o) (hn : ∀ w, o = Sum.inl w → zr kX11_hires 1 4 76 [some (.ref 0), none, some (.int x2), some (.int x3), some (.int w.1), some (.int x5), some (.int w.2.1), some (.int w.2.2.1)] [] (zS c w.2.2.2) v S') (hx : ∀ w, o = Sum.inr w → (fun w => zr kX11_hires 1 4 158 [some (.ref 0), none, none, none, none, none, some (.int w.1), none] [] (zS c w.2) v S') w) : zr kX11_hires 1 4 130 [some (.ref 0), none, some (.int x2), some (.int x3), some (.int x4), some (.int x5), some (.int x6), some (.int x7)] [.int y2, .ref 17, .ref 41] (zS c s) v S' := by
  unfold fX11_hires_J130 at h
  refine zr_many 2 (pc' := 133) (L' := [some (.ref 0), none, some (.int x2), some (.int x3), some (.int x4), some (.int x5), some (.int x6), some (.int x7)]) (st' := [.int x6, .int x3, .int y2, .ref 17, .ref 41]) (S1 := zS c s) rfl ?_
  obtain ⟨s26, g27, h⟩ := zp_inv h
  refine zq_call0 rfl rfl (zh_41 _) rfl rfl rfl (tX2_mustSing zM_17 g27) rfl ?_
  refine zr_many 3 (pc' := 141) (L' := [some (.ref 0), none, some (.int x2), some (.int x3), some (.int x4), some (.int x5), some (.int x6), some (.int x7)]) (st' := [.int (1 : Int32), .int x5, .int x4]) (S1 := zS c s26) rfl ?_
  refine zq_if2 (b := ¬ x5 = (1 : Int32)) rfl Iff.rfl rfl (fun g28 => ?_) (fun g28 => ?_)
  · rw [if_pos g28] at h
    refine zr_many 1 (pc' := 149) (L' := [some (.ref 0), none, some (.int x2), some (.int x3), some (.int x4), some (.int x5), some (.int x6), some (.int x7)]) (st' := [.int (-1 : Int32), .int x4]) (S1 := zS c s26) rfl ?_
    exact zr_wk [some (.ref 0), none, some (.int x2), some (.int x3), none, some (.int x5), some (.int x6), some (.int x7)] ⟨rfl, rfl, rfl, rfl, rfl, rfl, trivial⟩ (tX11_hires_J149 h hn hx)
  · rw [if_neg g28] at h
    refine zr_many 2 (pc' := 149) (L' := [some (.ref 0), none, some (.int x2), some (.int x3), some (.int x4), some (.int x5), some (.int x6), some (.int x7)]) (st' := [.int (1 : Int32), .int x4]) (S1 := zS c s26) rfl ?_
    exact zr_wk [some (.ref 0), none, some (.int x2), some (.int x3), none, some (.int x5), some (.int x6), some (.int x7)] ⟨rfl, rfl, rfl, rfl, rfl, rfl, trivial⟩ (tX11_hires_J149 h hn hx)
def fX11_hires_B76 (n : Nat) (x2 : Int32) (x3 : Int32) (x5 : Int32) (w : Int32 × Int32 × Int32 × zs) : Option ((Int32 × Int32 × Int32 × zs) ⊕ (Int32 × zs)) := if (8 : Int32) ≤ w.2.2.1 then some (Sum.inr (w.2.1, w.2.2.2)) else if w.1 = x2 then some (Sum.inr (w.2.1, w.2.2.2)) else zp (fX0_freeAt n w.2.2.2 17 w.1) (fun r21 => if ¬ x5 = (1 : Int32) then fX11_hires_J130 n w.2.2.2 x2 x3 w.1 x5 (w.2.1 ||| r21) w.2.2.1 (w.1 - (1 : Int32)) else fX11_hires_J130 n w.2.2.2 x2 x3 w.1 x5 (w.2.1 ||| r21) w.2.2.1 w.1)
theorem tX11_hires_B76 {n : Nat} {c : Nat × Nat} {x2 : Int32} {x3 : Int32} {x5 : Int32} {w : Int32 × Int32 × Int32 × zs} {o : _} {v : Option Value} {S' : zi_S} (h : fX11_hires_B76 n x2 x3 x5 w = some o) (hn : ∀ w, o = Sum.inl w → zr kX11_hires 1 4 76 [some (.ref 0), none, some (.int x2), some (.int x3), some (.int w.1), some (.int x5), some (.int w.2.1), some (.int w.2.2.1)] [] (zS c w.2.2.2) v S') (hx : ∀ w, o = Sum.inr w → (fun w => zr kX11_hires 1 4 158 [some (.ref 0), none, none, none, none, none, some (.int w.1), none] [] (zS c w.2) v S') w) : zr kX11_hires 1 4 76 [some (.ref 0), none, some (.int x2), some (.int x3), some (.int w.1), some (.int x5), some (.int w.2.1), some (.int w.2.2.1)] [] (zS c w.2.2.2) v S' := by
  unfold fX11_hires_B76 at h
  refine zr_many 2 (pc' := 80) (L' := [some (.ref 0), none, some (.int x2), some (.int x3), some (.int w.1), some (.int x5), some (.int w.2.1), some (.int w.2.2.1)]) (st' := [.int (8 : Int32), .int w.2.2.1]) (S1 := zS c w.2.2.2) rfl ?_
  refine zq_if2 (b := (8 : Int32) ≤ w.2.2.1) rfl Iff.rfl rfl (fun g19 => ?_) (fun g19 => ?_)
  · rw [if_pos g19] at h
    cases h
    exact zr_wk [some (.ref 0), none, none, none, none, none, some (.int w.2.1), none] ⟨rfl, rfl, trivial⟩ (hx _ rfl)
  · rw [if_neg g19] at h
    refine zr_many 2 (pc' := 86) (L' := [some (.ref 0), none, some (.int x2), some (.int x3), some (.int w.1), some (.int x5), some (.int w.2.1), some (.int w.2.2.1)]) (st' := [.int x2, .int w.1]) (S1 := zS c w.2.2.2) rfl ?_
    refine zq_if2 (b := w.1 = x2) rfl Iff.rfl rfl (fun g20 => ?_) (fun g20 => ?_)
    · rw [if_pos g20] at h
      cases h
      exact zr_wk [some (.ref 0), none, none, none, none, none, some (.int w.2.1), none] ⟨rfl, rfl, trivial⟩ (hx _ rfl)
    · rw [if_neg g20] at h
      refine zr_many 2 (pc' := 92) (L' := [some (.ref 0), none, some (.int x2), some (.int x3), some (.int w.1), some (.int x5), some (.int w.2.1), some (.int w.2.2.1)]) (st' := [.ref 0, .int w.2.1]) (S1 := zS c w.2.2.2) rfl ?_
      refine zq_get rfl (zh_0 _) rfl rfl rfl ?_
      refine zr_many 1 (pc' := 96) (L' := [some (.ref 0), none, some (.int x2), some (.int x3), some (.int w.1), some (.int x5), some (.int w.2.1), some (.int w.2.2.1)]) (st' := [.ref 0, .ref 5, .int w.2.1]) (S1 := zS c w.2.2.2) rfl ?_
      refine zq_get rfl (zh_0 _) rfl rfl rfl ?_
      refine zr_many 1 (pc' := 101) (L' := [some (.ref 0), none, some (.int x2), some (.int x3), some (.int w.1), some (.int x5), some (.int w.2.1), some (.int w.2.2.1)]) (st' := [.int w.1, .ref 17, .ref 5, .int w.2.1]) (S1 := zS c w.2.2.2) rfl ?_
      obtain ⟨r21, g23, h⟩ := zp_inv h
      refine zq_call1 rfl rfl (zh_5 _) rfl rfl rfl ((tX0_freeAt zM_17 g23).up (by decide)) rfl ?_
      refine zr_many 3 (pc' := 108) (L' := [some (.ref 0), none, some (.int x2), some (.int x3), some (.int w.1), some (.int x5), some (.int (w.2.1 ||| r21)), some (.int w.2.2.1)]) (st' := [.ref 0]) (S1 := zS c w.2.2.2) rfl ?_
      refine zq_get rfl (zh_0 _) rfl rfl rfl ?_
      refine zr_many 1 (pc' := 112) (L' := [some (.ref 0), none, some (.int x2), some (.int x3), some (.int w.1), some (.int x5), some (.int (w.2.1 ||| r21)), some (.int w.2.2.1)]) (st' := [.ref 0, .ref 41]) (S1 := zS c w.2.2.2) rfl ?_
      refine zq_get rfl (zh_0 _) rfl rfl rfl ?_
      refine zr_many 2 (pc' := 118) (L' := [some (.ref 0), none, some (.int x2), some (.int x3), some (.int w.1), some (.int x5), some (.int (w.2.1 ||| r21)), some (.int w.2.2.1)]) (st' := [.int (1 : Int32), .int x5, .ref 17, .ref 41]) (S1 := zS c w.2.2.2) rfl ?_
      refine zq_if2 (b := ¬ x5 = (1 : Int32)) rfl Iff.rfl rfl (fun g24 => ?_) (fun g24 => ?_)
      · rw [if_pos g24] at h
        refine zr_many 3 (pc' := 130) (L' := [some (.ref 0), none, some (.int x2), some (.int x3), some (.int w.1), some (.int x5), some (.int (w.2.1 ||| r21)), some (.int w.2.2.1)]) (st' := [.int (w.1 - (1 : Int32)), .ref 17, .ref 41]) (S1 := zS c w.2.2.2) rfl ?_
        exact zr_wk [some (.ref 0), none, some (.int x2), some (.int x3), some (.int w.1), some (.int x5), some (.int (w.2.1 ||| r21)), some (.int w.2.2.1)] ⟨rfl, rfl, rfl, rfl, rfl, rfl, rfl, trivial⟩ (tX11_hires_J130 h hn hx)
      · rw [if_neg g24] at h
        refine zr_many 2 (pc' := 130) (L' := [some (.ref 0), none, some (.int x2), some (.int x3), some (.int w.1), some (.int x5), some (.int (w.2.1 ||| r21)), some (.int w.2.2.1)]) (st' := [.int w.1, .ref 17, .ref 41]) (S1 := zS c w.2.2.2) rfl ?_
        exact zr_wk [some (.ref 0), none, some (.int x2), some (.int x3), some (.int w.1), some (.int x5), some (.int (w.2.1 ||| r21)), some (.int w.2.2.1)] ⟨rfl, rfl, rfl, rfl, rfl, rfl, rfl, trivial⟩ (tX11_hires_J130 h hn hx)
def fX11_hires_J158 (n : Nat) (s : zs) (x6 : Int32) : Option (Int32 × zs) := zp (fX2_cheapest n s x6) (fun r30 => zb (fX11_tellHired n s r30) (fun r33 s34 => some (r33, s34)))
theorem tX11_hires_J158 {n : Nat} {c : Nat × Nat} {s : zs} {x6 : Int32} {r : Int32} {s' : zs} (h : fX11_hires_J158 n s x6 = some (r, s')) : zr kX11_hires 1 4 158 [some (.ref 0), none, none, none, none, none, some (.int x6), none] [] (zS c s) (some (.int r)) (zS c s') := by
  unfold fX11_hires_J158 at h
  refine zr_many 2 (pc' := 160) (L' := [some (.ref 0), none, none, none, none, none, some (.int x6), none]) (st' := [.ref 0, .ref 0]) (S1 := zS c s) rfl ?_
  refine zq_get rfl (zh_0 _) rfl rfl rfl ?_
  refine zr_many 1 (pc' := 165) (L' := [some (.ref 0), none, none, none, none, none, some (.int x6), none]) (st' := [.int x6, .ref 41, .ref 0]) (S1 := zS c s) rfl ?_
  obtain ⟨r30, g32, h⟩ := zp_inv h
  refine zq_call1 rfl rfl (zh_41 _) rfl rfl rfl ((tX2_cheapest g32).up (by decide)) rfl ?_
  obtain ⟨r33, s34, g35, h⟩ := zb_inv h
  refine zq_call1 rfl rfl (zh_0 _) rfl rfl rfl ((tX11_tellHired g35).up (by decide)) rfl ?_
  cases h
  exact zq_iret rfl
def fX11_hires (n : Nat) (s : zs) (x1 : Int32) (x2 : Int32) : Option (Int32 × zs) := zp (fX0_hasBarge n s x1) (fun r1 => if r1 = 0 then fX11_hires_J22 n s else zp (fX0_hasPlace n s x2) (fun r5 => if ¬ r5 = 0 then zp (fX0_crewOf n s 17 x1) (fun r9 => cond (zi_in x1 4) (zp (fX9_way n s 17 x1 x2) (fun r13 => zp (fX2_begin n s) (fun s17 => zp (zl (fX11_hires_B76 n x2 r9 r13) n ((s.1 21 x1.toNatClampNeg), (0 : Int32), (0 : Int32), s17)) (fun w29 => fX11_hires_J158 n w29.2 w29.1)))) none) else fX11_hires_J22 n s))
theorem tX11_hires {n : Nat} {c : Nat × Nat} {s : zs} {x1 : Int32} {x2 : Int32} {r : Int32} {s' : zs} (h : fX11_hires n s x1 x2 = some (r, s')) : zc 5 2237 [.ref 0, .int x1, .int x2] (zS c s) (some (.int r)) (zS c s') := by
  refine zc_of (k := kX11_hires) (rt := 1) (L := [some (.ref 0), some (.int x1), some (.int x2), none, none, none, none, none]) zm_2237.1 rfl rfl (by decide) rfl rfl ?_
  unfold fX11_hires at h
  refine zr_many 1 (pc' := 1) (L' := [some (.ref 0), some (.int x1), some (.int x2), none, none, none, none, none]) (st' := [.ref 0]) (S1 := zS c s) rfl ?_
  refine zq_get rfl (zh_0 _) rfl rfl rfl ?_
  refine zr_many 1 (pc' := 5) (L' := [some (.ref 0), some (.int x1), some (.int x2), none, none, none, none, none]) (st' := [.int x1, .ref 5]) (S1 := zS c s) rfl ?_
  obtain ⟨r1, g3, h⟩ := zp_inv h
  refine zq_call1 rfl rfl (zh_5 _) rfl rfl rfl ((tX0_hasBarge g3).up (by decide)) rfl ?_
  refine zq_if1 (b := r1 = 0) rfl Iff.rfl rfl (fun g4 => ?_) (fun g4 => ?_)
  · rw [if_pos g4] at h
    exact zr_wk [none, none, none, none, none, none, none, none] trivial (tX11_hires_J22 h)
  · rw [if_neg g4] at h
    refine zr_many 1 (pc' := 12) (L' := [some (.ref 0), some (.int x1), some (.int x2), none, none, none, none, none]) (st' := [.ref 0]) (S1 := zS c s) rfl ?_
    refine zq_get rfl (zh_0 _) rfl rfl rfl ?_
    refine zr_many 1 (pc' := 16) (L' := [some (.ref 0), some (.int x1), some (.int x2), none, none, none, none, none]) (st' := [.int x2, .ref 5]) (S1 := zS c s) rfl ?_
    obtain ⟨r5, g7, h⟩ := zp_inv h
    refine zq_call1 rfl rfl (zh_5 _) rfl rfl rfl ((tX0_hasPlace g7).up (by decide)) rfl ?_
    refine zq_if1 (b := ¬ r5 = 0) rfl Iff.rfl rfl (fun g8 => ?_) (fun g8 => ?_)
    · rw [if_pos g8] at h
      refine zr_many 1 (pc' := 25) (L' := [some (.ref 0), some (.int x1), some (.int x2), none, none, none, none, none]) (st' := [.ref 0]) (S1 := zS c s) rfl ?_
      refine zq_get rfl (zh_0 _) rfl rfl rfl ?_
      refine zr_many 1 (pc' := 29) (L' := [some (.ref 0), some (.int x1), some (.int x2), none, none, none, none, none]) (st' := [.ref 0, .ref 5]) (S1 := zS c s) rfl ?_
      refine zq_get rfl (zh_0 _) rfl rfl rfl ?_
      refine zr_many 1 (pc' := 33) (L' := [some (.ref 0), some (.int x1), some (.int x2), none, none, none, none, none]) (st' := [.int x1, .ref 17, .ref 5]) (S1 := zS c s) rfl ?_
      obtain ⟨r9, g11, h⟩ := zp_inv h
      refine zq_call1 rfl rfl (zh_5 _) rfl rfl rfl ((tX0_crewOf zM_17 g11).up (by decide)) rfl ?_
      refine zr_many 2 (pc' := 38) (L' := [some (.ref 0), some (.int x1), some (.int x2), some (.int r9), none, none, none, none]) (st' := [.ref 0]) (S1 := zS c s) rfl ?_
      refine zq_get rfl (zh_0 _) rfl rfl rfl ?_
      refine zq_get rfl (zh_17 _) rfl rfl rfl ?_
      refine zr_many 1 (pc' := 45) (L' := [some (.ref 0), some (.int x1), some (.int x2), some (.int r9), none, none, none, none]) (st' := [.int x1, .ref 21]) (S1 := zS c s) rfl ?_
      obtain ⟨g12, h⟩ := zi_cond_inv h
      refine zq_ild rfl (zh_21 _) rfl g12 rfl ?_
      refine zr_many 2 (pc' := 49) (L' := [some (.ref 0), some (.int x1), some (.int x2), some (.int r9), some (.int (s.1 21 x1.toNatClampNeg)), none, none, none]) (st' := [.ref 0]) (S1 := zS c s) rfl ?_
      refine zq_get rfl (zh_0 _) rfl rfl rfl ?_
      refine zr_many 1 (pc' := 53) (L' := [some (.ref 0), some (.int x1), some (.int x2), some (.int r9), some (.int (s.1 21 x1.toNatClampNeg)), none, none, none]) (st' := [.ref 0, .ref 38]) (S1 := zS c s) rfl ?_
      refine zq_get rfl (zh_0 _) rfl rfl rfl ?_
      refine zr_many 2 (pc' := 58) (L' := [some (.ref 0), some (.int x1), some (.int x2), some (.int r9), some (.int (s.1 21 x1.toNatClampNeg)), none, none, none]) (st' := [.int x2, .int x1, .ref 17, .ref 38]) (S1 := zS c s) rfl ?_
      obtain ⟨r13, g15, h⟩ := zp_inv h
      refine zq_call1 rfl rfl (zh_38 _) rfl rfl rfl ((tX9_way zM_17 g15).up (by decide)) rfl ?_
      refine zr_many 4 (pc' := 67) (L' := [some (.ref 0), some (.int x1), some (.int x2), some (.int r9), some (.int (s.1 21 x1.toNatClampNeg)), some (.int r13), some (.int (0 : Int32)), none]) (st' := [.ref 0]) (S1 := zS c s) rfl ?_
      refine zq_get rfl (zh_0 _) rfl rfl rfl ?_
      obtain ⟨s17, g18, h⟩ := zp_inv h
      refine zq_call0 rfl rfl (zh_41 _) rfl rfl rfl ((tX2_begin g18).up (by decide)) rfl ?_
      refine zr_many 2 (pc' := 76) (L' := [some (.ref 0), some (.int x1), some (.int x2), some (.int r9), some (.int (s.1 21 x1.toNatClampNeg)), some (.int r13), some (.int (0 : Int32)), some (.int (0 : Int32))]) (st' := []) (S1 := zS c s17) rfl ?_
      obtain ⟨w29, g36, h⟩ := zp_inv h
      refine zr_wk [some (.ref 0), none, some (.int x2), some (.int r9), some (.int (s.1 21 x1.toNatClampNeg)), some (.int r13), some (.int (0 : Int32)), some (.int (0 : Int32))] ⟨rfl, rfl, rfl, rfl, rfl, rfl, rfl, trivial⟩ (zl_cert (Z := fun w => zr kX11_hires 1 4 76 [some (.ref 0), none, some (.int x2), some (.int r9), some (.int w.1), some (.int r13), some (.int w.2.1), some (.int w.2.2.1)] [] (zS c w.2.2.2) _ _) (Y := (fun w => zr kX11_hires 1 4 158 [some (.ref 0), none, none, none, none, none, some (.int w.1), none] [] (zS c w.2) _ _)) (fun w o h1 h2 h3 => tX11_hires_B76 h1 h2 h3) n _ _ g36 ?_)
      show zr kX11_hires 1 4 158 [some (.ref 0), none, none, none, none, none, some (.int w29.1), none] [] (zS c w29.2) _ _
      exact zr_wk [some (.ref 0), none, none, none, none, none, some (.int w29.1), none] ⟨rfl, rfl, trivial⟩ (tX11_hires_J158 h)
    · rw [if_neg g8] at h
      exact zr_wk [none, none, none, none, none, none, none, none] trivial (tX11_hires_J22 h)
def fX11_queue_J68 (n : Nat) (s : zs) (y0 : Int32) : Option (Int32 × zs) := some (y0, s)
theorem tX11_queue_J68 {n : Nat} {c : Nat × Nat} {s : zs} {y0 : Int32} {r : Int32} {s' : zs} (h : fX11_queue_J68 n s y0 = some (r, s')) : zr kX11_queue 1 6 68 [none, none, none] [.int y0] (zS c s) (some (.int r)) (zS c s') := by
  unfold fX11_queue_J68 at h
  cases h
  exact zq_iret rfl
def fX11_queue (n : Nat) (s : zs) (x1 : Int32) : Option (Int32 × zs) := zp (fX0_hasLock n s x1) (fun r1 => if ¬ r1 = 0 then zb (fX10_read n s) (fun r5 s6 => zp (fX8_clear n s6) (fun s9 => if 0 ≤ r5 then zp (fX3_levelOf n s9 17 x1) (fun r12 => zb (fX10_order n s9 r12) (fun r15 s16 => fX11_queue_J68 n s16 r15)) else fX11_queue_J68 n s9 (r5 - (1 : Int32)))) else zp (fX8_clear n s) (fun s19 => some ((-1 : Int32), s19)))
theorem tX11_queue {n : Nat} {c : Nat × Nat} {s : zs} {x1 : Int32} {r : Int32} {s' : zs} (h : fX11_queue n s x1 = some (r, s')) : zc 7 2239 [.ref 0, .int x1] (zS c s) (some (.int r)) (zS c s') := by
  refine zc_of (k := kX11_queue) (rt := 1) (L := [some (.ref 0), some (.int x1), none]) zm_2239.1 rfl rfl (by decide) rfl rfl ?_
  unfold fX11_queue at h
  refine zr_many 1 (pc' := 1) (L' := [some (.ref 0), some (.int x1), none]) (st' := [.ref 0]) (S1 := zS c s) rfl ?_
  refine zq_get rfl (zh_0 _) rfl rfl rfl ?_
  refine zr_many 1 (pc' := 5) (L' := [some (.ref 0), some (.int x1), none]) (st' := [.int x1, .ref 5]) (S1 := zS c s) rfl ?_
  obtain ⟨r1, g3, h⟩ := zp_inv h
  refine zq_call1 rfl rfl (zh_5 _) rfl rfl rfl ((tX0_hasLock g3).up (by decide)) rfl ?_
  refine zq_if1 (b := ¬ r1 = 0) rfl Iff.rfl rfl (fun g4 => ?_) (fun g4 => ?_)
  · rw [if_pos g4] at h
    refine zr_many 1 (pc' := 21) (L' := [some (.ref 0), some (.int x1), none]) (st' := [.ref 0]) (S1 := zS c s) rfl ?_
    refine zq_get rfl (zh_0 _) rfl rfl rfl ?_
    refine zr_many 1 (pc' := 25) (L' := [some (.ref 0), some (.int x1), none]) (st' := [.ref 0, .ref 45]) (S1 := zS c s) rfl ?_
    refine zq_get rfl (zh_0 _) rfl rfl rfl ?_
    obtain ⟨r5, s6, g7, h⟩ := zb_inv h
    refine zq_call1 rfl rfl (zh_45 _) rfl rfl rfl ((tX10_read g7).up (by decide)) rfl ?_
    refine zr_many 2 (pc' := 33) (L' := [some (.ref 0), some (.int x1), some (.int r5)]) (st' := [.ref 0]) (S1 := zS c s6) rfl ?_
    refine zq_get rfl (zh_0 _) rfl rfl rfl ?_
    obtain ⟨s9, g10, h⟩ := zp_inv h
    refine zq_call0 rfl rfl (zh_1 _) rfl rfl rfl ((tX8_clear g10).up (by decide)) rfl ?_
    refine zr_many 1 (pc' := 40) (L' := [some (.ref 0), some (.int x1), some (.int r5)]) (st' := [.int r5]) (S1 := zS c s9) rfl ?_
    refine zq_if1 (b := 0 ≤ r5) rfl Iff.rfl rfl (fun g11 => ?_) (fun g11 => ?_)
    · rw [if_pos g11] at h
      refine zr_many 1 (pc' := 50) (L' := [some (.ref 0), some (.int x1), some (.int r5)]) (st' := [.ref 0]) (S1 := zS c s9) rfl ?_
      refine zq_get rfl (zh_0 _) rfl rfl rfl ?_
      refine zr_many 1 (pc' := 54) (L' := [some (.ref 0), some (.int x1), some (.int r5)]) (st' := [.ref 0, .ref 45]) (S1 := zS c s9) rfl ?_
      refine zq_get rfl (zh_0 _) rfl rfl rfl ?_
      refine zr_many 1 (pc' := 58) (L' := [some (.ref 0), some (.int x1), some (.int r5)]) (st' := [.int x1, .ref 17, .ref 45]) (S1 := zS c s9) rfl ?_
      obtain ⟨r12, g14, h⟩ := zp_inv h
      refine zq_call1 rfl rfl (zh_17 _) rfl rfl rfl ((tX3_levelOf zM_17 g14).up (by decide)) rfl ?_
      refine zr_many 1 (pc' := 62) (L' := [some (.ref 0), some (.int x1), some (.int r5)]) (st' := [.ref 0, .int r12, .ref 45]) (S1 := zS c s9) rfl ?_
      refine zq_get rfl (zh_0 _) rfl rfl rfl ?_
      obtain ⟨r15, s16, g17, h⟩ := zb_inv h
      refine zq_call1 rfl rfl (zh_45 _) rfl rfl rfl (tX10_order g17) rfl ?_
      exact zr_wk [none, none, none] trivial (tX11_queue_J68 h)
    · rw [if_neg g11] at h
      refine zr_many 4 (pc' := 68) (L' := [some (.ref 0), some (.int x1), some (.int r5)]) (st' := [.int (r5 - (1 : Int32))]) (S1 := zS c s9) rfl ?_
      exact zr_wk [none, none, none] trivial (tX11_queue_J68 h)
  · rw [if_neg g4] at h
    refine zr_many 1 (pc' := 12) (L' := [some (.ref 0), some (.int x1), none]) (st' := [.ref 0]) (S1 := zS c s) rfl ?_
    refine zq_get rfl (zh_0 _) rfl rfl rfl ?_
    obtain ⟨s19, g20, h⟩ := zp_inv h
    refine zq_call0 rfl rfl (zh_1 _) rfl rfl rfl ((tX8_clear g20).up (by decide)) rfl ?_
    refine zr_many 1 (pc' := 19) (L' := [some (.ref 0), some (.int x1), none]) (st' := [.int (-1 : Int32)]) (S1 := zS c s19) rfl ?_
    cases h
    exact zq_iret rfl
def fX11_jams_J73 (n : Nat) (s : zs) (x1 : Int32) (x2 : Int32) (x3 : Int32) (x4 : Int32) (x5 : Int32) : Option ((Int32 × Int32 × Int32 × Int32) ⊕ (Int32 × Int32 × Int32)) := some (Sum.inl (x1, x2, x3, (x5 + (1 : Int32))))
theorem tX11_jams_J73 {n : Nat} {c : Nat × Nat} {s : zs} {x1 : Int32} {x2 : Int32} {x3 : Int32} {x4 : Int32} {x5 : Int32} {o : _} {v : Option Value} {S' : zi_S} (h : fX11_jams_J73 n s x1 x2 x3 x4 x5 = some o) (hn : ∀ w, o = Sum.inl w → zr kX11_jams 1 7 33 [some (.ref 0), some (.int w.1), some (.int w.2.1), some (.int w.2.2.1), some (.int x4), some (.int w.2.2.2), none] [] (zS c s) v S') (hx : ∀ w, o = Sum.inr w → (fun w => zr kX11_jams 1 7 79 [some (.ref 0), some (.int w.1), some (.int w.2.1), some (.int w.2.2), some (.int x4), none, none] [] (zS c s) v S') w) : zr kX11_jams 1 7 73 [some (.ref 0), some (.int x1), some (.int x2), some (.int x3), some (.int x4), some (.int x5), none] [] (zS c s) v S' := by
  unfold fX11_jams_J73 at h
  refine zr_many 2 (pc' := 33) (L' := [some (.ref 0), some (.int x1), some (.int x2), some (.int x3), some (.int x4), some (.int (x5 + (1 : Int32))), none]) (st' := []) (S1 := zS c s) rfl ?_
  cases h
  exact zr_wk [some (.ref 0), some (.int x1), some (.int x2), some (.int x3), some (.int x4), some (.int (x5 + (1 : Int32))), none] ⟨rfl, rfl, rfl, rfl, rfl, rfl, trivial⟩ (hn _ rfl)
def fX11_jams_B33 (n : Nat) (s : zs) (x4 : Int32) (w : Int32 × Int32 × Int32 × Int32) : Option ((Int32 × Int32 × Int32 × Int32) ⊕ (Int32 × Int32 × Int32)) := if (26 : Int32) ≤ w.2.2.2 then some (Sum.inr (w.1, w.2.1, w.2.2.1)) else zp (fX9_keptBy n s (((1 : Int32) <<< (x4 &&& 31)) ||| ((1 : Int32) <<< (w.2.2.2 &&& 31)))) (fun r6 => if r6 ≤ w.1 then fX11_jams_J73 n s w.1 w.2.1 w.2.2.1 x4 w.2.2.2 else fX11_jams_J73 n s r6 x4 w.2.2.2 x4 w.2.2.2)
theorem tX11_jams_B33 {n : Nat} {c : Nat × Nat} {s : zs} {x4 : Int32} {w : Int32 × Int32 × Int32 × Int32} {o : _} {v : Option Value} {S' : zi_S} (h : fX11_jams_B33 n s x4 w = some o) (hn : ∀ w, o = Sum.inl w → zr kX11_jams 1 7 33 [some (.ref 0), some (.int w.1), some (.int w.2.1), some (.int w.2.2.1), some (.int x4), some (.int w.2.2.2), none] [] (zS c s) v S') (hx : ∀ w, o = Sum.inr w → (fun w => zr kX11_jams 1 7 79 [some (.ref 0), some (.int w.1), some (.int w.2.1), some (.int w.2.2), some (.int x4), none, none] [] (zS c s) v S') w) : zr kX11_jams 1 7 33 [some (.ref 0), some (.int w.1), some (.int w.2.1), some (.int w.2.2.1), some (.int x4), some (.int w.2.2.2), none] [] (zS c s) v S' := by
  unfold fX11_jams_B33 at h
  refine zr_many 2 (pc' := 37) (L' := [some (.ref 0), some (.int w.1), some (.int w.2.1), some (.int w.2.2.1), some (.int x4), some (.int w.2.2.2), none]) (st' := [.int (26 : Int32), .int w.2.2.2]) (S1 := zS c s) rfl ?_
  refine zq_if2 (b := (26 : Int32) ≤ w.2.2.2) rfl Iff.rfl rfl (fun g5 => ?_) (fun g5 => ?_)
  · rw [if_pos g5] at h
    cases h
    exact zr_wk [some (.ref 0), some (.int w.1), some (.int w.2.1), some (.int w.2.2.1), some (.int x4), none, none] ⟨rfl, rfl, rfl, rfl, rfl, trivial⟩ (hx _ rfl)
  · rw [if_neg g5] at h
    refine zr_many 1 (pc' := 41) (L' := [some (.ref 0), some (.int w.1), some (.int w.2.1), some (.int w.2.2.1), some (.int x4), some (.int w.2.2.2), none]) (st' := [.ref 0]) (S1 := zS c s) rfl ?_
    refine zq_get rfl (zh_0 _) rfl rfl rfl ?_
    refine zr_many 7 (pc' := 53) (L' := [some (.ref 0), some (.int w.1), some (.int w.2.1), some (.int w.2.2.1), some (.int x4), some (.int w.2.2.2), none]) (st' := [.int (((1 : Int32) <<< (x4 &&& 31)) ||| ((1 : Int32) <<< (w.2.2.2 &&& 31))), .ref 38]) (S1 := zS c s) rfl ?_
    obtain ⟨r6, g8, h⟩ := zp_inv h
    refine zq_call1 rfl rfl (zh_38 _) rfl rfl rfl ((tX9_keptBy g8).up (by decide)) rfl ?_
    refine zr_many 3 (pc' := 61) (L' := [some (.ref 0), some (.int w.1), some (.int w.2.1), some (.int w.2.2.1), some (.int x4), some (.int w.2.2.2), some (.int r6)]) (st' := [.int w.1, .int r6]) (S1 := zS c s) rfl ?_
    refine zq_if2 (b := r6 ≤ w.1) rfl Iff.rfl rfl (fun g9 => ?_) (fun g9 => ?_)
    · rw [if_pos g9] at h
      exact zr_wk [some (.ref 0), some (.int w.1), some (.int w.2.1), some (.int w.2.2.1), some (.int x4), some (.int w.2.2.2), none] ⟨rfl, rfl, rfl, rfl, rfl, rfl, trivial⟩ (tX11_jams_J73 h hn hx)
    · rw [if_neg g9] at h
      refine zr_many 6 (pc' := 73) (L' := [some (.ref 0), some (.int r6), some (.int x4), some (.int w.2.2.2), some (.int x4), some (.int w.2.2.2), some (.int r6)]) (st' := []) (S1 := zS c s) rfl ?_
      exact zr_wk [some (.ref 0), some (.int r6), some (.int x4), some (.int w.2.2.2), some (.int x4), some (.int w.2.2.2), none] ⟨rfl, rfl, rfl, rfl, rfl, rfl, trivial⟩ (tX11_jams_J73 h hn hx)
def fX11_jams_B20 (n : Nat) (s : zs) (w : Int32 × Int32 × Int32 × Int32) : Option ((Int32 × Int32 × Int32 × Int32) ⊕ (Int32 × Int32 × Int32)) := if (26 : Int32) ≤ w.2.2.2 then some (Sum.inr (w.1, w.2.1, w.2.2.1)) else zp (zl (fX11_jams_B33 n s w.2.2.2) n (w.1, w.2.1, w.2.2.1, (w.2.2.2 + (1 : Int32)))) (fun w10 => some (Sum.inl (w10.1, w10.2.1, w10.2.2, (w.2.2.2 + (1 : Int32)))))
theorem tX11_jams_B20 {n : Nat} {c : Nat × Nat} {s : zs} {w : Int32 × Int32 × Int32 × Int32} {o : _} {v : Option Value} {S' : zi_S} (h : fX11_jams_B20 n s w = some o) (hn : ∀ w, o = Sum.inl w → zr kX11_jams 1 7 20 [some (.ref 0), some (.int w.1), some (.int w.2.1), some (.int w.2.2.1), some (.int w.2.2.2), none, none] [] (zS c s) v S') (hx : ∀ w, o = Sum.inr w → (fun w => zr kX11_jams 1 7 85 [some (.ref 0), some (.int w.1), some (.int w.2.1), some (.int w.2.2), none, none, none] [] (zS c s) v S') w) : zr kX11_jams 1 7 20 [some (.ref 0), some (.int w.1), some (.int w.2.1), some (.int w.2.2.1), some (.int w.2.2.2), none, none] [] (zS c s) v S' := by
  unfold fX11_jams_B20 at h
  refine zr_many 2 (pc' := 24) (L' := [some (.ref 0), some (.int w.1), some (.int w.2.1), some (.int w.2.2.1), some (.int w.2.2.2), none, none]) (st' := [.int (26 : Int32), .int w.2.2.2]) (S1 := zS c s) rfl ?_
  refine zq_if2 (b := (26 : Int32) ≤ w.2.2.2) rfl Iff.rfl rfl (fun g4 => ?_) (fun g4 => ?_)
  · rw [if_pos g4] at h
    cases h
    exact zr_wk [some (.ref 0), some (.int w.1), some (.int w.2.1), some (.int w.2.2.1), none, none, none] ⟨rfl, rfl, rfl, rfl, trivial⟩ (hx _ rfl)
  · rw [if_neg g4] at h
    refine zr_many 4 (pc' := 33) (L' := [some (.ref 0), some (.int w.1), some (.int w.2.1), some (.int w.2.2.1), some (.int w.2.2.2), some (.int (w.2.2.2 + (1 : Int32))), none]) (st' := []) (S1 := zS c s) rfl ?_
    obtain ⟨w10, g11, h⟩ := zp_inv h
    refine zr_wk [some (.ref 0), some (.int w.1), some (.int w.2.1), some (.int w.2.2.1), some (.int w.2.2.2), some (.int (w.2.2.2 + (1 : Int32))), none] ⟨rfl, rfl, rfl, rfl, rfl, rfl, trivial⟩ (zl_cert (Z := fun w => zr kX11_jams 1 7 33 [some (.ref 0), some (.int w.1), some (.int w.2.1), some (.int w.2.2.1), some (.int w.2.2.2), some (.int w.2.2.2), none] [] (zS c s) _ _) (Y := (fun w => zr kX11_jams 1 7 79 [some (.ref 0), some (.int w.1), some (.int w.2.1), some (.int w.2.2), some (.int w.2.2.2), none, none] [] (zS c s) _ _)) (fun w o h1 h2 h3 => tX11_jams_B33 h1 h2 h3) n _ _ g11 ?_)
    show zr kX11_jams 1 7 79 [some (.ref 0), some (.int w10.1), some (.int w10.2.1), some (.int w10.2.2), some (.int w.2.2.2), none, none] [] (zS c s) _ _
    refine zr_many 2 (pc' := 20) (L' := [some (.ref 0), some (.int w10.1), some (.int w10.2.1), some (.int w10.2.2), some (.int (w.2.2.2 + (1 : Int32))), none, none]) (st' := []) (S1 := zS c s) rfl ?_
    cases h
    exact zr_wk [some (.ref 0), some (.int w10.1), some (.int w10.2.1), some (.int w10.2.2), some (.int (w.2.2.2 + (1 : Int32))), none, none] ⟨rfl, rfl, rfl, rfl, rfl, trivial⟩ (hn _ rfl)
def fX11_jams (n : Nat) (s : zs) : Option (Int32 × zs) := zp (fX9_findWays n s 17) (fun s2 => zp (zl (fX11_jams_B20 n s2) n ((-1 : Int32), (0 : Int32), (1 : Int32), (0 : Int32))) (fun w12 => zp (fX5_tell n s2 w12.2.1.toInt64) (fun s14 => zp (fX5_add n s14 w12.2.2.toInt64) (fun s17 => some (w12.1, s17)))))
theorem tX11_jams {n : Nat} {c : Nat × Nat} {s : zs} {r : Int32} {s' : zs} (h : fX11_jams n s = some (r, s')) : zc 8 2240 [.ref 0] (zS c s) (some (.int r)) (zS c s') := by
  refine zc_of (k := kX11_jams) (rt := 1) (L := [some (.ref 0), none, none, none, none, none, none]) zm_2240.1 rfl rfl (by decide) rfl rfl ?_
  unfold fX11_jams at h
  refine zr_many 7 (pc' := 7) (L' := [some (.ref 0), some (.int (-1 : Int32)), some (.int (0 : Int32)), some (.int (1 : Int32)), none, none, none]) (st' := [.ref 0]) (S1 := zS c s) rfl ?_
  refine zq_get rfl (zh_0 _) rfl rfl rfl ?_
  refine zr_many 1 (pc' := 11) (L' := [some (.ref 0), some (.int (-1 : Int32)), some (.int (0 : Int32)), some (.int (1 : Int32)), none, none, none]) (st' := [.ref 0, .ref 38]) (S1 := zS c s) rfl ?_
  refine zq_get rfl (zh_0 _) rfl rfl rfl ?_
  obtain ⟨s2, g3, h⟩ := zp_inv h
  refine zq_call0 rfl rfl (zh_38 _) rfl rfl rfl (tX9_findWays zM_17 g3) rfl ?_
  refine zr_many 2 (pc' := 20) (L' := [some (.ref 0), some (.int (-1 : Int32)), some (.int (0 : Int32)), some (.int (1 : Int32)), some (.int (0 : Int32)), none, none]) (st' := []) (S1 := zS c s2) rfl ?_
  obtain ⟨w12, g19, h⟩ := zp_inv h
  refine zr_wk [some (.ref 0), some (.int (-1 : Int32)), some (.int (0 : Int32)), some (.int (1 : Int32)), some (.int (0 : Int32)), none, none] ⟨rfl, rfl, rfl, rfl, rfl, trivial⟩ (zl_cert (Z := fun w => zr kX11_jams 1 7 20 [some (.ref 0), some (.int w.1), some (.int w.2.1), some (.int w.2.2.1), some (.int w.2.2.2), none, none] [] (zS c s2) _ _) (Y := (fun w => zr kX11_jams 1 7 85 [some (.ref 0), some (.int w.1), some (.int w.2.1), some (.int w.2.2), none, none, none] [] (zS c s2) _ _)) (fun w o h1 h2 h3 => tX11_jams_B20 h1 h2 h3) n _ _ g19 ?_)
  show zr kX11_jams 1 7 85 [some (.ref 0), some (.int w12.1), some (.int w12.2.1), some (.int w12.2.2), none, none, none] [] (zS c s2) _ _
  refine zr_many 1 (pc' := 86) (L' := [some (.ref 0), some (.int w12.1), some (.int w12.2.1), some (.int w12.2.2), none, none, none]) (st' := [.ref 0]) (S1 := zS c s2) rfl ?_
  refine zq_get rfl (zh_0 _) rfl rfl rfl ?_
  refine zr_many 2 (pc' := 91) (L' := [some (.ref 0), some (.int w12.1), some (.int w12.2.1), some (.int w12.2.2), none, none, none]) (st' := [.long w12.2.1.toInt64, .ref 3]) (S1 := zS c s2) rfl ?_
  obtain ⟨s14, g15, h⟩ := zp_inv h
  refine zq_call0 rfl rfl (zh_3 _) rfl rfl rfl ((tX5_tell g15).up (by decide)) rfl ?_
  refine zr_many 1 (pc' := 95) (L' := [some (.ref 0), some (.int w12.1), some (.int w12.2.1), some (.int w12.2.2), none, none, none]) (st' := [.ref 0]) (S1 := zS c s14) rfl ?_
  refine zq_get rfl (zh_0 _) rfl rfl rfl ?_
  refine zr_many 2 (pc' := 100) (L' := [some (.ref 0), some (.int w12.1), some (.int w12.2.1), some (.int w12.2.2), none, none, none]) (st' := [.long w12.2.2.toInt64, .ref 3]) (S1 := zS c s14) rfl ?_
  obtain ⟨s17, g18, h⟩ := zp_inv h
  refine zq_call0 rfl rfl (zh_3 _) rfl rfl rfl ((tX5_add g18).up (by decide)) rfl ?_
  refine zr_many 1 (pc' := 104) (L' := [some (.ref 0), some (.int w12.1), some (.int w12.2.1), some (.int w12.2.2), none, none, none]) (st' := [.int w12.1]) (S1 := zS c s17) rfl ?_
  cases h
  exact zq_iret rfl
def fX11_heard_J19 (n : Nat) (s : zs) : Option (Int32 × zs) := some ((-1 : Int32), s)
theorem tX11_heard_J19 {n : Nat} {c : Nat × Nat} {s : zs} {r : Int32} {s' : zs} (h : fX11_heard_J19 n s = some (r, s')) : zr kX11_heard 1 1 19 [none, none, none] [] (zS c s) (some (.int r)) (zS c s') := by
  unfold fX11_heard_J19 at h
  refine zr_many 1 (pc' := 20) (L' := [none, none, none]) (st' := [.int (-1 : Int32)]) (S1 := zS c s) rfl ?_
  cases h
  exact zq_iret rfl
def fX11_heard_J44 (n : Nat) (s : zs) (y0 : Int32) : Option (Int32 × zs) := some (y0, s)
theorem tX11_heard_J44 {n : Nat} {c : Nat × Nat} {s : zs} {y0 : Int32} {r : Int32} {s' : zs} (h : fX11_heard_J44 n s y0 = some (r, s')) : zr kX11_heard 1 1 44 [none, none, none] [.int y0] (zS c s) (some (.int r)) (zS c s') := by
  unfold fX11_heard_J44 at h
  cases h
  exact zq_iret rfl
def fX11_heard (n : Nat) (s : zs) (x1 : Int32) (x2 : Int32) : Option (Int32 × zs) := if x1 < 0 then fX11_heard_J19 n s else if (26 : Int32) ≤ x1 then fX11_heard_J19 n s else if x2 < 0 then fX11_heard_J19 n s else if x2 ≤ (1 : Int32) then zb (fX4_note n s x1 x2) (fun r5 s6 => if r5 = 0 then fX11_heard_J44 n s6 (-1 : Int32) else zp (fX4_size n s6) (fun r9 => fX11_heard_J44 n s6 r9)) else fX11_heard_J19 n s
theorem tX11_heard {n : Nat} {c : Nat × Nat} {s : zs} {x1 : Int32} {x2 : Int32} {r : Int32} {s' : zs} (h : fX11_heard n s x1 x2 = some (r, s')) : zc 2 2241 [.ref 0, .int x1, .int x2] (zS c s) (some (.int r)) (zS c s') := by
  refine zc_of (k := kX11_heard) (rt := 1) (L := [some (.ref 0), some (.int x1), some (.int x2)]) zm_2241.1 rfl rfl (by decide) rfl rfl ?_
  unfold fX11_heard at h
  refine zr_many 1 (pc' := 1) (L' := [some (.ref 0), some (.int x1), some (.int x2)]) (st' := [.int x1]) (S1 := zS c s) rfl ?_
  refine zq_if1 (b := x1 < 0) rfl Iff.rfl rfl (fun g1 => ?_) (fun g1 => ?_)
  · rw [if_pos g1] at h
    exact zr_wk [none, none, none] trivial (tX11_heard_J19 h)
  · rw [if_neg g1] at h
    refine zr_many 2 (pc' := 7) (L' := [some (.ref 0), some (.int x1), some (.int x2)]) (st' := [.int (26 : Int32), .int x1]) (S1 := zS c s) rfl ?_
    refine zq_if2 (b := (26 : Int32) ≤ x1) rfl Iff.rfl rfl (fun g2 => ?_) (fun g2 => ?_)
    · rw [if_pos g2] at h
      exact zr_wk [none, none, none] trivial (tX11_heard_J19 h)
    · rw [if_neg g2] at h
      refine zr_many 1 (pc' := 11) (L' := [some (.ref 0), some (.int x1), some (.int x2)]) (st' := [.int x2]) (S1 := zS c s) rfl ?_
      refine zq_if1 (b := x2 < 0) rfl Iff.rfl rfl (fun g3 => ?_) (fun g3 => ?_)
      · rw [if_pos g3] at h
        exact zr_wk [none, none, none] trivial (tX11_heard_J19 h)
      · rw [if_neg g3] at h
        refine zr_many 2 (pc' := 16) (L' := [some (.ref 0), some (.int x1), some (.int x2)]) (st' := [.int (1 : Int32), .int x2]) (S1 := zS c s) rfl ?_
        refine zq_if2 (b := x2 ≤ (1 : Int32)) rfl Iff.rfl rfl (fun g4 => ?_) (fun g4 => ?_)
        · rw [if_pos g4] at h
          refine zr_many 1 (pc' := 22) (L' := [some (.ref 0), some (.int x1), some (.int x2)]) (st' := [.ref 0]) (S1 := zS c s) rfl ?_
          refine zq_get rfl (zh_0 _) rfl rfl rfl ?_
          refine zr_many 2 (pc' := 27) (L' := [some (.ref 0), some (.int x1), some (.int x2)]) (st' := [.int x2, .int x1, .ref 43]) (S1 := zS c s) rfl ?_
          obtain ⟨r5, s6, g7, h⟩ := zb_inv h
          refine zq_call1 rfl rfl (zh_43 _) rfl rfl rfl (tX4_note g7) rfl ?_
          refine zq_if1 (b := r5 = 0) rfl Iff.rfl rfl (fun g8 => ?_) (fun g8 => ?_)
          · rw [if_pos g8] at h
            refine zr_many 1 (pc' := 44) (L' := [some (.ref 0), some (.int x1), some (.int x2)]) (st' := [.int (-1 : Int32)]) (S1 := zS c s6) rfl ?_
            exact zr_wk [none, none, none] trivial (tX11_heard_J44 h)
          · rw [if_neg g8] at h
            refine zr_many 1 (pc' := 34) (L' := [some (.ref 0), some (.int x1), some (.int x2)]) (st' := [.ref 0]) (S1 := zS c s6) rfl ?_
            refine zq_get rfl (zh_0 _) rfl rfl rfl ?_
            obtain ⟨r9, g11, h⟩ := zp_inv h
            refine zq_call1 rfl rfl (zh_43 _) rfl rfl rfl (tX4_size g11) rfl ?_
            refine zr_many 1 (pc' := 44) (L' := [some (.ref 0), some (.int x1), some (.int x2)]) (st' := [.int r9]) (S1 := zS c s6) rfl ?_
            exact zr_wk [none, none, none] trivial (tX11_heard_J44 h)
        · rw [if_neg g4] at h
          exact zr_wk [none, none, none] trivial (tX11_heard_J19 h)
def fX11_forget (n : Nat) (s : zs) : Option (Int32 × zs) := zp (fX4_size n s) (fun r1 => zp (fX4_clear n s) (fun s5 => some (r1, s5)))
theorem tX11_forget {n : Nat} {c : Nat × Nat} {s : zs} {r : Int32} {s' : zs} (h : fX11_forget n s = some (r, s')) : zc 2 2242 [.ref 0] (zS c s) (some (.int r)) (zS c s') := by
  refine zc_of (k := kX11_forget) (rt := 1) (L := [some (.ref 0), none]) zm_2242.1 rfl rfl (by decide) rfl rfl ?_
  unfold fX11_forget at h
  refine zr_many 1 (pc' := 1) (L' := [some (.ref 0), none]) (st' := [.ref 0]) (S1 := zS c s) rfl ?_
  refine zq_get rfl (zh_0 _) rfl rfl rfl ?_
  obtain ⟨r1, g3, h⟩ := zp_inv h
  refine zq_call1 rfl rfl (zh_43 _) rfl rfl rfl (tX4_size g3) rfl ?_
  refine zr_many 2 (pc' := 9) (L' := [some (.ref 0), some (.int r1)]) (st' := [.ref 0]) (S1 := zS c s) rfl ?_
  refine zq_get rfl (zh_0 _) rfl rfl rfl ?_
  obtain ⟨s5, g6, h⟩ := zp_inv h
  refine zq_call0 rfl rfl (zh_43 _) rfl rfl rfl (tX4_clear g6) rfl ?_
  refine zr_many 1 (pc' := 16) (L' := [some (.ref 0), some (.int r1)]) (st' := [.int r1]) (S1 := zS c s5) rfl ?_
  cases h
  exact zq_iret rfl
def fX11_who (n : Nat) (s : zs) : Option (Int32 × zs) := zp (fX4_fitting n s) (fun r1 => zp (fJ6_bitCount_0f7a4 n s r1) (fun r4 => zp (fX5_tell n s r4.toInt64) (fun s8 => some (r1, s8))))
theorem tX11_who {n : Nat} {c : Nat × Nat} {s : zs} {r : Int32} {s' : zs} (h : fX11_who n s = some (r, s')) : zc 3 2243 [.ref 0] (zS c s) (some (.int r)) (zS c s') := by
  refine zc_of (k := kX11_who) (rt := 1) (L := [some (.ref 0), none]) zm_2243.1 rfl rfl (by decide) rfl rfl ?_
  unfold fX11_who at h
  refine zr_many 1 (pc' := 1) (L' := [some (.ref 0), none]) (st' := [.ref 0]) (S1 := zS c s) rfl ?_
  refine zq_get rfl (zh_0 _) rfl rfl rfl ?_
  obtain ⟨r1, g3, h⟩ := zp_inv h
  refine zq_call1 rfl rfl (zh_43 _) rfl rfl rfl ((tX4_fitting g3).up (by decide)) rfl ?_
  refine zr_many 2 (pc' := 9) (L' := [some (.ref 0), some (.int r1)]) (st' := [.ref 0]) (S1 := zS c s) rfl ?_
  refine zq_get rfl (zh_0 _) rfl rfl rfl ?_
  refine zr_many 1 (pc' := 13) (L' := [some (.ref 0), some (.int r1)]) (st' := [.int r1, .ref 3]) (S1 := zS c s) rfl ?_
  obtain ⟨r4, g6, h⟩ := zp_inv h
  refine zq_scall1 rfl (by decide) rfl rfl ((tJ6_bitCount_0f7a4 g6).up (by decide)) rfl ?_
  refine zr_many 1 (pc' := 17) (L' := [some (.ref 0), some (.int r1)]) (st' := [.long r4.toInt64, .ref 3]) (S1 := zS c s) rfl ?_
  obtain ⟨s8, g9, h⟩ := zp_inv h
  refine zq_call0 rfl rfl (zh_3 _) rfl rfl rfl (tX5_tell g9) rfl ?_
  refine zr_many 1 (pc' := 21) (L' := [some (.ref 0), some (.int r1)]) (st' := [.int r1]) (S1 := zS c s8) rfl ?_
  cases h
  exact zq_iret rfl
def fX11_listen_J54 (n : Nat) (s : zs) (x1 : Int32) (x2 : Int32) (x3 : Int32) (x4 : Int32) : Option ((Int32 × Int32 × Int32) ⊕ (Int32 × Int32)) := some (Sum.inl (x2, x3, (x4 + (1 : Int32))))
theorem tX11_listen_J54 {n : Nat} {c : Nat × Nat} {s : zs} {x1 : Int32} {x2 : Int32} {x3 : Int32} {x4 : Int32} {o : _} {v : Option Value} {S' : zi_S} (h : fX11_listen_J54 n s x1 x2 x3 x4 = some o) (hn : ∀ w, o = Sum.inl w → zr kX11_listen 1 2 23 [some (.ref 0), some (.int x1), some (.int w.1), some (.int w.2.1), some (.int w.2.2), none] [] (zS c s) v S') (hx : ∀ w, o = Sum.inr w → (fun w => zr kX11_listen 1 2 60 [some (.ref 0), none, some (.int w.1), some (.int w.2), none, none] [] (zS c s) v S') w) : zr kX11_listen 1 2 54 [some (.ref 0), some (.int x1), some (.int x2), some (.int x3), some (.int x4), none] [] (zS c s) v S' := by
  unfold fX11_listen_J54 at h
  refine zr_many 2 (pc' := 23) (L' := [some (.ref 0), some (.int x1), some (.int x2), some (.int x3), some (.int (x4 + (1 : Int32))), none]) (st' := []) (S1 := zS c s) rfl ?_
  cases h
  exact zr_wk [some (.ref 0), some (.int x1), some (.int x2), some (.int x3), some (.int (x4 + (1 : Int32))), none] ⟨rfl, rfl, rfl, rfl, rfl, trivial⟩ (hn _ rfl)
def fX11_listen_B23 (n : Nat) (s : zs) (x1 : Int32) (w : Int32 × Int32 × Int32) : Option ((Int32 × Int32 × Int32) ⊕ (Int32 × Int32)) := if (26 : Int32) ≤ w.2.2 then some (Sum.inr (w.1, w.2.1)) else zp (fX4_leftAtMost n s x1 w.2.2) (fun r6 => if w.2.1 ≤ r6 then fX11_listen_J54 n s x1 w.1 w.2.1 w.2.2 else fX11_listen_J54 n s x1 w.2.2 r6 w.2.2)
theorem tX11_listen_B23 {n : Nat} {c : Nat × Nat} {s : zs} {x1 : Int32} {w : Int32 × Int32 × Int32} {o : _} {v : Option Value} {S' : zi_S} (h : fX11_listen_B23 n s x1 w = some o) (hn : ∀ w, o = Sum.inl w → zr kX11_listen 1 2 23 [some (.ref 0), some (.int x1), some (.int w.1), some (.int w.2.1), some (.int w.2.2), none] [] (zS c s) v S') (hx : ∀ w, o = Sum.inr w → (fun w => zr kX11_listen 1 2 60 [some (.ref 0), none, some (.int w.1), some (.int w.2), none, none] [] (zS c s) v S') w) : zr kX11_listen 1 2 23 [some (.ref 0), some (.int x1), some (.int w.1), some (.int w.2.1), some (.int w.2.2), none] [] (zS c s) v S' := by
  unfold fX11_listen_B23 at h
  refine zr_many 2 (pc' := 27) (L' := [some (.ref 0), some (.int x1), some (.int w.1), some (.int w.2.1), some (.int w.2.2), none]) (st' := [.int (26 : Int32), .int w.2.2]) (S1 := zS c s) rfl ?_
  refine zq_if2 (b := (26 : Int32) ≤ w.2.2) rfl Iff.rfl rfl (fun g5 => ?_) (fun g5 => ?_)
  · rw [if_pos g5] at h
    cases h
    exact zr_wk [some (.ref 0), none, some (.int w.1), some (.int w.2.1), none, none] ⟨rfl, rfl, rfl, trivial⟩ (hx _ rfl)
  · rw [if_neg g5] at h
    refine zr_many 1 (pc' := 31) (L' := [some (.ref 0), some (.int x1), some (.int w.1), some (.int w.2.1), some (.int w.2.2), none]) (st' := [.ref 0]) (S1 := zS c s) rfl ?_
    refine zq_get rfl (zh_0 _) rfl rfl rfl ?_
    refine zr_many 2 (pc' := 37) (L' := [some (.ref 0), some (.int x1), some (.int w.1), some (.int w.2.1), some (.int w.2.2), none]) (st' := [.int w.2.2, .int x1, .ref 43]) (S1 := zS c s) rfl ?_
    obtain ⟨r6, g8, h⟩ := zp_inv h
    refine zq_call1 rfl rfl (zh_43 _) rfl rfl rfl (tX4_leftAtMost g8) rfl ?_
    refine zr_many 3 (pc' := 45) (L' := [some (.ref 0), some (.int x1), some (.int w.1), some (.int w.2.1), some (.int w.2.2), some (.int r6)]) (st' := [.int w.2.1, .int r6]) (S1 := zS c s) rfl ?_
    refine zq_if2 (b := w.2.1 ≤ r6) rfl Iff.rfl rfl (fun g9 => ?_) (fun g9 => ?_)
    · rw [if_pos g9] at h
      exact zr_wk [some (.ref 0), some (.int x1), some (.int w.1), some (.int w.2.1), some (.int w.2.2), none] ⟨rfl, rfl, rfl, rfl, rfl, trivial⟩ (tX11_listen_J54 h hn hx)
    · rw [if_neg g9] at h
      refine zr_many 4 (pc' := 54) (L' := [some (.ref 0), some (.int x1), some (.int w.2.2), some (.int r6), some (.int w.2.2), some (.int r6)]) (st' := []) (S1 := zS c s) rfl ?_
      exact zr_wk [some (.ref 0), some (.int x1), some (.int w.2.2), some (.int r6), some (.int w.2.2), none] ⟨rfl, rfl, rfl, rfl, rfl, trivial⟩ (tX11_listen_J54 h hn hx)
def fX11_listen (n : Nat) (s : zs) : Option (Int32 × zs) := zp (fX4_fitting n s) (fun r1 => if ¬ r1 = 0 then zp (zl (fX11_listen_B23 n s r1) n ((0 : Int32), (9 : Int32), (0 : Int32))) (fun w10 => zp (fX5_tell n s w10.2.toInt64) (fun s12 => some (w10.1, s12))) else some ((-2 : Int32), s))
theorem tX11_listen {n : Nat} {c : Nat × Nat} {s : zs} {r : Int32} {s' : zs} (h : fX11_listen n s = some (r, s')) : zc 3 2244 [.ref 0] (zS c s) (some (.int r)) (zS c s') := by
  refine zc_of (k := kX11_listen) (rt := 1) (L := [some (.ref 0), none, none, none, none, none]) zm_2244.1 rfl rfl (by decide) rfl rfl ?_
  unfold fX11_listen at h
  refine zr_many 1 (pc' := 1) (L' := [some (.ref 0), none, none, none, none, none]) (st' := [.ref 0]) (S1 := zS c s) rfl ?_
  refine zq_get rfl (zh_0 _) rfl rfl rfl ?_
  obtain ⟨r1, g3, h⟩ := zp_inv h
  refine zq_call1 rfl rfl (zh_43 _) rfl rfl rfl ((tX4_fitting g3).up (by decide)) rfl ?_
  refine zr_many 2 (pc' := 9) (L' := [some (.ref 0), some (.int r1), none, none, none, none]) (st' := [.int r1]) (S1 := zS c s) rfl ?_
  refine zq_if1 (b := ¬ r1 = 0) rfl Iff.rfl rfl (fun g4 => ?_) (fun g4 => ?_)
  · rw [if_pos g4] at h
    refine zr_many 6 (pc' := 23) (L' := [some (.ref 0), some (.int r1), some (.int (0 : Int32)), some (.int (9 : Int32)), some (.int (0 : Int32)), none]) (st' := []) (S1 := zS c s) rfl ?_
    obtain ⟨w10, g14, h⟩ := zp_inv h
    refine zr_wk [some (.ref 0), some (.int r1), some (.int (0 : Int32)), some (.int (9 : Int32)), some (.int (0 : Int32)), none] ⟨rfl, rfl, rfl, rfl, rfl, trivial⟩ (zl_cert (Z := fun w => zr kX11_listen 1 2 23 [some (.ref 0), some (.int r1), some (.int w.1), some (.int w.2.1), some (.int w.2.2), none] [] (zS c s) _ _) (Y := (fun w => zr kX11_listen 1 2 60 [some (.ref 0), none, some (.int w.1), some (.int w.2), none, none] [] (zS c s) _ _)) (fun w o h1 h2 h3 => tX11_listen_B23 h1 h2 h3) n _ _ g14 ?_)
    show zr kX11_listen 1 2 60 [some (.ref 0), none, some (.int w10.1), some (.int w10.2), none, none] [] (zS c s) _ _
    refine zr_many 1 (pc' := 61) (L' := [some (.ref 0), none, some (.int w10.1), some (.int w10.2), none, none]) (st' := [.ref 0]) (S1 := zS c s) rfl ?_
    refine zq_get rfl (zh_0 _) rfl rfl rfl ?_
    refine zr_many 2 (pc' := 66) (L' := [some (.ref 0), none, some (.int w10.1), some (.int w10.2), none, none]) (st' := [.long w10.2.toInt64, .ref 3]) (S1 := zS c s) rfl ?_
    obtain ⟨s12, g13, h⟩ := zp_inv h
    refine zq_call0 rfl rfl (zh_3 _) rfl rfl rfl (tX5_tell g13) rfl ?_
    refine zr_many 1 (pc' := 70) (L' := [some (.ref 0), none, some (.int w10.1), some (.int w10.2), none, none]) (st' := [.int w10.1]) (S1 := zS c s12) rfl ?_
    cases h
    exact zq_iret rfl
  · rw [if_neg g4] at h
    refine zr_many 1 (pc' := 14) (L' := [some (.ref 0), some (.int r1), none, none, none, none]) (st' := [.int (-2 : Int32)]) (S1 := zS c s) rfl ?_
    cases h
    exact zq_iret rfl
def fX11_power_B5 (n : Nat) (s : zs) (x0 : Int64) (x2 : Int32) (w : Int64 × Int32) : Option ((Int64 × Int32) ⊕ (Int64)) := if x2 ≤ w.2 then some (Sum.inr w.1) else some (Sum.inl ((w.1 * x0), (w.2 + (1 : Int32))))
theorem tX11_power_B5 {n : Nat} {c : Nat × Nat} {s : zs} {x0 : Int64} {x2 : Int32} {w : Int64 × Int32} {o : _} {v : Option Value} {S' : zi_S} (h : fX11_power_B5 n s x0 x2 w = some o) (hn : ∀ w, o = Sum.inl w → zr kX11_power 3 0 5 [some (.long x0), none, some (.int x2), some (.long w.1), none, some (.int w.2)] [] (zS c s) v S') (hx : ∀ w, o = Sum.inr w → (fun w => zr kX11_power 3 0 21 [none, none, none, some (.long w), none, none] [] (zS c s) v S') w) : zr kX11_power 3 0 5 [some (.long x0), none, some (.int x2), some (.long w.1), none, some (.int w.2)] [] (zS c s) v S' := by
  unfold fX11_power_B5 at h
  refine zr_many 2 (pc' := 8) (L' := [some (.long x0), none, some (.int x2), some (.long w.1), none, some (.int w.2)]) (st' := [.int x2, .int w.2]) (S1 := zS c s) rfl ?_
  refine zq_if2 (b := x2 ≤ w.2) rfl Iff.rfl rfl (fun g1 => ?_) (fun g1 => ?_)
  · rw [if_pos g1] at h
    cases h
    exact zr_wk [none, none, none, some (.long w.1), none, none] ⟨rfl, trivial⟩ (hx _ rfl)
  · rw [if_neg g1] at h
    refine zr_many 6 (pc' := 5) (L' := [some (.long x0), none, some (.int x2), some (.long (w.1 * x0)), none, some (.int (w.2 + (1 : Int32)))]) (st' := []) (S1 := zS c s) rfl ?_
    cases h
    exact zr_wk [some (.long x0), none, some (.int x2), some (.long (w.1 * x0)), none, some (.int (w.2 + (1 : Int32)))] ⟨rfl, rfl, rfl, rfl, trivial⟩ (hn _ rfl)
def fX11_power (n : Nat) (s : zs) (x0 : Int64) (x2 : Int32) : Option Int64 := zp (zl (fX11_power_B5 n s x0 x2) n ((1 : Int64), (0 : Int32))) (fun w2 => some w2)
theorem tX11_power {n : Nat} {c : Nat × Nat} {s : zs} {x0 : Int64} {x2 : Int32} {r : Int64} (h : fX11_power n s x0 x2 = some r) : zc 1 2252 [.long x0, .int x2] (zS c s) (some (.long r)) (zS c s) := by
  refine zc_of (k := kX11_power) (rt := 3) (L := [some (.long x0), none, some (.int x2), none, none, none]) zm_2252.1 rfl rfl (by decide) rfl rfl ?_
  unfold fX11_power at h
  refine zr_many 4 (pc' := 5) (L' := [some (.long x0), none, some (.int x2), some (.long (1 : Int64)), none, some (.int (0 : Int32))]) (st' := []) (S1 := zS c s) rfl ?_
  obtain ⟨w2, g3, h⟩ := zp_inv h
  refine zr_wk [some (.long x0), none, some (.int x2), some (.long (1 : Int64)), none, some (.int (0 : Int32))] ⟨rfl, rfl, rfl, rfl, trivial⟩ (zl_cert (Z := fun w => zr kX11_power 3 0 5 [some (.long x0), none, some (.int x2), some (.long w.1), none, some (.int w.2)] [] (zS c s) _ _) (Y := (fun w => zr kX11_power 3 0 21 [none, none, none, some (.long w), none, none] [] (zS c s) _ _)) (fun w o h1 h2 h3 => tX11_power_B5 h1 h2 h3) n _ _ g3 ?_)
  show zr kX11_power 3 0 21 [none, none, none, some (.long w2), none, none] [] (zS c s) _ _
  refine zr_many 1 (pc' := 22) (L' := [none, none, none, some (.long w2), none, none]) (st' := [.long w2]) (S1 := zS c s) rfl ?_
  cases h
  exact zq_lret rfl
def fX11_chances (n : Nat) (s : zs) (x0 : Int32) (x1 : Int32) : Option Int64 := zp (fX11_power n s (((10 : Int32) - x1).toInt64) (4 : Int32)) (fun r1 => zp (fX11_power n s (10000 : Int64) x0) (fun r4 => zp (fX11_power n s ((10000 : Int64) - r1) x0) (fun r7 => some (r4 - r7))))
theorem tX11_chances {n : Nat} {c : Nat × Nat} {s : zs} {x0 : Int32} {x1 : Int32} {r : Int64} (h : fX11_chances n s x0 x1 = some r) : zc 2 2251 [.int x0, .int x1] (zS c s) (some (.long r)) (zS c s) := by
  refine zc_of (k := kX11_chances) (rt := 3) (L := [some (.int x0), some (.int x1), none, none]) zm_2251.1 rfl rfl (by decide) rfl rfl ?_
  unfold fX11_chances at h
  refine zr_many 5 (pc' := 6) (L' := [some (.int x0), some (.int x1), none, none]) (st' := [.int (4 : Int32), .long ((10 : Int32) - x1).toInt64]) (S1 := zS c s) rfl ?_
  obtain ⟨r1, g3, h⟩ := zp_inv h
  refine zq_scall1 rfl (by decide) rfl rfl (tX11_power g3) rfl ?_
  refine zr_many 3 (pc' := 14) (L' := [some (.int x0), some (.int x1), some (.long r1), none]) (st' := [.int x0, .long (10000 : Int64)]) (S1 := zS c s) rfl ?_
  obtain ⟨r4, g6, h⟩ := zp_inv h
  refine zq_scall1 rfl (by decide) rfl rfl (tX11_power g6) rfl ?_
  refine zr_many 4 (pc' := 23) (L' := [some (.int x0), some (.int x1), some (.long r1), none]) (st' := [.int x0, .long ((10000 : Int64) - r1), .long r4]) (S1 := zS c s) rfl ?_
  obtain ⟨r7, g9, h⟩ := zp_inv h
  refine zq_scall1 rfl (by decide) rfl rfl (tX11_power g9) rfl ?_
  refine zr_many 1 (pc' := 27) (L' := [some (.int x0), some (.int x1), some (.long r1), none]) (st' := [.long (r4 - r7)]) (S1 := zS c s) rfl ?_
  cases h
  exact zq_lret rfl
def fX11_commonDivisor_B3 (n : Nat) (s : zs) (w : Int64 × Int64 × Int32) : Option ((Int64 × Int64 × Int32) ⊕ (Int64)) := if (1000 : Int32) ≤ w.2.2 then some (Sum.inr w.1) else if (lg_cmp w.2.1 (0 : Int64)) = 0 then some (Sum.inr w.1) else if w.2.1 = 0 then none else (some (Sum.inl (w.2.1, (w.1 - w.1 / w.2.1 * w.2.1), (w.2.2 + (1 : Int32)))))
theorem tX11_commonDivisor_B3 {n : Nat} {c : Nat × Nat} {s : zs} {w : Int64 × Int64 × Int32} {o : _} {v : Option Value} {S' : zi_S} (h : fX11_commonDivisor_B3 n s w = some o) (hn : ∀ w, o = Sum.inl w → zr kX11_commonDivisor 3 0 3 [some (.long w.1), none, some (.long w.2.1), none, some (.int w.2.2), none, none] [] (zS c s) v S') (hx : ∀ w, o = Sum.inr w → (fun w => zr kX11_commonDivisor 3 0 33 [some (.long w), none, none, none, none, none, none] [] (zS c s) v S') w) : zr kX11_commonDivisor 3 0 3 [some (.long w.1), none, some (.long w.2.1), none, some (.int w.2.2), none, none] [] (zS c s) v S' := by
  unfold fX11_commonDivisor_B3 at h
  refine zr_many 2 (pc' := 8) (L' := [some (.long w.1), none, some (.long w.2.1), none, some (.int w.2.2), none, none]) (st' := [.int (1000 : Int32), .int w.2.2]) (S1 := zS c s) rfl ?_
  refine zq_if2 (b := (1000 : Int32) ≤ w.2.2) rfl Iff.rfl rfl (fun g1 => ?_) (fun g1 => ?_)
  · rw [if_pos g1] at h
    cases h
    exact zr_wk [some (.long w.1), none, none, none, none, none, none] ⟨rfl, trivial⟩ (hx _ rfl)
  · rw [if_neg g1] at h
    refine zr_many 3 (pc' := 14) (L' := [some (.long w.1), none, some (.long w.2.1), none, some (.int w.2.2), none, none]) (st' := [.int (lg_cmp w.2.1 (0 : Int64))]) (S1 := zS c s) rfl ?_
    refine zq_if1 (b := (lg_cmp w.2.1 (0 : Int64)) = 0) rfl Iff.rfl rfl (fun g2 => ?_) (fun g2 => ?_)
    · rw [if_pos g2] at h
      cases h
      exact zr_wk [some (.long w.1), none, none, none, none, none, none] ⟨rfl, trivial⟩ (hx _ rfl)
    · rw [if_neg g2] at h
      refine zr_many 2 (pc' := 19) (L' := [some (.long w.1), none, some (.long w.2.1), none, some (.int w.2.2), none, none]) (st' := [.long w.2.1, .long w.1]) (S1 := zS c s) rfl ?_
      obtain ⟨g3, h⟩ := zn_inv h
      refine zq_lrem rfl g3 rfl ?_
      refine zr_many 7 (pc' := 3) (L' := [some (.long w.2.1), none, some (.long (w.1 - w.1 / w.2.1 * w.2.1)), none, some (.int (w.2.2 + (1 : Int32))), some (.long (w.1 - w.1 / w.2.1 * w.2.1)), none]) (st' := []) (S1 := zS c s) rfl ?_
      cases h
      exact zr_wk [some (.long w.2.1), none, some (.long (w.1 - w.1 / w.2.1 * w.2.1)), none, some (.int (w.2.2 + (1 : Int32))), none, none] ⟨rfl, rfl, rfl, trivial⟩ (hn _ rfl)
def fX11_commonDivisor_J33 (n : Nat) (s : zs) (x0 : Int64) : Option Int64 := some x0
theorem tX11_commonDivisor_J33 {n : Nat} {c : Nat × Nat} {s : zs} {x0 : Int64} {r : Int64} (h : fX11_commonDivisor_J33 n s x0 = some r) : zr kX11_commonDivisor 3 0 33 [some (.long x0), none, none, none, none, none, none] [] (zS c s) (some (.long r)) (zS c s) := by
  unfold fX11_commonDivisor_J33 at h
  refine zr_many 1 (pc' := 34) (L' := [some (.long x0), none, none, none, none, none, none]) (st' := [.long x0]) (S1 := zS c s) rfl ?_
  cases h
  exact zq_lret rfl
def fX11_commonDivisor (n : Nat) (s : zs) (x0 : Int64) (x2 : Int64) : Option Int64 := zp (zl (fX11_commonDivisor_B3 n s) n (x0, x2, (0 : Int32))) (fun w4 => fX11_commonDivisor_J33 n s w4)
theorem tX11_commonDivisor {n : Nat} {c : Nat × Nat} {s : zs} {x0 : Int64} {x2 : Int64} {r : Int64} (h : fX11_commonDivisor n s x0 x2 = some r) : zc 1 2253 [.long x0, .long x2] (zS c s) (some (.long r)) (zS c s) := by
  refine zc_of (k := kX11_commonDivisor) (rt := 3) (L := [some (.long x0), none, some (.long x2), none, none, none, none]) zm_2253.1 rfl rfl (by decide) rfl rfl ?_
  unfold fX11_commonDivisor at h
  refine zr_many 2 (pc' := 3) (L' := [some (.long x0), none, some (.long x2), none, some (.int (0 : Int32)), none, none]) (st' := []) (S1 := zS c s) rfl ?_
  obtain ⟨w4, g5, h⟩ := zp_inv h
  refine zr_wk [some (.long x0), none, some (.long x2), none, some (.int (0 : Int32)), none, none] ⟨rfl, rfl, rfl, trivial⟩ (zl_cert (Z := fun w => zr kX11_commonDivisor 3 0 3 [some (.long w.1), none, some (.long w.2.1), none, some (.int w.2.2), none, none] [] (zS c s) _ _) (Y := (fun w => zr kX11_commonDivisor 3 0 33 [some (.long w), none, none, none, none, none, none] [] (zS c s) _ _)) (fun w o h1 h2 h3 => tX11_commonDivisor_B3 h1 h2 h3) n _ _ g5 ?_)
  show zr kX11_commonDivisor 3 0 33 [some (.long w4), none, none, none, none, none, none] [] (zS c s) _ _
  exact zr_wk [some (.long w4), none, none, none, none, none, none] ⟨rfl, trivial⟩ (tX11_commonDivisor_J33 h)
def fX11_opens_J20 (n : Nat) (s : zs) : Option (Int32 × zs) := some ((-1 : Int32), s)
theorem tX11_opens_J20 {n : Nat} {c : Nat × Nat} {s : zs} {r : Int32} {s' : zs} (h : fX11_opens_J20 n s = some (r, s')) : zr kX11_opens 1 2 20 [none, none, none, none, none, none, none, none, none] [] (zS c s) (some (.int r)) (zS c s') := by
  unfold fX11_opens_J20 at h
  refine zr_many 1 (pc' := 21) (L' := [none, none, none, none, none, none, none, none, none]) (st' := [.int (-1 : Int32)]) (S1 := zS c s) rfl ?_
  cases h
  exact zq_iret rfl
def fX11_opens_J75 (n : Nat) (s : zs) : Option (Int32 × zs) := some ((0 : Int32), s)
theorem tX11_opens_J75 {n : Nat} {c : Nat × Nat} {s : zs} {r : Int32} {s' : zs} (h : fX11_opens_J75 n s = some (r, s')) : zr kX11_opens 1 2 75 [none, none, none, none, none, none, none, none, none] [] (zS c s) (some (.int r)) (zS c s') := by
  unfold fX11_opens_J75 at h
  refine zr_many 1 (pc' := 76) (L' := [none, none, none, none, none, none, none, none, none]) (st' := [.int (0 : Int32)]) (S1 := zS c s) rfl ?_
  cases h
  exact zq_iret rfl
def fX11_opens (n : Nat) (s : zs) (x1 : Int32) (x2 : Int32) : Option (Int32 × zs) := if x1 < (1 : Int32) then fX11_opens_J20 n s else if (4 : Int32) < x1 then fX11_opens_J20 n s else if x2 < 0 then fX11_opens_J20 n s else if x2 ≤ (10 : Int32) then zp (fX11_chances n s x1 x2) (fun r5 => zp (fX11_power n s (10000 : Int64) x1) (fun r8 => zp (fX11_commonDivisor n s r5 r8) (fun r11 => if (lg_cmp r11 (0 : Int64)) ≤ 0 then fX11_opens_J75 n s else if r11 = 0 then none else (zp (fX5_tell n s (r5 / r11)) (fun s16 => if r11 = 0 then none else (zp (fX5_add n s16 (r8 / r11)) (fun s19 => fX11_opens_J75 n s19))))))) else fX11_opens_J20 n s
theorem tX11_opens {n : Nat} {c : Nat × Nat} {s : zs} {x1 : Int32} {x2 : Int32} {r : Int32} {s' : zs} (h : fX11_opens n s x1 x2 = some (r, s')) : zc 3 2246 [.ref 0, .int x1, .int x2] (zS c s) (some (.int r)) (zS c s') := by
  refine zc_of (k := kX11_opens) (rt := 1) (L := [some (.ref 0), some (.int x1), some (.int x2), none, none, none, none, none, none]) zm_2246.1 rfl rfl (by decide) rfl rfl ?_
  unfold fX11_opens at h
  refine zr_many 2 (pc' := 2) (L' := [some (.ref 0), some (.int x1), some (.int x2), none, none, none, none, none, none]) (st' := [.int (1 : Int32), .int x1]) (S1 := zS c s) rfl ?_
  refine zq_if2 (b := x1 < (1 : Int32)) rfl Iff.rfl rfl (fun g1 => ?_) (fun g1 => ?_)
  · rw [if_pos g1] at h
    exact zr_wk [none, none, none, none, none, none, none, none, none] trivial (tX11_opens_J20 h)
  · rw [if_neg g1] at h
    refine zr_many 2 (pc' := 7) (L' := [some (.ref 0), some (.int x1), some (.int x2), none, none, none, none, none, none]) (st' := [.int (4 : Int32), .int x1]) (S1 := zS c s) rfl ?_
    refine zq_if2 (b := (4 : Int32) < x1) rfl Iff.rfl rfl (fun g2 => ?_) (fun g2 => ?_)
    · rw [if_pos g2] at h
      exact zr_wk [none, none, none, none, none, none, none, none, none] trivial (tX11_opens_J20 h)
    · rw [if_neg g2] at h
      refine zr_many 1 (pc' := 11) (L' := [some (.ref 0), some (.int x1), some (.int x2), none, none, none, none, none, none]) (st' := [.int x2]) (S1 := zS c s) rfl ?_
      refine zq_if1 (b := x2 < 0) rfl Iff.rfl rfl (fun g3 => ?_) (fun g3 => ?_)
      · rw [if_pos g3] at h
        exact zr_wk [none, none, none, none, none, none, none, none, none] trivial (tX11_opens_J20 h)
      · rw [if_neg g3] at h
        refine zr_many 2 (pc' := 17) (L' := [some (.ref 0), some (.int x1), some (.int x2), none, none, none, none, none, none]) (st' := [.int (10 : Int32), .int x2]) (S1 := zS c s) rfl ?_
        refine zq_if2 (b := x2 ≤ (10 : Int32)) rfl Iff.rfl rfl (fun g4 => ?_) (fun g4 => ?_)
        · rw [if_pos g4] at h
          refine zr_many 2 (pc' := 24) (L' := [some (.ref 0), some (.int x1), some (.int x2), none, none, none, none, none, none]) (st' := [.int x2, .int x1]) (S1 := zS c s) rfl ?_
          obtain ⟨r5, g7, h⟩ := zp_inv h
          refine zq_scall1 rfl (by decide) rfl rfl (tX11_chances g7) rfl ?_
          refine zr_many 3 (pc' := 32) (L' := [some (.ref 0), some (.int x1), some (.int x2), some (.long r5), none, none, none, none, none]) (st' := [.int x1, .long (10000 : Int64)]) (S1 := zS c s) rfl ?_
          obtain ⟨r8, g10, h⟩ := zp_inv h
          refine zq_scall1 rfl (by decide) rfl rfl ((tX11_power g10).up (by decide)) rfl ?_
          refine zr_many 3 (pc' := 40) (L' := [some (.ref 0), some (.int x1), some (.int x2), some (.long r5), none, some (.long r8), none, none, none]) (st' := [.long r8, .long r5]) (S1 := zS c s) rfl ?_
          obtain ⟨r11, g13, h⟩ := zp_inv h
          refine zq_scall1 rfl (by decide) rfl rfl ((tX11_commonDivisor g13).up (by decide)) rfl ?_
          refine zr_many 4 (pc' := 49) (L' := [some (.ref 0), some (.int x1), some (.int x2), some (.long r5), none, some (.long r8), none, some (.long r11), none]) (st' := [.int (lg_cmp r11 (0 : Int64))]) (S1 := zS c s) rfl ?_
          refine zq_if1 (b := (lg_cmp r11 (0 : Int64)) ≤ 0) rfl Iff.rfl rfl (fun g14 => ?_) (fun g14 => ?_)
          · rw [if_pos g14] at h
            exact zr_wk [none, none, none, none, none, none, none, none, none] trivial (tX11_opens_J75 h)
          · rw [if_neg g14] at h
            refine zr_many 1 (pc' := 53) (L' := [some (.ref 0), some (.int x1), some (.int x2), some (.long r5), none, some (.long r8), none, some (.long r11), none]) (st' := [.ref 0]) (S1 := zS c s) rfl ?_
            refine zq_get rfl (zh_0 _) rfl rfl rfl ?_
            refine zr_many 2 (pc' := 59) (L' := [some (.ref 0), some (.int x1), some (.int x2), some (.long r5), none, some (.long r8), none, some (.long r11), none]) (st' := [.long r11, .long r5, .ref 3]) (S1 := zS c s) rfl ?_
            obtain ⟨g21, h⟩ := zn_inv h
            refine zq_ldiv rfl g21 rfl ?_
            obtain ⟨s16, g17, h⟩ := zp_inv h
            refine zq_call0 rfl rfl (zh_3 _) rfl rfl rfl (tX5_tell g17) rfl ?_
            refine zr_many 1 (pc' := 64) (L' := [some (.ref 0), some (.int x1), some (.int x2), some (.long r5), none, some (.long r8), none, some (.long r11), none]) (st' := [.ref 0]) (S1 := zS c s16) rfl ?_
            refine zq_get rfl (zh_0 _) rfl rfl rfl ?_
            refine zr_many 2 (pc' := 71) (L' := [some (.ref 0), some (.int x1), some (.int x2), some (.long r5), none, some (.long r8), none, some (.long r11), none]) (st' := [.long r11, .long r8, .ref 3]) (S1 := zS c s16) rfl ?_
            obtain ⟨g22, h⟩ := zn_inv h
            refine zq_ldiv rfl g22 rfl ?_
            obtain ⟨s19, g20, h⟩ := zp_inv h
            refine zq_call0 rfl rfl (zh_3 _) rfl rfl rfl ((tX5_add g20).up (by decide)) rfl ?_
            exact zr_wk [none, none, none, none, none, none, none, none, none] trivial (tX11_opens_J75 h)
        · rw [if_neg g4] at h
          exact zr_wk [none, none, none, none, none, none, none, none, none] trivial (tX11_opens_J20 h)
def fX11_tries_J20 (n : Nat) (s : zs) : Option Int32 := some (-1 : Int32)
theorem tX11_tries_J20 {n : Nat} {c : Nat × Nat} {s : zs} {r : Int32} (h : fX11_tries_J20 n s = some r) : zr kX11_tries 1 2 20 [none, none, none, none] [] (zS c s) (some (.int r)) (zS c s) := by
  unfold fX11_tries_J20 at h
  refine zr_many 1 (pc' := 21) (L' := [none, none, none, none]) (st' := [.int (-1 : Int32)]) (S1 := zS c s) rfl ?_
  cases h
  exact zq_iret rfl
def fX11_tries_B24 (n : Nat) (s : zs) (x1 : Int32) (x2 : Int32) (w : Int32) : Option ((Int32) ⊕ ((Int32) ⊕ (Unit))) := if (4 : Int32) < w then some (Sum.inr (Sum.inr ())) else zp (fX11_chances n s w x1) (fun r6 => zp (fX11_power n s (10000 : Int64) w) (fun r9 => if (lg_cmp (r6 * (100 : Int64)) (x2.toInt64 * r9)) < 0 then some (Sum.inl (w + (1 : Int32))) else some (Sum.inr (Sum.inl w))))
theorem tX11_tries_B24 {n : Nat} {c : Nat × Nat} {s : zs} {x1 : Int32} {x2 : Int32} {w : Int32} {o : _} {v : Option Value} {S' : zi_S} (h : fX11_tries_B24 n s x1 x2 w = some o) (hn : ∀ w, o = Sum.inl w → zr kX11_tries 1 2 24 [none, some (.int x1), some (.int x2), some (.int w)] [] (zS c s) v S') (hx : ∀ w, o = Sum.inr w → (Sum.elim (fun w => zr kX11_tries 1 2 52 [none, none, none, some (.int w)] [] (zS c s) v S') (fun w => zr kX11_tries 1 2 60 [none, none, none, none] [] (zS c s) v S')) w) : zr kX11_tries 1 2 24 [none, some (.int x1), some (.int x2), some (.int w)] [] (zS c s) v S' := by
  unfold fX11_tries_B24 at h
  refine zr_many 2 (pc' := 26) (L' := [none, some (.int x1), some (.int x2), some (.int w)]) (st' := [.int (4 : Int32), .int w]) (S1 := zS c s) rfl ?_
  refine zq_if2 (b := (4 : Int32) < w) rfl Iff.rfl rfl (fun g5 => ?_) (fun g5 => ?_)
  · rw [if_pos g5] at h
    cases h
    exact zr_wk [none, none, none, none] trivial (hx _ rfl)
  · rw [if_neg g5] at h
    refine zr_many 2 (pc' := 31) (L' := [none, some (.int x1), some (.int x2), some (.int w)]) (st' := [.int x1, .int w]) (S1 := zS c s) rfl ?_
    obtain ⟨r6, g8, h⟩ := zp_inv h
    refine zq_scall1 rfl (by decide) rfl rfl (tX11_chances g8) rfl ?_
    refine zr_many 6 (pc' := 44) (L' := [none, some (.int x1), some (.int x2), some (.int w)]) (st' := [.int w, .long (10000 : Int64), .long x2.toInt64, .long (r6 * (100 : Int64))]) (S1 := zS c s) rfl ?_
    obtain ⟨r9, g11, h⟩ := zp_inv h
    refine zq_scall1 rfl (by decide) rfl rfl ((tX11_power g11).up (by decide)) rfl ?_
    refine zr_many 2 (pc' := 49) (L' := [none, some (.int x1), some (.int x2), some (.int w)]) (st' := [.int (lg_cmp (r6 * (100 : Int64)) (x2.toInt64 * r9))]) (S1 := zS c s) rfl ?_
    refine zq_if1 (b := (lg_cmp (r6 * (100 : Int64)) (x2.toInt64 * r9)) < 0) rfl Iff.rfl rfl (fun g12 => ?_) (fun g12 => ?_)
    · rw [if_pos g12] at h
      refine zr_many 2 (pc' := 24) (L' := [none, some (.int x1), some (.int x2), some (.int (w + (1 : Int32)))]) (st' := []) (S1 := zS c s) rfl ?_
      cases h
      exact zr_wk [none, some (.int x1), some (.int x2), some (.int (w + (1 : Int32)))] ⟨rfl, rfl, rfl, trivial⟩ (hn _ rfl)
    · rw [if_neg g12] at h
      cases h
      exact zr_wk [none, none, none, some (.int w)] ⟨rfl, trivial⟩ (hx _ rfl)
def fX11_tries (n : Nat) (s : zs) (x1 : Int32) (x2 : Int32) : Option Int32 := if x1 < 0 then fX11_tries_J20 n s else if (10 : Int32) < x1 then fX11_tries_J20 n s else if x2 < 0 then fX11_tries_J20 n s else if x2 ≤ (100 : Int32) then zw (zl (fX11_tries_B24 n s x1 x2) n (1 : Int32)) (fun w13 => some w13) (fun w14 => some (-2 : Int32)) else fX11_tries_J20 n s
theorem tX11_tries {n : Nat} {c : Nat × Nat} {s : zs} {x1 : Int32} {x2 : Int32} {r : Int32} (h : fX11_tries n s x1 x2 = some r) : zc 3 2247 [.ref 0, .int x1, .int x2] (zS c s) (some (.int r)) (zS c s) := by
  refine zc_of (k := kX11_tries) (rt := 1) (L := [some (.ref 0), some (.int x1), some (.int x2), none]) zm_2247.1 rfl rfl (by decide) rfl rfl ?_
  unfold fX11_tries at h
  refine zr_many 1 (pc' := 1) (L' := [some (.ref 0), some (.int x1), some (.int x2), none]) (st' := [.int x1]) (S1 := zS c s) rfl ?_
  refine zq_if1 (b := x1 < 0) rfl Iff.rfl rfl (fun g1 => ?_) (fun g1 => ?_)
  · rw [if_pos g1] at h
    exact zr_wk [none, none, none, none] trivial (tX11_tries_J20 h)
  · rw [if_neg g1] at h
    refine zr_many 2 (pc' := 7) (L' := [some (.ref 0), some (.int x1), some (.int x2), none]) (st' := [.int (10 : Int32), .int x1]) (S1 := zS c s) rfl ?_
    refine zq_if2 (b := (10 : Int32) < x1) rfl Iff.rfl rfl (fun g2 => ?_) (fun g2 => ?_)
    · rw [if_pos g2] at h
      exact zr_wk [none, none, none, none] trivial (tX11_tries_J20 h)
    · rw [if_neg g2] at h
      refine zr_many 1 (pc' := 11) (L' := [some (.ref 0), some (.int x1), some (.int x2), none]) (st' := [.int x2]) (S1 := zS c s) rfl ?_
      refine zq_if1 (b := x2 < 0) rfl Iff.rfl rfl (fun g3 => ?_) (fun g3 => ?_)
      · rw [if_pos g3] at h
        exact zr_wk [none, none, none, none] trivial (tX11_tries_J20 h)
      · rw [if_neg g3] at h
        refine zr_many 2 (pc' := 17) (L' := [some (.ref 0), some (.int x1), some (.int x2), none]) (st' := [.int (100 : Int32), .int x2]) (S1 := zS c s) rfl ?_
        refine zq_if2 (b := x2 ≤ (100 : Int32)) rfl Iff.rfl rfl (fun g4 => ?_) (fun g4 => ?_)
        · rw [if_pos g4] at h
          refine zr_many 2 (pc' := 24) (L' := [some (.ref 0), some (.int x1), some (.int x2), some (.int (1 : Int32))]) (st' := []) (S1 := zS c s) rfl ?_
          rcases zw_inv h with ⟨w13, g15, h⟩ | ⟨w14, g15, h⟩
          · skip
            refine zr_wk [none, some (.int x1), some (.int x2), some (.int (1 : Int32))] ⟨rfl, rfl, rfl, trivial⟩ (zl_cert (Z := fun w => zr kX11_tries 1 2 24 [none, some (.int x1), some (.int x2), some (.int w)] [] (zS c s) _ _) (Y := (Sum.elim (fun w => zr kX11_tries 1 2 52 [none, none, none, some (.int w)] [] (zS c s) _ _) (fun w => zr kX11_tries 1 2 60 [none, none, none, none] [] (zS c s) _ _))) (fun w o h1 h2 h3 => tX11_tries_B24 h1 h2 h3) n _ _ g15 ?_)
            show zr kX11_tries 1 2 52 [none, none, none, some (.int w13)] [] (zS c s) _ _
            refine zr_many 1 (pc' := 53) (L' := [none, none, none, some (.int w13)]) (st' := [.int w13]) (S1 := zS c s) rfl ?_
            cases h
            exact zq_iret rfl
          · skip
            refine zr_wk [none, some (.int x1), some (.int x2), some (.int (1 : Int32))] ⟨rfl, rfl, rfl, trivial⟩ (zl_cert (Z := fun w => zr kX11_tries 1 2 24 [none, some (.int x1), some (.int x2), some (.int w)] [] (zS c s) _ _) (Y := (Sum.elim (fun w => zr kX11_tries 1 2 52 [none, none, none, some (.int w)] [] (zS c s) _ _) (fun w => zr kX11_tries 1 2 60 [none, none, none, none] [] (zS c s) _ _))) (fun w o h1 h2 h3 => tX11_tries_B24 h1 h2 h3) n _ _ g15 ?_)
            show zr kX11_tries 1 2 60 [none, none, none, none] [] (zS c s) _ _
            refine zr_many 1 (pc' := 62) (L' := [none, none, none, none]) (st' := [.int (-2 : Int32)]) (S1 := zS c s) rfl ?_
            cases h
            exact zq_iret rfl
        · rw [if_neg g4] at h
          exact zr_wk [none, none, none, none] trivial (tX11_tries_J20 h)
def fX11_tellFirstPair_J23 (n : Nat) (s : zs) : Option zs := some s
theorem tX11_tellFirstPair_J23 {n : Nat} {c : Nat × Nat} {s : zs} {s' : zs} (h : fX11_tellFirstPair_J23 n s = some s') : zr kX11_tellFirstPair 0 2 23 [none, none, none, none] [] (zS c s) none (zS c s') := by
  unfold fX11_tellFirstPair_J23 at h
  cases h
  exact zq_vret rfl
def fX11_tellFirstPair (n : Nat) (s : zs) (x1 : Int32) (x2 : Int32) (x3 : Int32) : Option zs := if ¬ x1 = (1 : Int32) then fX11_tellFirstPair_J23 n s else zp (fX5_tell n s x2.toInt64) (fun s3 => zp (fX5_add n s3 x3.toInt64) (fun s6 => fX11_tellFirstPair_J23 n s6))
theorem tX11_tellFirstPair {n : Nat} {c : Nat × Nat} {s : zs} {x1 : Int32} {x2 : Int32} {x3 : Int32} {s' : zs} (h : fX11_tellFirstPair n s x1 x2 x3 = some s') : zc 3 2250 [.ref 0, .int x1, .int x2, .int x3] (zS c s) none (zS c s') := by
  refine zc_of (k := kX11_tellFirstPair) (rt := 0) (L := [some (.ref 0), some (.int x1), some (.int x2), some (.int x3)]) zm_2250.1 rfl rfl (by decide) rfl rfl ?_
  unfold fX11_tellFirstPair at h
  refine zr_many 2 (pc' := 2) (L' := [some (.ref 0), some (.int x1), some (.int x2), some (.int x3)]) (st' := [.int (1 : Int32), .int x1]) (S1 := zS c s) rfl ?_
  refine zq_if2 (b := ¬ x1 = (1 : Int32)) rfl Iff.rfl rfl (fun g1 => ?_) (fun g1 => ?_)
  · rw [if_pos g1] at h
    exact zr_wk [none, none, none, none] trivial (tX11_tellFirstPair_J23 h)
  · rw [if_neg g1] at h
    refine zr_many 1 (pc' := 6) (L' := [some (.ref 0), some (.int x1), some (.int x2), some (.int x3)]) (st' := [.ref 0]) (S1 := zS c s) rfl ?_
    refine zq_get rfl (zh_0 _) rfl rfl rfl ?_
    refine zr_many 2 (pc' := 11) (L' := [some (.ref 0), some (.int x1), some (.int x2), some (.int x3)]) (st' := [.long x2.toInt64, .ref 3]) (S1 := zS c s) rfl ?_
    obtain ⟨s3, g4, h⟩ := zp_inv h
    refine zq_call0 rfl rfl (zh_3 _) rfl rfl rfl (tX5_tell g4) rfl ?_
    refine zr_many 1 (pc' := 15) (L' := [some (.ref 0), some (.int x1), some (.int x2), some (.int x3)]) (st' := [.ref 0]) (S1 := zS c s3) rfl ?_
    refine zq_get rfl (zh_0 _) rfl rfl rfl ?_
    refine zr_many 2 (pc' := 20) (L' := [some (.ref 0), some (.int x1), some (.int x2), some (.int x3)]) (st' := [.long x3.toInt64, .ref 3]) (S1 := zS c s3) rfl ?_
    obtain ⟨s6, g7, h⟩ := zp_inv h
    refine zq_call0 rfl rfl (zh_3 _) rfl rfl rfl ((tX5_add g7).up (by decide)) rfl ?_
    exact zr_wk [none, none, none, none] trivial (tX11_tellFirstPair_J23 h)
def fX11_gain_J23 (n : Nat) (s : zs) (y0 : Int32) : Option Int32 := some y0
theorem tX11_gain_J23 {n : Nat} {c : Nat × Nat} {s : zs} {y0 : Int32} {r : Int32} (h : fX11_gain_J23 n s y0 = some r) : zr kX11_gain 1 0 23 [none, none, none] [.int y0] (zS c s) (some (.int r)) (zS c s) := by
  unfold fX11_gain_J23 at h
  cases h
  exact zq_iret rfl
def fX11_gain (n : Nat) (s : zs) (x0 : Int32) (x1 : Int32) (x2 : Int32) : Option Int32 := if x0 ≤ x1 then if x1 ≤ x0 then fX11_gain_J23 n s ((x0 - x2) / (2 : Int32)) else fX11_gain_J23 n s (x0 - x2) else some (0 : Int32)
theorem tX11_gain {n : Nat} {c : Nat × Nat} {s : zs} {x0 : Int32} {x1 : Int32} {x2 : Int32} {r : Int32} (h : fX11_gain n s x0 x1 x2 = some r) : zc 1 2255 [.int x0, .int x1, .int x2] (zS c s) (some (.int r)) (zS c s) := by
  refine zc_of (k := kX11_gain) (rt := 1) (L := [some (.int x0), some (.int x1), some (.int x2)]) zm_2255.1 rfl rfl (by decide) rfl rfl ?_
  unfold fX11_gain at h
  refine zr_many 2 (pc' := 2) (L' := [some (.int x0), some (.int x1), some (.int x2)]) (st' := [.int x1, .int x0]) (S1 := zS c s) rfl ?_
  refine zq_if2 (b := x0 ≤ x1) rfl Iff.rfl rfl (fun g1 => ?_) (fun g1 => ?_)
  · rw [if_pos g1] at h
    refine zr_many 2 (pc' := 9) (L' := [some (.int x0), some (.int x1), some (.int x2)]) (st' := [.int x1, .int x0]) (S1 := zS c s) rfl ?_
    refine zq_if2 (b := x1 ≤ x0) rfl Iff.rfl rfl (fun g2 => ?_) (fun g2 => ?_)
    · rw [if_pos g2] at h
      refine zr_many 4 (pc' := 22) (L' := [some (.int x0), some (.int x1), some (.int x2)]) (st' := [.int (2 : Int32), .int (x0 - x2)]) (S1 := zS c s) rfl ?_
      refine zq_idiv rfl (by decide) rfl ?_
      exact zr_wk [none, none, none] trivial (tX11_gain_J23 h)
    · rw [if_neg g2] at h
      refine zr_many 4 (pc' := 23) (L' := [some (.int x0), some (.int x1), some (.int x2)]) (st' := [.int (x0 - x2)]) (S1 := zS c s) rfl ?_
      exact zr_wk [none, none, none] trivial (tX11_gain_J23 h)
  · rw [if_neg g1] at h
    refine zr_many 1 (pc' := 6) (L' := [some (.int x0), some (.int x1), some (.int x2)]) (st' := [.int (0 : Int32)]) (S1 := zS c s) rfl ?_
    cases h
    exact zq_iret rfl
def fX11_isBest_B10 (n : Nat) (s : zs) (x1 : Int32) (x2 : Int32) (x3 : Int32) (w : Int32) : Option ((Int32) ⊕ ((Unit) ⊕ (Unit))) := if (10 : Int32) ≤ w then some (Sum.inr (Sum.inr ())) else zp (fX11_gain n s w x1 x2) (fun r5 => if r5 ≤ x3 then some (Sum.inl (w + (1 : Int32))) else some (Sum.inr (Sum.inl ())))
theorem tX11_isBest_B10 {n : Nat} {c : Nat × Nat} {s : zs} {x1 : Int32} {x2 : Int32} {x3 : Int32} {w : Int32} {o : _} {v : Option Value} {S' : zi_S} (h : fX11_isBest_B10 n s x1 x2 x3 w = some o) (hn : ∀ w, o = Sum.inl w → zr kX11_isBest 2 1 10 [none, some (.int x1), some (.int x2), some (.int x3), some (.int w)] [] (zS c s) v S') (hx : ∀ w, o = Sum.inr w → (Sum.elim (fun w => zr kX11_isBest 2 1 28 [none, none, none, none, none] [] (zS c s) v S') (fun w => zr kX11_isBest 2 1 36 [none, none, none, none, none] [] (zS c s) v S')) w) : zr kX11_isBest 2 1 10 [none, some (.int x1), some (.int x2), some (.int x3), some (.int w)] [] (zS c s) v S' := by
  unfold fX11_isBest_B10 at h
  refine zr_many 2 (pc' := 14) (L' := [none, some (.int x1), some (.int x2), some (.int x3), some (.int w)]) (st' := [.int (10 : Int32), .int w]) (S1 := zS c s) rfl ?_
  refine zq_if2 (b := (10 : Int32) ≤ w) rfl Iff.rfl rfl (fun g4 => ?_) (fun g4 => ?_)
  · rw [if_pos g4] at h
    cases h
    exact zr_wk [none, none, none, none, none] trivial (hx _ rfl)
  · rw [if_neg g4] at h
    refine zr_many 3 (pc' := 21) (L' := [none, some (.int x1), some (.int x2), some (.int x3), some (.int w)]) (st' := [.int x2, .int x1, .int w]) (S1 := zS c s) rfl ?_
    obtain ⟨r5, g7, h⟩ := zp_inv h
    refine zq_scall1 rfl (by decide) rfl rfl (tX11_gain g7) rfl ?_
    refine zr_many 1 (pc' := 25) (L' := [none, some (.int x1), some (.int x2), some (.int x3), some (.int w)]) (st' := [.int x3, .int r5]) (S1 := zS c s) rfl ?_
    refine zq_if2 (b := r5 ≤ x3) rfl Iff.rfl rfl (fun g8 => ?_) (fun g8 => ?_)
    · rw [if_pos g8] at h
      refine zr_many 2 (pc' := 10) (L' := [none, some (.int x1), some (.int x2), some (.int x3), some (.int (w + (1 : Int32)))]) (st' := []) (S1 := zS c s) rfl ?_
      cases h
      exact zr_wk [none, some (.int x1), some (.int x2), some (.int x3), some (.int (w + (1 : Int32)))] ⟨rfl, rfl, rfl, rfl, trivial⟩ (hn _ rfl)
    · rw [if_neg g8] at h
      cases h
      exact zr_wk [none, none, none, none, none] trivial (hx _ rfl)
def fX11_isBest (n : Nat) (s : zs) (x0 : Int32) (x1 : Int32) (x2 : Int32) : Option Int32 := zp (fX11_gain n s x0 x1 x2) (fun r1 => zw (zl (fX11_isBest_B10 n s x1 x2 r1) n (0 : Int32)) (fun w9 => some (0 : Int32)) (fun w10 => some (1 : Int32)))
theorem tX11_isBest {n : Nat} {c : Nat × Nat} {s : zs} {x0 : Int32} {x1 : Int32} {x2 : Int32} {r : Int32} (h : fX11_isBest n s x0 x1 x2 = some r) : zc 2 2254 [.int x0, .int x1, .int x2] (zS c s) (some (.int r)) (zS c s) := by
  refine zc_of (k := kX11_isBest) (rt := 2) (L := [some (.int x0), some (.int x1), some (.int x2), none, none]) zm_2254.1 rfl rfl (by decide) rfl rfl ?_
  unfold fX11_isBest at h
  refine zr_many 3 (pc' := 3) (L' := [some (.int x0), some (.int x1), some (.int x2), none, none]) (st' := [.int x2, .int x1, .int x0]) (S1 := zS c s) rfl ?_
  obtain ⟨r1, g3, h⟩ := zp_inv h
  refine zq_scall1 rfl (by decide) rfl rfl (tX11_gain g3) rfl ?_
  refine zr_many 3 (pc' := 10) (L' := [some (.int x0), some (.int x1), some (.int x2), some (.int r1), some (.int (0 : Int32))]) (st' := []) (S1 := zS c s) rfl ?_
  rcases zw_inv h with ⟨w9, g11, h⟩ | ⟨w10, g11, h⟩
  · skip
    refine zr_wk [none, some (.int x1), some (.int x2), some (.int r1), some (.int (0 : Int32))] ⟨rfl, rfl, rfl, rfl, trivial⟩ (zl_cert (Z := fun w => zr kX11_isBest 2 1 10 [none, some (.int x1), some (.int x2), some (.int r1), some (.int w)] [] (zS c s) _ _) (Y := (Sum.elim (fun w => zr kX11_isBest 2 1 28 [none, none, none, none, none] [] (zS c s) _ _) (fun w => zr kX11_isBest 2 1 36 [none, none, none, none, none] [] (zS c s) _ _))) (fun w o h1 h2 h3 => tX11_isBest_B10 h1 h2 h3) n _ _ g11 ?_)
    show zr kX11_isBest 2 1 28 [none, none, none, none, none] [] (zS c s) _ _
    refine zr_many 1 (pc' := 29) (L' := [none, none, none, none, none]) (st' := [.int (0 : Int32)]) (S1 := zS c s) rfl ?_
    cases h
    exact zq_zret rfl (by decide)
  · skip
    refine zr_wk [none, some (.int x1), some (.int x2), some (.int r1), some (.int (0 : Int32))] ⟨rfl, rfl, rfl, rfl, trivial⟩ (zl_cert (Z := fun w => zr kX11_isBest 2 1 10 [none, some (.int x1), some (.int x2), some (.int r1), some (.int w)] [] (zS c s) _ _) (Y := (Sum.elim (fun w => zr kX11_isBest 2 1 28 [none, none, none, none, none] [] (zS c s) _ _) (fun w => zr kX11_isBest 2 1 36 [none, none, none, none, none] [] (zS c s) _ _))) (fun w o h1 h2 h3 => tX11_isBest_B10 h1 h2 h3) n _ _ g11 ?_)
    show zr kX11_isBest 2 1 36 [none, none, none, none, none] [] (zS c s) _ _
    refine zr_many 1 (pc' := 37) (L' := [none, none, none, none, none]) (st' := [.int (1 : Int32)]) (S1 := zS c s) rfl ?_
    cases h
    exact zq_zret rfl (by decide)
def fX11_rests_J10 (n : Nat) (s : zs) : Option (Int32 × zs) := some ((-1 : Int32), s)
theorem tX11_rests_J10 {n : Nat} {c : Nat × Nat} {s : zs} {r : Int32} {s' : zs} (h : fX11_rests_J10 n s = some (r, s')) : zr kX11_rests 1 3 10 [none, none, none, none, none] [] (zS c s) (some (.int r)) (zS c s') := by
  unfold fX11_rests_J10 at h
  refine zr_many 1 (pc' := 11) (L' := [none, none, none, none, none]) (st' := [.int (-1 : Int32)]) (S1 := zS c s) rfl ?_
  cases h
  exact zq_iret rfl
def fX11_rests_J70 (n : Nat) (s : zs) (x1 : Int32) (x2 : Int32) (x3 : Int32) (x4 : Int32) : Option ((Int32 × Int32 × zs) ⊕ (Int32 × zs)) := some (Sum.inl (x2, (x4 + (1 : Int32)), s))
theorem tX11_rests_J70 {n : Nat} {c : Nat × Nat} {s : zs} {x1 : Int32} {x2 : Int32} {x3 : Int32} {x4 : Int32} {o : _} {v : Option Value} {S' : zi_S} (h : fX11_rests_J70 n s x1 x2 x3 x4 = some o) (hn : ∀ w, o = Sum.inl w → zr kX11_rests 1 3 32 [some (.ref 0), some (.int x1), some (.int w.1), some (.int x3), some (.int w.2.1)] [] (zS c w.2.2) v S') (hx : ∀ w, o = Sum.inr w → (fun w => zr kX11_rests 1 3 76 [some (.ref 0), some (.int x1), some (.int w.1), some (.int x3), none] [] (zS c w.2) v S') w) : zr kX11_rests 1 3 70 [some (.ref 0), some (.int x1), some (.int x2), some (.int x3), some (.int x4)] [] (zS c s) v S' := by
  unfold fX11_rests_J70 at h
  refine zr_many 2 (pc' := 32) (L' := [some (.ref 0), some (.int x1), some (.int x2), some (.int x3), some (.int (x4 + (1 : Int32)))]) (st' := []) (S1 := zS c s) rfl ?_
  cases h
  exact zr_wk [some (.ref 0), some (.int x1), some (.int x2), some (.int x3), some (.int (x4 + (1 : Int32)))] ⟨rfl, rfl, rfl, rfl, rfl, trivial⟩ (hn _ rfl)
def fX11_rests_B32 (n : Nat) (x1 : Int32) (x3 : Int32) (w : Int32 × Int32 × zs) : Option ((Int32 × Int32 × zs) ⊕ (Int32 × zs)) := if (10 : Int32) ≤ w.2.1 then some (Sum.inr (w.1, w.2.2)) else zp (fX11_isBest n w.2.2 x3 w.2.1 x1) (fun r8 => if r8 = 0 then fX11_rests_J70 n w.2.2 x1 w.1 x3 w.2.1 else zp (fX11_isBest n w.2.2 w.2.1 x3 x1) (fun r12 => if r12 = 0 then fX11_rests_J70 n w.2.2 x1 w.1 x3 w.2.1 else zp (fX11_tellFirstPair n w.2.2 (w.1 + (1 : Int32)) x3 w.2.1) (fun s17 => fX11_rests_J70 n s17 x1 (w.1 + (1 : Int32)) x3 w.2.1)))
theorem tX11_rests_B32 {n : Nat} {c : Nat × Nat} {x1 : Int32} {x3 : Int32} {w : Int32 × Int32 × zs} {o : _} {v : Option Value} {S' : zi_S} (h : fX11_rests_B32 n x1 x3 w = some o) (hn : ∀ w, o = Sum.inl w → zr kX11_rests 1 3 32 [some (.ref 0), some (.int x1), some (.int w.1), some (.int x3), some (.int w.2.1)] [] (zS c w.2.2) v S') (hx : ∀ w, o = Sum.inr w → (fun w => zr kX11_rests 1 3 76 [some (.ref 0), some (.int x1), some (.int w.1), some (.int x3), none] [] (zS c w.2) v S') w) : zr kX11_rests 1 3 32 [some (.ref 0), some (.int x1), some (.int w.1), some (.int x3), some (.int w.2.1)] [] (zS c w.2.2) v S' := by
  unfold fX11_rests_B32 at h
  refine zr_many 2 (pc' := 36) (L' := [some (.ref 0), some (.int x1), some (.int w.1), some (.int x3), some (.int w.2.1)]) (st' := [.int (10 : Int32), .int w.2.1]) (S1 := zS c w.2.2) rfl ?_
  refine zq_if2 (b := (10 : Int32) ≤ w.2.1) rfl Iff.rfl rfl (fun g7 => ?_) (fun g7 => ?_)
  · rw [if_pos g7] at h
    cases h
    exact zr_wk [some (.ref 0), some (.int x1), some (.int w.1), some (.int x3), none] ⟨rfl, rfl, rfl, rfl, trivial⟩ (hx _ rfl)
  · rw [if_neg g7] at h
    refine zr_many 3 (pc' := 43) (L' := [some (.ref 0), some (.int x1), some (.int w.1), some (.int x3), some (.int w.2.1)]) (st' := [.int x1, .int w.2.1, .int x3]) (S1 := zS c w.2.2) rfl ?_
    obtain ⟨r8, g10, h⟩ := zp_inv h
    refine zq_scall1 rfl (by decide) rfl rfl ((tX11_isBest g10).up (by decide)) rfl ?_
    refine zq_if1 (b := r8 = 0) rfl Iff.rfl rfl (fun g11 => ?_) (fun g11 => ?_)
    · rw [if_pos g11] at h
      exact zr_wk [some (.ref 0), some (.int x1), some (.int w.1), some (.int x3), some (.int w.2.1)] ⟨rfl, rfl, rfl, rfl, rfl, trivial⟩ (tX11_rests_J70 h hn hx)
    · rw [if_neg g11] at h
      refine zr_many 3 (pc' := 53) (L' := [some (.ref 0), some (.int x1), some (.int w.1), some (.int x3), some (.int w.2.1)]) (st' := [.int x1, .int x3, .int w.2.1]) (S1 := zS c w.2.2) rfl ?_
      obtain ⟨r12, g14, h⟩ := zp_inv h
      refine zq_scall1 rfl (by decide) rfl rfl ((tX11_isBest g14).up (by decide)) rfl ?_
      refine zq_if1 (b := r12 = 0) rfl Iff.rfl rfl (fun g15 => ?_) (fun g15 => ?_)
      · rw [if_pos g15] at h
        exact zr_wk [some (.ref 0), some (.int x1), some (.int w.1), some (.int x3), some (.int w.2.1)] ⟨rfl, rfl, rfl, rfl, rfl, trivial⟩ (tX11_rests_J70 h hn hx)
      · rw [if_neg g15] at h
        refine zr_many 5 (pc' := 67) (L' := [some (.ref 0), some (.int x1), some (.int (w.1 + (1 : Int32))), some (.int x3), some (.int w.2.1)]) (st' := [.int w.2.1, .int x3, .int (w.1 + (1 : Int32)), .ref 0]) (S1 := zS c w.2.2) rfl ?_
        obtain ⟨s17, g18, h⟩ := zp_inv h
        refine zq_call0 rfl rfl (zh_0 _) rfl rfl rfl (tX11_tellFirstPair g18) rfl ?_
        exact zr_wk [some (.ref 0), some (.int x1), some (.int (w.1 + (1 : Int32))), some (.int x3), some (.int w.2.1)] ⟨rfl, rfl, rfl, rfl, rfl, trivial⟩ (tX11_rests_J70 h hn hx)
def fX11_rests_B23 (n : Nat) (x1 : Int32) (w : Int32 × Int32 × zs) : Option ((Int32 × Int32 × zs) ⊕ (Int32 × zs)) := if (10 : Int32) ≤ w.2.1 then some (Sum.inr (w.1, w.2.2)) else zp (zl (fX11_rests_B32 n x1 w.2.1) n (w.1, (0 : Int32), w.2.2)) (fun w19 => some (Sum.inl (w19.1, (w.2.1 + (1 : Int32)), w19.2)))
theorem tX11_rests_B23 {n : Nat} {c : Nat × Nat} {x1 : Int32} {w : Int32 × Int32 × zs} {o : _} {v : Option Value} {S' : zi_S} (h : fX11_rests_B23 n x1 w = some o) (hn : ∀ w, o = Sum.inl w → zr kX11_rests 1 3 23 [some (.ref 0), some (.int x1), some (.int w.1), some (.int w.2.1), none] [] (zS c w.2.2) v S') (hx : ∀ w, o = Sum.inr w → (fun w => zr kX11_rests 1 3 82 [none, none, some (.int w.1), none, none] [] (zS c w.2) v S') w) : zr kX11_rests 1 3 23 [some (.ref 0), some (.int x1), some (.int w.1), some (.int w.2.1), none] [] (zS c w.2.2) v S' := by
  unfold fX11_rests_B23 at h
  refine zr_many 2 (pc' := 26) (L' := [some (.ref 0), some (.int x1), some (.int w.1), some (.int w.2.1), none]) (st' := [.int (10 : Int32), .int w.2.1]) (S1 := zS c w.2.2) rfl ?_
  refine zq_if2 (b := (10 : Int32) ≤ w.2.1) rfl Iff.rfl rfl (fun g6 => ?_) (fun g6 => ?_)
  · rw [if_pos g6] at h
    cases h
    exact zr_wk [none, none, some (.int w.1), none, none] ⟨rfl, trivial⟩ (hx _ rfl)
  · rw [if_neg g6] at h
    refine zr_many 2 (pc' := 32) (L' := [some (.ref 0), some (.int x1), some (.int w.1), some (.int w.2.1), some (.int (0 : Int32))]) (st' := []) (S1 := zS c w.2.2) rfl ?_
    obtain ⟨w19, g20, h⟩ := zp_inv h
    refine zr_wk [some (.ref 0), some (.int x1), some (.int w.1), some (.int w.2.1), some (.int (0 : Int32))] ⟨rfl, rfl, rfl, rfl, rfl, trivial⟩ (zl_cert (Z := fun w => zr kX11_rests 1 3 32 [some (.ref 0), some (.int x1), some (.int w.1), some (.int w.2.1), some (.int w.2.1)] [] (zS c w.2.2) _ _) (Y := (fun w => zr kX11_rests 1 3 76 [some (.ref 0), some (.int x1), some (.int w.1), some (.int w.2.1), none] [] (zS c w.2) _ _)) (fun w o h1 h2 h3 => tX11_rests_B32 h1 h2 h3) n _ _ g20 ?_)
    show zr kX11_rests 1 3 76 [some (.ref 0), some (.int x1), some (.int w19.1), some (.int w.2.1), none] [] (zS c w19.2) _ _
    refine zr_many 2 (pc' := 23) (L' := [some (.ref 0), some (.int x1), some (.int w19.1), some (.int (w.2.1 + (1 : Int32))), none]) (st' := []) (S1 := zS c w19.2) rfl ?_
    cases h
    exact zr_wk [some (.ref 0), some (.int x1), some (.int w19.1), some (.int (w.2.1 + (1 : Int32))), none] ⟨rfl, rfl, rfl, rfl, trivial⟩ (hn _ rfl)
def fX11_rests (n : Nat) (s : zs) (x1 : Int32) : Option (Int32 × zs) := if x1 < 0 then fX11_rests_J10 n s else if x1 ≤ (9 : Int32) then zp (fX5_clear n s) (fun s4 => zp (zl (fX11_rests_B23 n x1) n ((0 : Int32), (0 : Int32), s4)) (fun w21 => some (w21.1, w21.2))) else fX11_rests_J10 n s
theorem tX11_rests {n : Nat} {c : Nat × Nat} {s : zs} {x1 : Int32} {r : Int32} {s' : zs} (h : fX11_rests n s x1 = some (r, s')) : zc 4 2248 [.ref 0, .int x1] (zS c s) (some (.int r)) (zS c s') := by
  refine zc_of (k := kX11_rests) (rt := 1) (L := [some (.ref 0), some (.int x1), none, none, none]) zm_2248.1 rfl rfl (by decide) rfl rfl ?_
  unfold fX11_rests at h
  refine zr_many 1 (pc' := 1) (L' := [some (.ref 0), some (.int x1), none, none, none]) (st' := [.int x1]) (S1 := zS c s) rfl ?_
  refine zq_if1 (b := x1 < 0) rfl Iff.rfl rfl (fun g1 => ?_) (fun g1 => ?_)
  · rw [if_pos g1] at h
    exact zr_wk [none, none, none, none, none] trivial (tX11_rests_J10 h)
  · rw [if_neg g1] at h
    refine zr_many 2 (pc' := 7) (L' := [some (.ref 0), some (.int x1), none, none, none]) (st' := [.int (9 : Int32), .int x1]) (S1 := zS c s) rfl ?_
    refine zq_if2 (b := x1 ≤ (9 : Int32)) rfl Iff.rfl rfl (fun g2 => ?_) (fun g2 => ?_)
    · rw [if_pos g2] at h
      refine zr_many 3 (pc' := 15) (L' := [some (.ref 0), some (.int x1), some (.int (0 : Int32)), none, none]) (st' := [.ref 0]) (S1 := zS c s) rfl ?_
      refine zq_get rfl (zh_0 _) rfl rfl rfl ?_
      obtain ⟨s4, g5, h⟩ := zp_inv h
      refine zq_call0 rfl rfl (zh_3 _) rfl rfl rfl ((tX5_clear g5).up (by decide)) rfl ?_
      refine zr_many 2 (pc' := 23) (L' := [some (.ref 0), some (.int x1), some (.int (0 : Int32)), some (.int (0 : Int32)), none]) (st' := []) (S1 := zS c s4) rfl ?_
      obtain ⟨w21, g22, h⟩ := zp_inv h
      refine zr_wk [some (.ref 0), some (.int x1), some (.int (0 : Int32)), some (.int (0 : Int32)), none] ⟨rfl, rfl, rfl, rfl, trivial⟩ (zl_cert (Z := fun w => zr kX11_rests 1 3 23 [some (.ref 0), some (.int x1), some (.int w.1), some (.int w.2.1), none] [] (zS c w.2.2) _ _) (Y := (fun w => zr kX11_rests 1 3 82 [none, none, some (.int w.1), none, none] [] (zS c w.2) _ _)) (fun w o h1 h2 h3 => tX11_rests_B23 h1 h2 h3) n _ _ g22 ?_)
      show zr kX11_rests 1 3 82 [none, none, some (.int w21.1), none, none] [] (zS c w21.2) _ _
      refine zr_many 1 (pc' := 83) (L' := [none, none, some (.int w21.1), none, none]) (st' := [.int w21.1]) (S1 := zS c w21.2) rfl ?_
      cases h
      exact zq_iret rfl
    · rw [if_neg g2] at h
      exact zr_wk [none, none, none, none, none] trivial (tX11_rests_J10 h)
def fX11_pays_J22 (n : Nat) (s : zs) : Option (Int32 × zs) := some ((-1 : Int32), s)
theorem tX11_pays_J22 {n : Nat} {c : Nat × Nat} {s : zs} {r : Int32} {s' : zs} (h : fX11_pays_J22 n s = some (r, s')) : zr kX11_pays 1 4 22 [none, none, none, none, none, none, none, none, none] [] (zS c s) (some (.int r)) (zS c s') := by
  unfold fX11_pays_J22 at h
  refine zr_many 1 (pc' := 23) (L' := [none, none, none, none, none, none, none, none, none]) (st' := [.int (-1 : Int32)]) (S1 := zS c s) rfl ?_
  cases h
  exact zq_iret rfl
def fX11_pays_J167 (n : Nat) (s : zs) (x3 : Int32) (x4 : Int32) (x5 : Int32) (x6 : Int32) (y0 : Int32) : Option ((Int32 × Int32 × zs) ⊕ (Int32 × zs)) := zp (fX5_add n s y0.toInt64) (fun s41 => some (Sum.inl ((if x5 < y0 then y0 else x5), (x6 + (1 : Int32)), s41)))
theorem tX11_pays_J167 {n : Nat} {c : Nat × Nat} {s : zs} {x3 : Int32} {x4 : Int32} {x5 : Int32} {x6 : Int32} {y0 : Int32} {o : _} {v : Option Value} {S' : zi_S} (h : fX11_pays_J167 n s x3 x4 x5 x6 y0 = some o) (hn : ∀ w, o = Sum.inl w → zr kX11_pays 1 4 108 [some (.ref 0), none, none, some (.int x3), some (.int x4), some (.int w.1), some (.int w.2.1), none, none] [] (zS c w.2.2) v S') (hx : ∀ w, o = Sum.inr w → (fun w => zr kX11_pays 1 4 194 [none, none, none, none, none, some (.int w.1), none, none, none] [] (zS c w.2) v S') w) : zr kX11_pays 1 4 167 [some (.ref 0), none, none, some (.int x3), some (.int x4), some (.int x5), some (.int x6), none, none] [.int y0] (zS c s) v S' := by
  unfold fX11_pays_J167 at h
  refine zr_many 2 (pc' := 170) (L' := [some (.ref 0), none, none, some (.int x3), some (.int x4), some (.int x5), some (.int x6), none, some (.int y0)]) (st' := [.ref 0]) (S1 := zS c s) rfl ?_
  refine zq_get rfl (zh_0 _) rfl rfl rfl ?_
  refine zr_many 2 (pc' := 176) (L' := [some (.ref 0), none, none, some (.int x3), some (.int x4), some (.int x5), some (.int x6), none, some (.int y0)]) (st' := [.long y0.toInt64, .ref 3]) (S1 := zS c s) rfl ?_
  obtain ⟨s41, g42, h⟩ := zp_inv h
  refine zq_call0 rfl rfl (zh_3 _) rfl rfl rfl ((tX5_add g42).up (by decide)) rfl ?_
  refine zr_many 6 (pc' := 108) (L' := [some (.ref 0), none, none, some (.int x3), some (.int x4), some (.int (if x5 < y0 then y0 else x5)), some (.int (x6 + (1 : Int32))), none, some (.int y0)]) (st' := []) (S1 := zS c s41) rfl ?_
  cases h
  exact zr_wk [some (.ref 0), none, none, some (.int x3), some (.int x4), some (.int (if x5 < y0 then y0 else x5)), some (.int (x6 + (1 : Int32))), none, none] ⟨rfl, rfl, rfl, rfl, rfl, trivial⟩ (hn _ rfl)
def fX11_pays_B108 (n : Nat) (x3 : Int32) (x4 : Int32) (w : Int32 × Int32 × zs) : Option ((Int32 × Int32 × zs) ⊕ (Int32 × zs)) := if (w.2.2.1 5 8) ≤ w.2.1 then some (Sum.inr (w.1, w.2.2)) else zp (fX2_cheapest n w.2.2 (x3 &&& (((1 : Int32) <<< (w.2.1 &&& 31)) ^^^ (-1 : Int32)))) (fun r30 => if 0 ≤ r30 then zp (fX0_feesOf n w.2.2 r30) (fun r34 => zp (fX0_feesOf n w.2.2 x4) (fun r37 => fX11_pays_J167 n w.2.2 x3 x4 w.1 w.2.1 (r34 - r37))) else fX11_pays_J167 n w.2.2 x3 x4 w.1 w.2.1 (9999 : Int32))
theorem tX11_pays_B108 {n : Nat} {c : Nat × Nat} {x3 : Int32} {x4 : Int32} {w : Int32 × Int32 × zs} {o : _} {v : Option Value} {S' : zi_S} (h : fX11_pays_B108 n x3 x4 w = some o) (hn : ∀ w, o = Sum.inl w → zr kX11_pays 1 4 108 [some (.ref 0), none, none, some (.int x3), some (.int x4), some (.int w.1), some (.int w.2.1), none, none] [] (zS c w.2.2) v S') (hx : ∀ w, o = Sum.inr w → (fun w => zr kX11_pays 1 4 194 [none, none, none, none, none, some (.int w.1), none, none, none] [] (zS c w.2) v S') w) : zr kX11_pays 1 4 108 [some (.ref 0), none, none, some (.int x3), some (.int x4), some (.int w.1), some (.int w.2.1), none, none] [] (zS c w.2.2) v S' := by
  unfold fX11_pays_B108 at h
  refine zr_many 2 (pc' := 111) (L' := [some (.ref 0), none, none, some (.int x3), some (.int x4), some (.int w.1), some (.int w.2.1), none, none]) (st' := [.ref 0, .int w.2.1]) (S1 := zS c w.2.2) rfl ?_
  refine zq_get rfl (zh_0 _) rfl rfl rfl ?_
  refine zq_get rfl (zh_5 _) rfl rfl rfl ?_
  refine zq_if2 (b := (w.2.2.1 5 8) ≤ w.2.1) rfl Iff.rfl rfl (fun g29 => ?_) (fun g29 => ?_)
  · rw [if_pos g29] at h
    cases h
    exact zr_wk [none, none, none, none, none, some (.int w.1), none, none, none] ⟨rfl, trivial⟩ (hx _ rfl)
  · rw [if_neg g29] at h
    refine zr_many 1 (pc' := 121) (L' := [some (.ref 0), none, none, some (.int x3), some (.int x4), some (.int w.1), some (.int w.2.1), none, none]) (st' := [.ref 0]) (S1 := zS c w.2.2) rfl ?_
    refine zq_get rfl (zh_0 _) rfl rfl rfl ?_
    refine zr_many 7 (pc' := 132) (L' := [some (.ref 0), none, none, some (.int x3), some (.int x4), some (.int w.1), some (.int w.2.1), none, none]) (st' := [.int (x3 &&& (((1 : Int32) <<< (w.2.1 &&& 31)) ^^^ (-1 : Int32))), .ref 41]) (S1 := zS c w.2.2) rfl ?_
    obtain ⟨r30, g32, h⟩ := zp_inv h
    refine zq_call1 rfl rfl (zh_41 _) rfl rfl rfl ((tX2_cheapest g32).up (by decide)) rfl ?_
    refine zr_many 2 (pc' := 139) (L' := [some (.ref 0), none, none, some (.int x3), some (.int x4), some (.int w.1), some (.int w.2.1), some (.int r30), none]) (st' := [.int r30]) (S1 := zS c w.2.2) rfl ?_
    refine zq_if1 (b := 0 ≤ r30) rfl Iff.rfl rfl (fun g33 => ?_) (fun g33 => ?_)
    · rw [if_pos g33] at h
      refine zr_many 1 (pc' := 149) (L' := [some (.ref 0), none, none, some (.int x3), some (.int x4), some (.int w.1), some (.int w.2.1), some (.int r30), none]) (st' := [.ref 0]) (S1 := zS c w.2.2) rfl ?_
      refine zq_get rfl (zh_0 _) rfl rfl rfl ?_
      refine zr_many 1 (pc' := 154) (L' := [some (.ref 0), none, none, some (.int x3), some (.int x4), some (.int w.1), some (.int w.2.1), some (.int r30), none]) (st' := [.int r30, .ref 5]) (S1 := zS c w.2.2) rfl ?_
      obtain ⟨r34, g36, h⟩ := zp_inv h
      refine zq_call1 rfl rfl (zh_5 _) rfl rfl rfl ((tX0_feesOf g36).up (by decide)) rfl ?_
      refine zr_many 1 (pc' := 158) (L' := [some (.ref 0), none, none, some (.int x3), some (.int x4), some (.int w.1), some (.int w.2.1), some (.int r30), none]) (st' := [.ref 0, .int r34]) (S1 := zS c w.2.2) rfl ?_
      refine zq_get rfl (zh_0 _) rfl rfl rfl ?_
      refine zr_many 1 (pc' := 163) (L' := [some (.ref 0), none, none, some (.int x3), some (.int x4), some (.int w.1), some (.int w.2.1), some (.int r30), none]) (st' := [.int x4, .ref 5, .int r34]) (S1 := zS c w.2.2) rfl ?_
      obtain ⟨r37, g39, h⟩ := zp_inv h
      refine zq_call1 rfl rfl (zh_5 _) rfl rfl rfl ((tX0_feesOf g39).up (by decide)) rfl ?_
      refine zr_many 1 (pc' := 167) (L' := [some (.ref 0), none, none, some (.int x3), some (.int x4), some (.int w.1), some (.int w.2.1), some (.int r30), none]) (st' := [.int (r34 - r37)]) (S1 := zS c w.2.2) rfl ?_
      exact zr_wk [some (.ref 0), none, none, some (.int x3), some (.int x4), some (.int w.1), some (.int w.2.1), none, none] ⟨rfl, rfl, rfl, rfl, rfl, trivial⟩ (tX11_pays_J167 h hn hx)
    · rw [if_neg g33] at h
      refine zr_many 2 (pc' := 167) (L' := [some (.ref 0), none, none, some (.int x3), some (.int x4), some (.int w.1), some (.int w.2.1), some (.int r30), none]) (st' := [.int (9999 : Int32)]) (S1 := zS c w.2.2) rfl ?_
      exact zr_wk [some (.ref 0), none, none, some (.int x3), some (.int x4), some (.int w.1), some (.int w.2.1), none, none] ⟨rfl, rfl, rfl, rfl, rfl, trivial⟩ (tX11_pays_J167 h hn hx)
def fX11_pays (n : Nat) (s : zs) (x1 : Int32) (x2 : Int32) : Option (Int32 × zs) := zp (fX0_hasBarge n s x1) (fun r1 => if r1 = 0 then fX11_pays_J22 n s else zp (fX0_hasLock n s x2) (fun r5 => if ¬ r5 = 0 then cond (zi_in x1 4) (zp (fX0_freeAt n s 17 (s.1 21 x1.toNatClampNeg)) (fun r10 => zp (fX2_begin n s) (fun s14 => zp (fX0_crewOf n s14 17 x1) (fun r16 => zp (fX2_mustSing n s14 17 x2 r16 r10) (fun s20 => zp (fX2_cheapest n s20 r10) (fun r22 => if 0 ≤ r22 then zp (fX5_clear n s20) (fun s27 => zp (zl (fX11_pays_B108 n r10 r22) n ((0 : Int32), (0 : Int32), s27)) (fun w43 => some (w43.1, w43.2))) else some ((-2 : Int32), s20))))))) none else fX11_pays_J22 n s))
theorem tX11_pays {n : Nat} {c : Nat × Nat} {s : zs} {x1 : Int32} {x2 : Int32} {r : Int32} {s' : zs} (h : fX11_pays n s x1 x2 = some (r, s')) : zc 5 2249 [.ref 0, .int x1, .int x2] (zS c s) (some (.int r)) (zS c s') := by
  refine zc_of (k := kX11_pays) (rt := 1) (L := [some (.ref 0), some (.int x1), some (.int x2), none, none, none, none, none, none]) zm_2249.1 rfl rfl (by decide) rfl rfl ?_
  unfold fX11_pays at h
  refine zr_many 1 (pc' := 1) (L' := [some (.ref 0), some (.int x1), some (.int x2), none, none, none, none, none, none]) (st' := [.ref 0]) (S1 := zS c s) rfl ?_
  refine zq_get rfl (zh_0 _) rfl rfl rfl ?_
  refine zr_many 1 (pc' := 5) (L' := [some (.ref 0), some (.int x1), some (.int x2), none, none, none, none, none, none]) (st' := [.int x1, .ref 5]) (S1 := zS c s) rfl ?_
  obtain ⟨r1, g3, h⟩ := zp_inv h
  refine zq_call1 rfl rfl (zh_5 _) rfl rfl rfl ((tX0_hasBarge g3).up (by decide)) rfl ?_
  refine zq_if1 (b := r1 = 0) rfl Iff.rfl rfl (fun g4 => ?_) (fun g4 => ?_)
  · rw [if_pos g4] at h
    exact zr_wk [none, none, none, none, none, none, none, none, none] trivial (tX11_pays_J22 h)
  · rw [if_neg g4] at h
    refine zr_many 1 (pc' := 12) (L' := [some (.ref 0), some (.int x1), some (.int x2), none, none, none, none, none, none]) (st' := [.ref 0]) (S1 := zS c s) rfl ?_
    refine zq_get rfl (zh_0 _) rfl rfl rfl ?_
    refine zr_many 1 (pc' := 16) (L' := [some (.ref 0), some (.int x1), some (.int x2), none, none, none, none, none, none]) (st' := [.int x2, .ref 5]) (S1 := zS c s) rfl ?_
    obtain ⟨r5, g7, h⟩ := zp_inv h
    refine zq_call1 rfl rfl (zh_5 _) rfl rfl rfl ((tX0_hasLock g7).up (by decide)) rfl ?_
    refine zq_if1 (b := ¬ r5 = 0) rfl Iff.rfl rfl (fun g8 => ?_) (fun g8 => ?_)
    · rw [if_pos g8] at h
      refine zr_many 1 (pc' := 25) (L' := [some (.ref 0), some (.int x1), some (.int x2), none, none, none, none, none, none]) (st' := [.ref 0]) (S1 := zS c s) rfl ?_
      refine zq_get rfl (zh_0 _) rfl rfl rfl ?_
      refine zr_many 1 (pc' := 29) (L' := [some (.ref 0), some (.int x1), some (.int x2), none, none, none, none, none, none]) (st' := [.ref 0, .ref 5]) (S1 := zS c s) rfl ?_
      refine zq_get rfl (zh_0 _) rfl rfl rfl ?_
      refine zr_many 1 (pc' := 33) (L' := [some (.ref 0), some (.int x1), some (.int x2), none, none, none, none, none, none]) (st' := [.ref 0, .ref 17, .ref 5]) (S1 := zS c s) rfl ?_
      refine zq_get rfl (zh_0 _) rfl rfl rfl ?_
      refine zq_get rfl (zh_17 _) rfl rfl rfl ?_
      refine zr_many 1 (pc' := 40) (L' := [some (.ref 0), some (.int x1), some (.int x2), none, none, none, none, none, none]) (st' := [.int x1, .ref 21, .ref 17, .ref 5]) (S1 := zS c s) rfl ?_
      obtain ⟨g9, h⟩ := zi_cond_inv h
      refine zq_ild rfl (zh_21 _) rfl g9 rfl ?_
      obtain ⟨r10, g12, h⟩ := zp_inv h
      refine zq_call1 rfl rfl (zh_5 _) rfl rfl rfl ((tX0_freeAt zM_17 g12).up (by decide)) rfl ?_
      refine zr_many 2 (pc' := 46) (L' := [some (.ref 0), some (.int x1), some (.int x2), some (.int r10), none, none, none, none, none]) (st' := [.ref 0]) (S1 := zS c s) rfl ?_
      refine zq_get rfl (zh_0 _) rfl rfl rfl ?_
      obtain ⟨s14, g15, h⟩ := zp_inv h
      refine zq_call0 rfl rfl (zh_41 _) rfl rfl rfl ((tX2_begin g15).up (by decide)) rfl ?_
      refine zr_many 1 (pc' := 53) (L' := [some (.ref 0), some (.int x1), some (.int x2), some (.int r10), none, none, none, none, none]) (st' := [.ref 0]) (S1 := zS c s14) rfl ?_
      refine zq_get rfl (zh_0 _) rfl rfl rfl ?_
      refine zr_many 1 (pc' := 57) (L' := [some (.ref 0), some (.int x1), some (.int x2), some (.int r10), none, none, none, none, none]) (st' := [.ref 0, .ref 41]) (S1 := zS c s14) rfl ?_
      refine zq_get rfl (zh_0 _) rfl rfl rfl ?_
      refine zr_many 2 (pc' := 62) (L' := [some (.ref 0), some (.int x1), some (.int x2), some (.int r10), none, none, none, none, none]) (st' := [.ref 0, .int x2, .ref 17, .ref 41]) (S1 := zS c s14) rfl ?_
      refine zq_get rfl (zh_0 _) rfl rfl rfl ?_
      refine zr_many 1 (pc' := 66) (L' := [some (.ref 0), some (.int x1), some (.int x2), some (.int r10), none, none, none, none, none]) (st' := [.ref 0, .ref 5, .int x2, .ref 17, .ref 41]) (S1 := zS c s14) rfl ?_
      refine zq_get rfl (zh_0 _) rfl rfl rfl ?_
      refine zr_many 1 (pc' := 70) (L' := [some (.ref 0), some (.int x1), some (.int x2), some (.int r10), none, none, none, none, none]) (st' := [.int x1, .ref 17, .ref 5, .int x2, .ref 17, .ref 41]) (S1 := zS c s14) rfl ?_
      obtain ⟨r16, g18, h⟩ := zp_inv h
      refine zq_call1 rfl rfl (zh_5 _) rfl rfl rfl ((tX0_crewOf zM_17 g18).up (by decide)) rfl ?_
      refine zr_many 1 (pc' := 74) (L' := [some (.ref 0), some (.int x1), some (.int x2), some (.int r10), none, none, none, none, none]) (st' := [.int r10, .int r16, .int x2, .ref 17, .ref 41]) (S1 := zS c s14) rfl ?_
      obtain ⟨s20, g21, h⟩ := zp_inv h
      refine zq_call0 rfl rfl (zh_41 _) rfl rfl rfl (tX2_mustSing zM_17 g21) rfl ?_
      refine zr_many 1 (pc' := 78) (L' := [some (.ref 0), some (.int x1), some (.int x2), some (.int r10), none, none, none, none, none]) (st' := [.ref 0]) (S1 := zS c s20) rfl ?_
      refine zq_get rfl (zh_0 _) rfl rfl rfl ?_
      refine zr_many 1 (pc' := 82) (L' := [some (.ref 0), some (.int x1), some (.int x2), some (.int r10), none, none, none, none, none]) (st' := [.int r10, .ref 41]) (S1 := zS c s20) rfl ?_
      obtain ⟨r22, g24, h⟩ := zp_inv h
      refine zq_call1 rfl rfl (zh_41 _) rfl rfl rfl ((tX2_cheapest g24).up (by decide)) rfl ?_
      refine zr_many 2 (pc' := 89) (L' := [some (.ref 0), some (.int x1), some (.int x2), some (.int r10), some (.int r22), none, none, none, none]) (st' := [.int r22]) (S1 := zS c s20) rfl ?_
      refine zq_if1 (b := 0 ≤ r22) rfl Iff.rfl rfl (fun g25 => ?_) (fun g25 => ?_)
      · rw [if_pos g25] at h
        refine zr_many 3 (pc' := 99) (L' := [some (.ref 0), some (.int x1), some (.int x2), some (.int r10), some (.int r22), some (.int (0 : Int32)), none, none, none]) (st' := [.ref 0]) (S1 := zS c s20) rfl ?_
        refine zq_get rfl (zh_0 _) rfl rfl rfl ?_
        obtain ⟨s27, g28, h⟩ := zp_inv h
        refine zq_call0 rfl rfl (zh_3 _) rfl rfl rfl ((tX5_clear g28).up (by decide)) rfl ?_
        refine zr_many 2 (pc' := 108) (L' := [some (.ref 0), some (.int x1), some (.int x2), some (.int r10), some (.int r22), some (.int (0 : Int32)), some (.int (0 : Int32)), none, none]) (st' := []) (S1 := zS c s27) rfl ?_
        obtain ⟨w43, g44, h⟩ := zp_inv h
        refine zr_wk [some (.ref 0), none, none, some (.int r10), some (.int r22), some (.int (0 : Int32)), some (.int (0 : Int32)), none, none] ⟨rfl, rfl, rfl, rfl, rfl, trivial⟩ (zl_cert (Z := fun w => zr kX11_pays 1 4 108 [some (.ref 0), none, none, some (.int r10), some (.int r22), some (.int w.1), some (.int w.2.1), none, none] [] (zS c w.2.2) _ _) (Y := (fun w => zr kX11_pays 1 4 194 [none, none, none, none, none, some (.int w.1), none, none, none] [] (zS c w.2) _ _)) (fun w o h1 h2 h3 => tX11_pays_B108 h1 h2 h3) n _ _ g44 ?_)
        show zr kX11_pays 1 4 194 [none, none, none, none, none, some (.int w43.1), none, none, none] [] (zS c w43.2) _ _
        refine zr_many 1 (pc' := 196) (L' := [none, none, none, none, none, some (.int w43.1), none, none, none]) (st' := [.int w43.1]) (S1 := zS c w43.2) rfl ?_
        cases h
        exact zq_iret rfl
      · rw [if_neg g25] at h
        refine zr_many 1 (pc' := 94) (L' := [some (.ref 0), some (.int x1), some (.int x2), some (.int r10), some (.int r22), none, none, none, none]) (st' := [.int (-2 : Int32)]) (S1 := zS c s20) rfl ?_
        cases h
        exact zq_iret rfl
    · rw [if_neg g8] at h
      exact zr_wk [none, none, none, none, none, none, none, none, none] trivial (tX11_pays_J22 h)
def fX11_drawNext (n : Nat) (s : zs) (x0 : Int32) : Option Int32 := some ((x0 * (1103515245 : Int32)) + (12345 : Int32))
theorem tX11_drawNext {n : Nat} {c : Nat × Nat} {s : zs} {x0 : Int32} {r : Int32} (h : fX11_drawNext n s x0 = some r) : zc 1 2257 [.int x0] (zS c s) (some (.int r)) (zS c s) := by
  refine zc_of (k := kX11_drawNext) (rt := 1) (L := [some (.int x0)]) zm_2257.1 rfl rfl (by decide) rfl rfl ?_
  unfold fX11_drawNext at h
  refine zr_many 5 (pc' := 9) (L' := [some (.int x0)]) (st' := [.int ((x0 * (1103515245 : Int32)) + (12345 : Int32))]) (S1 := zS c s) rfl ?_
  cases h
  exact zq_iret rfl
def fX11_keep_J9 (n : Nat) (s : zs) : Option (Int32 × zs) := some ((0 : Int32), s)
theorem tX11_keep_J9 {n : Nat} {c : Nat × Nat} {s : zs} {r : Int32} {s' : zs} (h : fX11_keep_J9 n s = some (r, s')) : zr kX11_keep 2 1 9 [none, none] [] (zS c s) (some (.int r)) (zS c s') := by
  unfold fX11_keep_J9 at h
  refine zr_many 1 (pc' := 10) (L' := [none, none]) (st' := [.int (0 : Int32)]) (S1 := zS c s) rfl ?_
  cases h
  exact zq_zret rfl (by decide)
def fX11_keep (n : Nat) (s : zs) (x1 : Int32) : Option (Int32 × zs) := if x1 < 0 then fX11_keep_J9 n s else if x1 < (3 : Int32) then cond (zi_in x1 3) (zp (fX3_copy n s (143 + 6 * x1.toNatClampNeg) 17) (fun s5 => some ((1 : Int32), (zsi s5 0 14 ((s5.1 0 14) ||| ((1 : Int32) <<< (x1 &&& 31))))))) none else fX11_keep_J9 n s
theorem tX11_keep {n : Nat} {c : Nat × Nat} {s : zs} {x1 : Int32} {r : Int32} {s' : zs} (h : fX11_keep n s x1 = some (r, s')) : zc 2 2258 [.ref 0, .int x1] (zS c s) (some (.int r)) (zS c s') := by
  refine zc_of (k := kX11_keep) (rt := 2) (L := [some (.ref 0), some (.int x1)]) zm_2258.1 rfl rfl (by decide) rfl rfl ?_
  unfold fX11_keep at h
  refine zr_many 1 (pc' := 1) (L' := [some (.ref 0), some (.int x1)]) (st' := [.int x1]) (S1 := zS c s) rfl ?_
  refine zq_if1 (b := x1 < 0) rfl Iff.rfl rfl (fun g1 => ?_) (fun g1 => ?_)
  · rw [if_pos g1] at h
    exact zr_wk [none, none] trivial (tX11_keep_J9 h)
  · rw [if_neg g1] at h
    refine zr_many 2 (pc' := 6) (L' := [some (.ref 0), some (.int x1)]) (st' := [.int (3 : Int32), .int x1]) (S1 := zS c s) rfl ?_
    refine zq_if2 (b := x1 < (3 : Int32)) rfl Iff.rfl rfl (fun g2 => ?_) (fun g2 => ?_)
    · rw [if_pos g2] at h
      refine zr_many 1 (pc' := 12) (L' := [some (.ref 0), some (.int x1)]) (st' := [.ref 0]) (S1 := zS c s) rfl ?_
      refine zq_get rfl (zh_0 _) rfl rfl rfl ?_
      refine zr_many 1 (pc' := 16) (L' := [some (.ref 0), some (.int x1)]) (st' := [.int x1, .ref 141]) (S1 := zS c s) rfl ?_
      obtain ⟨g3, h⟩ := zi_cond_inv h
      refine zq_ald rfl (zh_141 _) rfl g3 rfl ?_
      refine zr_many 1 (pc' := 18) (L' := [some (.ref 0), some (.int x1)]) (st' := [.ref 0, .ref (143 + 6 * x1.toNatClampNeg)]) (S1 := zS c s) rfl ?_
      refine zq_get rfl (zh_0 _) rfl rfl rfl ?_
      obtain ⟨s5, g6, h⟩ := zp_inv h
      refine zq_call0 rfl rfl (zhM_0 (zM_143 g3) _) rfl (zM_lt (j := 0) (zM_143 g3) (by decide)) rfl (tX3_copy (zM_143 g3) zM_17 g6) rfl ?_
      refine zr_many 2 (pc' := 26) (L' := [some (.ref 0), some (.int x1)]) (st' := [.ref 0, .ref 0]) (S1 := zS c s5) rfl ?_
      refine zq_get rfl (zh_0 _) rfl rfl rfl ?_
      refine zr_many 4 (pc' := 33) (L' := [some (.ref 0), some (.int x1)]) (st' := [.int ((s5.1 0 14) ||| ((1 : Int32) <<< (x1 &&& 31))), .ref 0]) (S1 := zS c s5) rfl ?_
      refine zq_put (s' := (zsi s5 0 14 ((s5.1 0 14) ||| ((1 : Int32) <<< (x1 &&& 31))))) rfl (zh_0 _) rfl rfl rfl rfl zsi_ne rfl ?_
      refine zr_many 1 (pc' := 37) (L' := [some (.ref 0), some (.int x1)]) (st' := [.int (1 : Int32)]) (S1 := zS c (zsi s5 0 14 ((s5.1 0 14) ||| ((1 : Int32) <<< (x1 &&& 31))))) rfl ?_
      cases h
      exact zq_zret rfl (by decide)
    · rw [if_neg g2] at h
      exact zr_wk [none, none] trivial (tX11_keep_J9 h)
def fX11_again_J20 (n : Nat) (s : zs) : Option (Int32 × zs) := some ((0 : Int32), s)
theorem tX11_again_J20 {n : Nat} {c : Nat × Nat} {s : zs} {r : Int32} {s' : zs} (h : fX11_again_J20 n s = some (r, s')) : zr kX11_again 2 1 20 [none, none] [] (zS c s) (some (.int r)) (zS c s') := by
  unfold fX11_again_J20 at h
  refine zr_many 1 (pc' := 21) (L' := [none, none]) (st' := [.int (0 : Int32)]) (S1 := zS c s) rfl ?_
  cases h
  exact zq_zret rfl (by decide)
def fX11_again (n : Nat) (s : zs) (x1 : Int32) : Option (Int32 × zs) := if x1 < 0 then fX11_again_J20 n s else if (3 : Int32) ≤ x1 then fX11_again_J20 n s else if ¬ ((s.1 0 14) &&& ((1 : Int32) <<< (x1 &&& 31))) = 0 then cond (zi_in x1 3) (zp (fX3_copy n s 17 (143 + 6 * x1.toNatClampNeg)) (fun s6 => zp (fX6_clear n s6) (fun s9 => some ((1 : Int32), s9)))) none else fX11_again_J20 n s
theorem tX11_again {n : Nat} {c : Nat × Nat} {s : zs} {x1 : Int32} {r : Int32} {s' : zs} (h : fX11_again n s x1 = some (r, s')) : zc 2 2259 [.ref 0, .int x1] (zS c s) (some (.int r)) (zS c s') := by
  refine zc_of (k := kX11_again) (rt := 2) (L := [some (.ref 0), some (.int x1)]) zm_2259.1 rfl rfl (by decide) rfl rfl ?_
  unfold fX11_again at h
  refine zr_many 1 (pc' := 1) (L' := [some (.ref 0), some (.int x1)]) (st' := [.int x1]) (S1 := zS c s) rfl ?_
  refine zq_if1 (b := x1 < 0) rfl Iff.rfl rfl (fun g1 => ?_) (fun g1 => ?_)
  · rw [if_pos g1] at h
    exact zr_wk [none, none] trivial (tX11_again_J20 h)
  · rw [if_neg g1] at h
    refine zr_many 2 (pc' := 6) (L' := [some (.ref 0), some (.int x1)]) (st' := [.int (3 : Int32), .int x1]) (S1 := zS c s) rfl ?_
    refine zq_if2 (b := (3 : Int32) ≤ x1) rfl Iff.rfl rfl (fun g2 => ?_) (fun g2 => ?_)
    · rw [if_pos g2] at h
      exact zr_wk [none, none] trivial (tX11_again_J20 h)
    · rw [if_neg g2] at h
      refine zr_many 1 (pc' := 10) (L' := [some (.ref 0), some (.int x1)]) (st' := [.ref 0]) (S1 := zS c s) rfl ?_
      refine zq_get rfl (zh_0 _) rfl rfl rfl ?_
      refine zr_many 4 (pc' := 17) (L' := [some (.ref 0), some (.int x1)]) (st' := [.int ((s.1 0 14) &&& ((1 : Int32) <<< (x1 &&& 31)))]) (S1 := zS c s) rfl ?_
      refine zq_if1 (b := ¬ ((s.1 0 14) &&& ((1 : Int32) <<< (x1 &&& 31))) = 0) rfl Iff.rfl rfl (fun g3 => ?_) (fun g3 => ?_)
      · rw [if_pos g3] at h
        refine zr_many 1 (pc' := 23) (L' := [some (.ref 0), some (.int x1)]) (st' := [.ref 0]) (S1 := zS c s) rfl ?_
        refine zq_get rfl (zh_0 _) rfl rfl rfl ?_
        refine zr_many 1 (pc' := 27) (L' := [some (.ref 0), some (.int x1)]) (st' := [.ref 0, .ref 17]) (S1 := zS c s) rfl ?_
        refine zq_get rfl (zh_0 _) rfl rfl rfl ?_
        refine zr_many 1 (pc' := 31) (L' := [some (.ref 0), some (.int x1)]) (st' := [.int x1, .ref 141, .ref 17]) (S1 := zS c s) rfl ?_
        obtain ⟨g4, h⟩ := zi_cond_inv h
        refine zq_ald rfl (zh_141 _) rfl g4 rfl ?_
        obtain ⟨s6, g7, h⟩ := zp_inv h
        refine zq_call0 rfl rfl (zh_17 _) rfl rfl rfl (tX3_copy zM_17 (zM_143 g4) g7) rfl ?_
        refine zr_many 1 (pc' := 36) (L' := [some (.ref 0), some (.int x1)]) (st' := [.ref 0]) (S1 := zS c s6) rfl ?_
        refine zq_get rfl (zh_0 _) rfl rfl rfl ?_
        obtain ⟨s9, g10, h⟩ := zp_inv h
        refine zq_call0 rfl rfl (zh_49 _) rfl rfl rfl (tX6_clear g10) rfl ?_
        refine zr_many 1 (pc' := 43) (L' := [some (.ref 0), some (.int x1)]) (st' := [.int (1 : Int32)]) (S1 := zS c s9) rfl ?_
        cases h
        exact zq_zret rfl (by decide)
      · rw [if_neg g3] at h
        exact zr_wk [none, none] trivial (tX11_again_J20 h)
def fX11_count_J68 (n : Nat) (s : zs) (x1 : Int32) : Option Int32 := zp (fX0_many n s x1) (fun r2 => some r2)
theorem tX11_count_J68 {n : Nat} {c : Nat × Nat} {s : zs} {x1 : Int32} {r : Int32} (h : fX11_count_J68 n s x1 = some r) : zr kX11_count 1 1 68 [some (.ref 0), some (.int x1)] [] (zS c s) (some (.int r)) (zS c s) := by
  unfold fX11_count_J68 at h
  refine zr_many 1 (pc' := 69) (L' := [some (.ref 0), some (.int x1)]) (st' := [.ref 0]) (S1 := zS c s) rfl ?_
  refine zq_get rfl (zh_0 _) rfl rfl rfl ?_
  refine zr_many 1 (pc' := 73) (L' := [some (.ref 0), some (.int x1)]) (st' := [.int x1, .ref 5]) (S1 := zS c s) rfl ?_
  obtain ⟨r2, g4, h⟩ := zp_inv h
  refine zq_call1 rfl rfl (zh_5 _) rfl rfl rfl (tX0_many g4) rfl ?_
  cases h
  exact zq_iret rfl
def fX11_count (n : Nat) (s : zs) (x1 : Int32) : Option Int32 := if x1 = (0 : Int32) then fX11_count_J68 n s x1 else if x1 = (1 : Int32) then fX11_count_J68 n s x1 else if x1 = (2 : Int32) then fX11_count_J68 n s x1 else if x1 = (3 : Int32) then some (s.1 17 2) else if x1 = (4 : Int32) then some (s.1 17 1) else if x1 = (5 : Int32) then some (s.1 5 10) else if x1 = (6 : Int32) then some (s.1 17 0) else if x1 = (7 : Int32) then zp (fX0_crewOf n s 17 (-1 : Int32)) (fun r12 => some r12) else if x1 = (8 : Int32) then zp (fX0_tiredOf n s 17 (((1 : Int32) <<< ((s.1 5 8) &&& 31)) - (1 : Int32))) (fun r16 => some r16) else if x1 = (9 : Int32) then zp (fX4_size n s) (fun r20 => some r20) else if x1 = (10 : Int32) then zp (fX6_size n s) (fun r24 => some r24) else if x1 = (11 : Int32) then zp (fX5_size n s) (fun r28 => some r28) else if x1 = (12 : Int32) then zp (fX8_length n s) (fun r32 => some r32) else some (-100 : Int32)
theorem tX11_count {n : Nat} {c : Nat × Nat} {s : zs} {x1 : Int32} {r : Int32} (h : fX11_count n s x1 = some r) : zc 2 2260 [.ref 0, .int x1] (zS c s) (some (.int r)) (zS c s) := by
  refine zc_of (k := kX11_count) (rt := 1) (L := [some (.ref 0), some (.int x1)]) zm_2260.1 rfl rfl (by decide) rfl rfl ?_
  unfold fX11_count at h
  refine zr_many 1 (pc' := 1) (L' := [some (.ref 0), some (.int x1)]) (st' := [.int x1]) (S1 := zS c s) rfl ?_
  refine zq_sw (Or.inl ⟨_, _, _, _, rfl⟩) ?_
  by_cases g1 : x1 = (0 : Int32)
  · rw [if_pos g1] at h
    rw [zi_sw_pos g1]
    exact zr_wk [some (.ref 0), some (.int x1)] ⟨rfl, rfl, trivial⟩ (tX11_count_J68 h)
  rw [if_neg g1] at h
  rw [zi_sw_neg g1]
  by_cases g5 : x1 = (1 : Int32)
  · rw [if_pos g5] at h
    rw [zi_sw_pos g5]
    exact zr_wk [some (.ref 0), some (.int x1)] ⟨rfl, rfl, trivial⟩ (tX11_count_J68 h)
  rw [if_neg g5] at h
  rw [zi_sw_neg g5]
  by_cases g6 : x1 = (2 : Int32)
  · rw [if_pos g6] at h
    rw [zi_sw_pos g6]
    exact zr_wk [some (.ref 0), some (.int x1)] ⟨rfl, rfl, trivial⟩ (tX11_count_J68 h)
  rw [if_neg g6] at h
  rw [zi_sw_neg g6]
  by_cases g7 : x1 = (3 : Int32)
  · rw [if_pos g7] at h
    rw [zi_sw_pos g7]
    refine zr_many 1 (pc' := 78) (L' := [some (.ref 0), some (.int x1)]) (st' := [.ref 0]) (S1 := zS c s) rfl ?_
    refine zq_get rfl (zh_0 _) rfl rfl rfl ?_
    refine zq_get rfl (zh_17 _) rfl rfl rfl ?_
    cases h
    exact zq_iret rfl
  rw [if_neg g7] at h
  rw [zi_sw_neg g7]
  by_cases g8 : x1 = (4 : Int32)
  · rw [if_pos g8] at h
    rw [zi_sw_pos g8]
    refine zr_many 1 (pc' := 86) (L' := [some (.ref 0), some (.int x1)]) (st' := [.ref 0]) (S1 := zS c s) rfl ?_
    refine zq_get rfl (zh_0 _) rfl rfl rfl ?_
    refine zq_get rfl (zh_17 _) rfl rfl rfl ?_
    cases h
    exact zq_iret rfl
  rw [if_neg g8] at h
  rw [zi_sw_neg g8]
  by_cases g9 : x1 = (5 : Int32)
  · rw [if_pos g9] at h
    rw [zi_sw_pos g9]
    refine zr_many 1 (pc' := 94) (L' := [some (.ref 0), some (.int x1)]) (st' := [.ref 0]) (S1 := zS c s) rfl ?_
    refine zq_get rfl (zh_0 _) rfl rfl rfl ?_
    refine zq_get rfl (zh_5 _) rfl rfl rfl ?_
    cases h
    exact zq_iret rfl
  rw [if_neg g9] at h
  rw [zi_sw_neg g9]
  by_cases g10 : x1 = (6 : Int32)
  · rw [if_pos g10] at h
    rw [zi_sw_pos g10]
    refine zr_many 1 (pc' := 102) (L' := [some (.ref 0), some (.int x1)]) (st' := [.ref 0]) (S1 := zS c s) rfl ?_
    refine zq_get rfl (zh_0 _) rfl rfl rfl ?_
    refine zq_get rfl (zh_17 _) rfl rfl rfl ?_
    cases h
    exact zq_iret rfl
  rw [if_neg g10] at h
  rw [zi_sw_neg g10]
  by_cases g11 : x1 = (7 : Int32)
  · rw [if_pos g11] at h
    rw [zi_sw_pos g11]
    refine zr_many 1 (pc' := 110) (L' := [some (.ref 0), some (.int x1)]) (st' := [.ref 0]) (S1 := zS c s) rfl ?_
    refine zq_get rfl (zh_0 _) rfl rfl rfl ?_
    refine zr_many 1 (pc' := 114) (L' := [some (.ref 0), some (.int x1)]) (st' := [.ref 0, .ref 5]) (S1 := zS c s) rfl ?_
    refine zq_get rfl (zh_0 _) rfl rfl rfl ?_
    refine zr_many 1 (pc' := 118) (L' := [some (.ref 0), some (.int x1)]) (st' := [.int (-1 : Int32), .ref 17, .ref 5]) (S1 := zS c s) rfl ?_
    obtain ⟨r12, g14, h⟩ := zp_inv h
    refine zq_call1 rfl rfl (zh_5 _) rfl rfl rfl (tX0_crewOf zM_17 g14) rfl ?_
    cases h
    exact zq_iret rfl
  rw [if_neg g11] at h
  rw [zi_sw_neg g11]
  by_cases g15 : x1 = (8 : Int32)
  · rw [if_pos g15] at h
    rw [zi_sw_pos g15]
    refine zr_many 1 (pc' := 123) (L' := [some (.ref 0), some (.int x1)]) (st' := [.ref 0]) (S1 := zS c s) rfl ?_
    refine zq_get rfl (zh_0 _) rfl rfl rfl ?_
    refine zr_many 1 (pc' := 127) (L' := [some (.ref 0), some (.int x1)]) (st' := [.ref 0, .ref 5]) (S1 := zS c s) rfl ?_
    refine zq_get rfl (zh_0 _) rfl rfl rfl ?_
    refine zr_many 2 (pc' := 132) (L' := [some (.ref 0), some (.int x1)]) (st' := [.ref 0, .int (1 : Int32), .ref 17, .ref 5]) (S1 := zS c s) rfl ?_
    refine zq_get rfl (zh_0 _) rfl rfl rfl ?_
    refine zq_get rfl (zh_5 _) rfl rfl rfl ?_
    refine zr_many 3 (pc' := 141) (L' := [some (.ref 0), some (.int x1)]) (st' := [.int (((1 : Int32) <<< ((s.1 5 8) &&& 31)) - (1 : Int32)), .ref 17, .ref 5]) (S1 := zS c s) rfl ?_
    obtain ⟨r16, g18, h⟩ := zp_inv h
    refine zq_call1 rfl rfl (zh_5 _) rfl rfl rfl (tX0_tiredOf zM_17 g18) rfl ?_
    cases h
    exact zq_iret rfl
  rw [if_neg g15] at h
  rw [zi_sw_neg g15]
  by_cases g19 : x1 = (9 : Int32)
  · rw [if_pos g19] at h
    rw [zi_sw_pos g19]
    refine zr_many 1 (pc' := 146) (L' := [some (.ref 0), some (.int x1)]) (st' := [.ref 0]) (S1 := zS c s) rfl ?_
    refine zq_get rfl (zh_0 _) rfl rfl rfl ?_
    obtain ⟨r20, g22, h⟩ := zp_inv h
    refine zq_call1 rfl rfl (zh_43 _) rfl rfl rfl (tX4_size g22) rfl ?_
    cases h
    exact zq_iret rfl
  rw [if_neg g19] at h
  rw [zi_sw_neg g19]
  by_cases g23 : x1 = (10 : Int32)
  · rw [if_pos g23] at h
    rw [zi_sw_pos g23]
    refine zr_many 1 (pc' := 154) (L' := [some (.ref 0), some (.int x1)]) (st' := [.ref 0]) (S1 := zS c s) rfl ?_
    refine zq_get rfl (zh_0 _) rfl rfl rfl ?_
    obtain ⟨r24, g26, h⟩ := zp_inv h
    refine zq_call1 rfl rfl (zh_49 _) rfl rfl rfl (tX6_size g26) rfl ?_
    cases h
    exact zq_iret rfl
  rw [if_neg g23] at h
  rw [zi_sw_neg g23]
  by_cases g27 : x1 = (11 : Int32)
  · rw [if_pos g27] at h
    rw [zi_sw_pos g27]
    refine zr_many 1 (pc' := 162) (L' := [some (.ref 0), some (.int x1)]) (st' := [.ref 0]) (S1 := zS c s) rfl ?_
    refine zq_get rfl (zh_0 _) rfl rfl rfl ?_
    obtain ⟨r28, g30, h⟩ := zp_inv h
    refine zq_call1 rfl rfl (zh_3 _) rfl rfl rfl (tX5_size g30) rfl ?_
    cases h
    exact zq_iret rfl
  rw [if_neg g27] at h
  rw [zi_sw_neg g27]
  by_cases g31 : x1 = (12 : Int32)
  · rw [if_pos g31] at h
    rw [zi_sw_pos g31]
    refine zr_many 1 (pc' := 170) (L' := [some (.ref 0), some (.int x1)]) (st' := [.ref 0]) (S1 := zS c s) rfl ?_
    refine zq_get rfl (zh_0 _) rfl rfl rfl ?_
    obtain ⟨r32, g34, h⟩ := zp_inv h
    refine zq_call1 rfl rfl (zh_1 _) rfl rfl rfl (tX8_length g34) rfl ?_
    cases h
    exact zq_iret rfl
  rw [if_neg g31] at h
  rw [zi_sw_neg g31]
  simp only [zi_sw]
  refine zr_many 1 (pc' := 179) (L' := [some (.ref 0), some (.int x1)]) (st' := [.int (-100 : Int32)]) (S1 := zS c s) rfl ?_
  cases h
  exact zq_iret rfl
def fX12_thrown (n : Nat) (s : zs) : Option Int32 := some (s.1 161 0)
theorem tX12_thrown {n : Nat} {c : Nat × Nat} {s : zs} {r : Int32} (h : fX12_thrown n s = some r) : zc 1 2401 [.ref 161] (zS c s) (some (.int r)) (zS c s) := by
  refine zc_of (k := kX12_thrown) (rt := 1) (L := [some (.ref 161)]) zm_2401.1 rfl rfl (by decide) rfl rfl ?_
  unfold fX12_thrown at h
  refine zr_many 1 (pc' := 1) (L' := [some (.ref 161)]) (st' := [.ref 161]) (S1 := zS c s) rfl ?_
  refine zq_get rfl (zh_161 _) rfl rfl rfl ?_
  cases h
  exact zq_iret rfl
def fX12_refuse (n : Nat) (s : zs) : Option (Int32 × zs) := some ((0 : Int32), (zsi s 161 0 (1 : Int32)))
theorem tX12_refuse {n : Nat} {c : Nat × Nat} {s : zs} {r : Int32} {s' : zs} (h : fX12_refuse n s = some (r, s')) : zc 1 2402 [.ref 161] (zS c s) (some (.int r)) (zS c s') := by
  refine zc_of (k := kX12_refuse) (rt := 1) (L := [some (.ref 161)]) zm_2402.1 rfl rfl (by decide) rfl rfl ?_
  unfold fX12_refuse at h
  refine zr_many 2 (pc' := 2) (L' := [some (.ref 161)]) (st' := [.int (1 : Int32), .ref 161]) (S1 := zS c s) rfl ?_
  refine zq_put (s' := (zsi s 161 0 (1 : Int32))) rfl (zh_161 _) rfl rfl rfl rfl zsi_ne rfl ?_
  refine zr_many 1 (pc' := 6) (L' := [some (.ref 161)]) (st' := [.int (0 : Int32)]) (S1 := zS c (zsi s 161 0 (1 : Int32))) rfl ?_
  cases h
  exact zq_iret rfl
def fX12_in_J18 (n : Nat) (s : zs) (y0 : Int32) : Option Int32 := if y0 = 0 ∨ y0 = 1 then some y0 else none
theorem tX12_in_J18 {n : Nat} {c : Nat × Nat} {s : zs} {y0 : Int32} {r : Int32} (h : fX12_in_J18 n s y0 = some r) : zr kX12_in 2 0 18 [none, none, none, none, none, none] [.int y0] (zS c s) (some (.int r)) (zS c s) := by
  unfold fX12_in_J18 at h
  obtain ⟨gz, h⟩ := zt_inv h
  cases h
  exact zq_zret rfl gz
def fX12_in_J17 (n : Nat) (s : zs) : Option Int32 := fX12_in_J18 n s (0 : Int32)
theorem tX12_in_J17 {n : Nat} {c : Nat × Nat} {s : zs} {r : Int32} (h : fX12_in_J17 n s = some r) : zr kX12_in 2 0 17 [none, none, none, none, none, none] [] (zS c s) (some (.int r)) (zS c s) := by
  unfold fX12_in_J17 at h
  refine zr_many 1 (pc' := 18) (L' := [none, none, none, none, none, none]) (st' := [.int (0 : Int32)]) (S1 := zS c s) rfl ?_
  exact zr_wk [none, none, none, none, none, none] trivial (tX12_in_J18 h)
def fX12_in (n : Nat) (s : zs) (x0 : Int64) (x2 : Int64) (x4 : Int64) : Option Int32 := if (lg_cmp x0 x2) < 0 then fX12_in_J17 n s else if 0 < (lg_cmp x0 x4) then fX12_in_J17 n s else fX12_in_J18 n s (1 : Int32)
theorem tX12_in {n : Nat} {c : Nat × Nat} {s : zs} {x0 : Int64} {x2 : Int64} {x4 : Int64} {r : Int32} (h : fX12_in n s x0 x2 x4 = some r) : zc 1 2403 [.long x0, .long x2, .long x4] (zS c s) (some (.int r)) (zS c s) := by
  refine zc_of (k := kX12_in) (rt := 2) (L := [some (.long x0), none, some (.long x2), none, some (.long x4), none]) zm_2403.1 rfl rfl (by decide) rfl rfl ?_
  unfold fX12_in at h
  refine zr_many 3 (pc' := 3) (L' := [some (.long x0), none, some (.long x2), none, some (.long x4), none]) (st' := [.int (lg_cmp x0 x2)]) (S1 := zS c s) rfl ?_
  refine zq_if1 (b := (lg_cmp x0 x2) < 0) rfl Iff.rfl rfl (fun g1 => ?_) (fun g1 => ?_)
  · rw [if_pos g1] at h
    exact zr_wk [none, none, none, none, none, none] trivial (tX12_in_J17 h)
  · rw [if_neg g1] at h
    refine zr_many 3 (pc' := 10) (L' := [some (.long x0), none, some (.long x2), none, some (.long x4), none]) (st' := [.int (lg_cmp x0 x4)]) (S1 := zS c s) rfl ?_
    refine zq_if1 (b := 0 < (lg_cmp x0 x4)) rfl Iff.rfl rfl (fun g2 => ?_) (fun g2 => ?_)
    · rw [if_pos g2] at h
      exact zr_wk [none, none, none, none, none, none] trivial (tX12_in_J17 h)
    · rw [if_neg g2] at h
      refine zr_many 2 (pc' := 18) (L' := [some (.long x0), none, some (.long x2), none, some (.long x4), none]) (st' := [.int (1 : Int32)]) (S1 := zS c s) rfl ?_
      exact zr_wk [none, none, none, none, none, none] trivial (tX12_in_J18 h)
def fX12_has_J14 (n : Nat) (s : zs) (y0 : Int32) : Option Int32 := if y0 = 0 ∨ y0 = 1 then some y0 else none
theorem tX12_has_J14 {n : Nat} {c : Nat × Nat} {s : zs} {y0 : Int32} {r : Int32} (h : fX12_has_J14 n s y0 = some r) : zr kX12_has 2 0 14 [none, none] [.int y0] (zS c s) (some (.int r)) (zS c s) := by
  unfold fX12_has_J14 at h
  obtain ⟨gz, h⟩ := zt_inv h
  cases h
  exact zq_zret rfl gz
def fX12_has (n : Nat) (s : zs) (x0 : Int32) (x1 : Int32) : Option Int32 := if ¬ ((x0 >>> (x1 &&& 31)) &&& (1 : Int32)) = (1 : Int32) then fX12_has_J14 n s (0 : Int32) else fX12_has_J14 n s (1 : Int32)
theorem tX12_has {n : Nat} {c : Nat × Nat} {s : zs} {x0 : Int32} {x1 : Int32} {r : Int32} (h : fX12_has n s x0 x1 = some r) : zc 1 2404 [.int x0, .int x1] (zS c s) (some (.int r)) (zS c s) := by
  refine zc_of (k := kX12_has) (rt := 2) (L := [some (.int x0), some (.int x1)]) zm_2404.1 rfl rfl (by decide) rfl rfl ?_
  unfold fX12_has at h
  refine zr_many 6 (pc' := 6) (L' := [some (.int x0), some (.int x1)]) (st' := [.int (1 : Int32), .int ((x0 >>> (x1 &&& 31)) &&& (1 : Int32))]) (S1 := zS c s) rfl ?_
  refine zq_if2 (b := ¬ ((x0 >>> (x1 &&& 31)) &&& (1 : Int32)) = (1 : Int32)) rfl Iff.rfl rfl (fun g1 => ?_) (fun g1 => ?_)
  · rw [if_pos g1] at h
    refine zr_many 1 (pc' := 14) (L' := [some (.int x0), some (.int x1)]) (st' := [.int (0 : Int32)]) (S1 := zS c s) rfl ?_
    exact zr_wk [none, none] trivial (tX12_has_J14 h)
  · rw [if_neg g1] at h
    refine zr_many 2 (pc' := 14) (L' := [some (.int x0), some (.int x1)]) (st' := [.int (1 : Int32)]) (S1 := zS c s) rfl ?_
    exact zr_wk [none, none] trivial (tX12_has_J14 h)
def fX12_flag_J9 (n : Nat) (s : zs) (y0 : Int32) : Option Int32 := some y0
theorem tX12_flag_J9 {n : Nat} {c : Nat × Nat} {s : zs} {y0 : Int32} {r : Int32} (h : fX12_flag_J9 n s y0 = some r) : zr kX12_flag 1 0 9 [none] [.int y0] (zS c s) (some (.int r)) (zS c s) := by
  unfold fX12_flag_J9 at h
  cases h
  exact zq_iret rfl
def fX12_flag (n : Nat) (s : zs) (x0 : Int32) : Option Int32 := if x0 = 0 then fX12_flag_J9 n s (0 : Int32) else fX12_flag_J9 n s (1 : Int32)
theorem tX12_flag {n : Nat} {c : Nat × Nat} {s : zs} {x0 : Int32} {r : Int32} (h : fX12_flag n s x0 = some r) : zc 1 2405 [.int x0] (zS c s) (some (.int r)) (zS c s) := by
  refine zc_of (k := kX12_flag) (rt := 1) (L := [some (.int x0)]) zm_2405.1 rfl rfl (by decide) rfl rfl ?_
  unfold fX12_flag at h
  refine zr_many 1 (pc' := 1) (L' := [some (.int x0)]) (st' := [.int x0]) (S1 := zS c s) rfl ?_
  refine zq_if1 (b := x0 = 0) rfl Iff.rfl rfl (fun g1 => ?_) (fun g1 => ?_)
  · rw [if_pos g1] at h
    refine zr_many 1 (pc' := 9) (L' := [some (.int x0)]) (st' := [.int (0 : Int32)]) (S1 := zS c s) rfl ?_
    exact zr_wk [none] trivial (tX12_flag_J9 h)
  · rw [if_neg g1] at h
    refine zr_many 2 (pc' := 9) (L' := [some (.int x0)]) (st' := [.int (1 : Int32)]) (S1 := zS c s) rfl ?_
    exact zr_wk [none] trivial (tX12_flag_J9 h)
def fX12_enters (n : Nat) (s : zs) (x1 : Int64) : Option zs := cond (zi_in (s.1 161 1) 24) (some (zsi (zsl s 162 (s.1 161 1).toNatClampNeg x1) 161 1 (((zsl s 162 (s.1 161 1).toNatClampNeg x1).1 161 1) + (1 : Int32)))) none
theorem tX12_enters {n : Nat} {c : Nat × Nat} {s : zs} {x1 : Int64} {s' : zs} (h : fX12_enters n s x1 = some s') : zc 1 2407 [.ref 161, .long x1] (zS c s) none (zS c s') := by
  refine zc_of (k := kX12_enters) (rt := 0) (L := [some (.ref 161), some (.long x1), none]) zm_2407.1 rfl rfl (by decide) rfl rfl ?_
  unfold fX12_enters at h
  refine zr_many 1 (pc' := 1) (L' := [some (.ref 161), some (.long x1), none]) (st' := [.ref 161]) (S1 := zS c s) rfl ?_
  refine zq_get rfl (zh_161 _) rfl rfl rfl ?_
  refine zr_many 1 (pc' := 5) (L' := [some (.ref 161), some (.long x1), none]) (st' := [.ref 161, .ref 162]) (S1 := zS c s) rfl ?_
  refine zq_get rfl (zh_161 _) rfl rfl rfl ?_
  refine zr_many 1 (pc' := 9) (L' := [some (.ref 161), some (.long x1), none]) (st' := [.long x1, .int (s.1 161 1), .ref 162]) (S1 := zS c s) rfl ?_
  obtain ⟨g1, h⟩ := zi_cond_inv h
  refine zq_lst rfl zh_162 rfl g1 rfl ?_
  refine zr_many 2 (pc' := 12) (L' := [some (.ref 161), some (.long x1), none]) (st' := [.ref 161, .ref 161]) (S1 := zS c (zsl s 162 (s.1 161 1).toNatClampNeg x1)) rfl ?_
  refine zq_get rfl (zh_161 _) rfl rfl rfl ?_
  refine zr_many 2 (pc' := 17) (L' := [some (.ref 161), some (.long x1), none]) (st' := [.int (((zsl s 162 (s.1 161 1).toNatClampNeg x1).1 161 1) + (1 : Int32)), .ref 161]) (S1 := zS c (zsl s 162 (s.1 161 1).toNatClampNeg x1)) rfl ?_
  refine zq_put (s' := (zsi (zsl s 162 (s.1 161 1).toNatClampNeg x1) 161 1 (((zsl s 162 (s.1 161 1).toNatClampNeg x1).1 161 1) + (1 : Int32)))) rfl (zh_161 _) rfl rfl rfl rfl zsi_ne rfl ?_
  cases h
  exact zq_vret rfl
def fX12_isLock (n : Nat) (s : zs) (x1 : Int32) : Option Int32 := zp (fX12_in n s x1.toInt64 (0 : Int64) (((s.1 161 3) - (1 : Int32)).toInt64)) (fun r1 => if r1 = 0 ∨ r1 = 1 then some r1 else none)
theorem tX12_isLock {n : Nat} {c : Nat × Nat} {s : zs} {x1 : Int32} {r : Int32} (h : fX12_isLock n s x1 = some r) : zc 2 2408 [.ref 161, .int x1] (zS c s) (some (.int r)) (zS c s) := by
  refine zc_of (k := kX12_isLock) (rt := 2) (L := [some (.ref 161), some (.int x1)]) zm_2408.1 rfl rfl (by decide) rfl rfl ?_
  unfold fX12_isLock at h
  refine zr_many 4 (pc' := 4) (L' := [some (.ref 161), some (.int x1)]) (st' := [.ref 161, .long (0 : Int64), .long x1.toInt64]) (S1 := zS c s) rfl ?_
  refine zq_get rfl (zh_161 _) rfl rfl rfl ?_
  refine zr_many 3 (pc' := 10) (L' := [some (.ref 161), some (.int x1)]) (st' := [.long ((s.1 161 3) - (1 : Int32)).toInt64, .long (0 : Int64), .long x1.toInt64]) (S1 := zS c s) rfl ?_
  obtain ⟨r1, g3, h⟩ := zp_inv h
  refine zq_scall1 rfl (by decide) rfl rfl (tX12_in g3) rfl ?_
  obtain ⟨gz, h⟩ := zt_inv h
  cases h
  exact zq_zret rfl gz
def fX12_isSinger (n : Nat) (s : zs) (x1 : Int32) : Option Int32 := zp (fX12_in n s x1.toInt64 (0 : Int64) (((s.1 161 4) - (1 : Int32)).toInt64)) (fun r1 => if r1 = 0 ∨ r1 = 1 then some r1 else none)
theorem tX12_isSinger {n : Nat} {c : Nat × Nat} {s : zs} {x1 : Int32} {r : Int32} (h : fX12_isSinger n s x1 = some r) : zc 2 2409 [.ref 161, .int x1] (zS c s) (some (.int r)) (zS c s) := by
  refine zc_of (k := kX12_isSinger) (rt := 2) (L := [some (.ref 161), some (.int x1)]) zm_2409.1 rfl rfl (by decide) rfl rfl ?_
  unfold fX12_isSinger at h
  refine zr_many 4 (pc' := 4) (L' := [some (.ref 161), some (.int x1)]) (st' := [.ref 161, .long (0 : Int64), .long x1.toInt64]) (S1 := zS c s) rfl ?_
  refine zq_get rfl (zh_161 _) rfl rfl rfl ?_
  refine zr_many 3 (pc' := 10) (L' := [some (.ref 161), some (.int x1)]) (st' := [.long ((s.1 161 4) - (1 : Int32)).toInt64, .long (0 : Int64), .long x1.toInt64]) (S1 := zS c s) rfl ?_
  obtain ⟨r1, g3, h⟩ := zp_inv h
  refine zq_scall1 rfl (by decide) rfl rfl (tX12_in g3) rfl ?_
  obtain ⟨gz, h⟩ := zt_inv h
  cases h
  exact zq_zret rfl gz
def fX12_isBarge (n : Nat) (s : zs) (x1 : Int32) : Option Int32 := zp (fX12_in n s x1.toInt64 (0 : Int64) (((s.1 161 5) - (1 : Int32)).toInt64)) (fun r1 => if r1 = 0 ∨ r1 = 1 then some r1 else none)
theorem tX12_isBarge {n : Nat} {c : Nat × Nat} {s : zs} {x1 : Int32} {r : Int32} (h : fX12_isBarge n s x1 = some r) : zc 2 2410 [.ref 161, .int x1] (zS c s) (some (.int r)) (zS c s) := by
  refine zc_of (k := kX12_isBarge) (rt := 2) (L := [some (.ref 161), some (.int x1)]) zm_2410.1 rfl rfl (by decide) rfl rfl ?_
  unfold fX12_isBarge at h
  refine zr_many 4 (pc' := 4) (L' := [some (.ref 161), some (.int x1)]) (st' := [.ref 161, .long (0 : Int64), .long x1.toInt64]) (S1 := zS c s) rfl ?_
  refine zq_get rfl (zh_161 _) rfl rfl rfl ?_
  refine zr_many 3 (pc' := 10) (L' := [some (.ref 161), some (.int x1)]) (st' := [.long ((s.1 161 5) - (1 : Int32)).toInt64, .long (0 : Int64), .long x1.toInt64]) (S1 := zS c s) rfl ?_
  obtain ⟨r1, g3, h⟩ := zp_inv h
  refine zq_scall1 rfl (by decide) rfl rfl (tX12_in g3) rfl ?_
  obtain ⟨gz, h⟩ := zt_inv h
  cases h
  exact zq_zret rfl gz
def fX12_isPlace (n : Nat) (s : zs) (x1 : Int32) : Option Int32 := zp (fX12_in n s x1.toInt64 (0 : Int64) ((s.1 161 3).toInt64)) (fun r1 => if r1 = 0 ∨ r1 = 1 then some r1 else none)
theorem tX12_isPlace {n : Nat} {c : Nat × Nat} {s : zs} {x1 : Int32} {r : Int32} (h : fX12_isPlace n s x1 = some r) : zc 2 2411 [.ref 161, .int x1] (zS c s) (some (.int r)) (zS c s) := by
  refine zc_of (k := kX12_isPlace) (rt := 2) (L := [some (.ref 161), some (.int x1)]) zm_2411.1 rfl rfl (by decide) rfl rfl ?_
  unfold fX12_isPlace at h
  refine zr_many 4 (pc' := 4) (L' := [some (.ref 161), some (.int x1)]) (st' := [.ref 161, .long (0 : Int64), .long x1.toInt64]) (S1 := zS c s) rfl ?_
  refine zq_get rfl (zh_161 _) rfl rfl rfl ?_
  refine zr_many 1 (pc' := 8) (L' := [some (.ref 161), some (.int x1)]) (st' := [.long (s.1 161 3).toInt64, .long (0 : Int64), .long x1.toInt64]) (S1 := zS c s) rfl ?_
  obtain ⟨r1, g3, h⟩ := zp_inv h
  refine zq_scall1 rfl (by decide) rfl rfl (tX12_in g3) rfl ?_
  obtain ⟨gz, h⟩ := zt_inv h
  cases h
  exact zq_zret rfl gz
def fX12_placeOf (n : Nat) (s : zs) (m0 : Nat) (x1 : Int32) : Option Int32 := cond (zi_in (((34 : Int32) + ((2 : Int32) * x1)) + (0 : Int32)) 42) (some (s.1 m0 (((34 : Int32) + ((2 : Int32) * x1)) + (0 : Int32)).toNatClampNeg)) none
theorem tX12_placeOf {n : Nat} {c : Nat × Nat} {s : zs} {m0 : Nat} {x1 : Int32} {r : Int32} (hm0 : zR m0) (h : fX12_placeOf n s m0 x1 = some r) : zc 1 2412 [.ref m0, .int x1] (zS c s) (some (.int r)) (zS c s) := by
  refine zc_of (k := kX12_placeOf) (rt := 1) (L := [some (.ref m0), some (.int x1)]) zm_2412.1 rfl rfl (by decide) rfl rfl ?_
  unfold fX12_placeOf at h
  refine zr_many 8 (pc' := 9) (L' := [some (.ref m0), some (.int x1)]) (st' := [.int (((34 : Int32) + ((2 : Int32) * x1)) + (0 : Int32)), .ref m0]) (S1 := zS c s) rfl ?_
  obtain ⟨g1, h⟩ := zi_cond_inv h
  refine zq_ild rfl (zhR hm0 _) (zR_lt hm0) g1 rfl ?_
  cases h
  exact zq_iret rfl
def fX12_crewOf (n : Nat) (s : zs) (m0 : Nat) (x1 : Int32) : Option Int32 := cond (zi_in (((10 : Int32) + ((3 : Int32) * x1)) + (1 : Int32)) 42) (some (s.1 m0 (((10 : Int32) + ((3 : Int32) * x1)) + (1 : Int32)).toNatClampNeg)) none
theorem tX12_crewOf {n : Nat} {c : Nat × Nat} {s : zs} {m0 : Nat} {x1 : Int32} {r : Int32} (hm0 : zR m0) (h : fX12_crewOf n s m0 x1 = some r) : zc 1 2413 [.ref m0, .int x1] (zS c s) (some (.int r)) (zS c s) := by
  refine zc_of (k := kX12_crewOf) (rt := 1) (L := [some (.ref m0), some (.int x1)]) zm_2413.1 rfl rfl (by decide) rfl rfl ?_
  unfold fX12_crewOf at h
  refine zr_many 8 (pc' := 9) (L' := [some (.ref m0), some (.int x1)]) (st' := [.int (((10 : Int32) + ((3 : Int32) * x1)) + (1 : Int32)), .ref m0]) (S1 := zS c s) rfl ?_
  obtain ⟨g1, h⟩ := zi_cond_inv h
  refine zq_ild rfl (zhR hm0 _) (zR_lt hm0) g1 rfl ?_
  cases h
  exact zq_iret rfl
def fX12_tiredOf (n : Nat) (s : zs) (m0 : Nat) (x1 : Int32) : Option Int32 := cond (zi_in (((10 : Int32) + ((3 : Int32) * x1)) + (2 : Int32)) 42) (some (s.1 m0 (((10 : Int32) + ((3 : Int32) * x1)) + (2 : Int32)).toNatClampNeg)) none
theorem tX12_tiredOf {n : Nat} {c : Nat × Nat} {s : zs} {m0 : Nat} {x1 : Int32} {r : Int32} (hm0 : zR m0) (h : fX12_tiredOf n s m0 x1 = some r) : zc 1 2414 [.ref m0, .int x1] (zS c s) (some (.int r)) (zS c s) := by
  refine zc_of (k := kX12_tiredOf) (rt := 1) (L := [some (.ref m0), some (.int x1)]) zm_2414.1 rfl rfl (by decide) rfl rfl ?_
  unfold fX12_tiredOf at h
  refine zr_many 8 (pc' := 9) (L' := [some (.ref m0), some (.int x1)]) (st' := [.int (((10 : Int32) + ((3 : Int32) * x1)) + (2 : Int32)), .ref m0]) (S1 := zS c s) rfl ?_
  obtain ⟨g1, h⟩ := zi_cond_inv h
  refine zq_ild rfl (zhR hm0 _) (zR_lt hm0) g1 rfl ?_
  cases h
  exact zq_iret rfl
def fX12_crew_J33 (n : Nat) (s : zs) (m1 : Nat) (x2 : Int32) (x4 : Int32) (y0 : Int32) (y1 : Int32) : Option ((Int32 × Int32) ⊕ (Int32)) := some (Sum.inl ((y0 ||| y1), (x4 + (1 : Int32))))
theorem tX12_crew_J33 {n : Nat} {c : Nat × Nat} {s : zs} {m1 : Nat} {x2 : Int32} {x4 : Int32} {y0 : Int32} {y1 : Int32} {o : _} {v : Option Value} {S' : zi_S} (hm1 : zR m1) (h : fX12_crew_J33 n s m1 x2 x4 y0 y1 = some o) (hn : ∀ w, o = Sum.inl w → zr kX12_crew 1 1 5 [some (.ref 161), some (.ref m1), some (.int x2), some (.int w.1), some (.int w.2)] [] (zS c s) v S') (hx : ∀ w, o = Sum.inr w → (fun w => zr kX12_crew 1 1 41 [none, none, none, some (.int w), none] [] (zS c s) v S') w) : zr kX12_crew 1 1 33 [some (.ref 161), some (.ref m1), some (.int x2), none, some (.int x4)] [.int y1, .int y0] (zS c s) v S' := by
  unfold fX12_crew_J33 at h
  refine zr_many 4 (pc' := 5) (L' := [some (.ref 161), some (.ref m1), some (.int x2), some (.int (y0 ||| y1)), some (.int (x4 + (1 : Int32)))]) (st' := []) (S1 := zS c s) rfl ?_
  cases h
  exact zr_wk [some (.ref 161), some (.ref m1), some (.int x2), some (.int (y0 ||| y1)), some (.int (x4 + (1 : Int32)))] ⟨rfl, rfl, rfl, rfl, rfl, trivial⟩ (hn _ rfl)
def fX12_crew_B5 (n : Nat) (s : zs) (m1 : Nat) (x2 : Int32) (w : Int32 × Int32) : Option ((Int32 × Int32) ⊕ (Int32)) := if (s.1 161 4) ≤ w.2 then some (Sum.inr w.1) else zp (fX12_crewOf n s m1 w.2) (fun r2 => if ¬ r2 = x2 then fX12_crew_J33 n s m1 x2 w.2 w.1 (0 : Int32) else fX12_crew_J33 n s m1 x2 w.2 w.1 ((1 : Int32) <<< (w.2 &&& 31)))
theorem tX12_crew_B5 {n : Nat} {c : Nat × Nat} {s : zs} {m1 : Nat} {x2 : Int32} {w : Int32 × Int32} {o : _} {v : Option Value} {S' : zi_S} (hm1 : zR m1) (h : fX12_crew_B5 n s m1 x2 w = some o) (hn : ∀ w, o = Sum.inl w → zr kX12_crew 1 1 5 [some (.ref 161), some (.ref m1), some (.int x2), some (.int w.1), some (.int w.2)] [] (zS c s) v S') (hx : ∀ w, o = Sum.inr w → (fun w => zr kX12_crew 1 1 41 [none, none, none, some (.int w), none] [] (zS c s) v S') w) : zr kX12_crew 1 1 5 [some (.ref 161), some (.ref m1), some (.int x2), some (.int w.1), some (.int w.2)] [] (zS c s) v S' := by
  unfold fX12_crew_B5 at h
  refine zr_many 2 (pc' := 8) (L' := [some (.ref 161), some (.ref m1), some (.int x2), some (.int w.1), some (.int w.2)]) (st' := [.ref 161, .int w.2]) (S1 := zS c s) rfl ?_
  refine zq_get rfl (zh_161 _) rfl rfl rfl ?_
  refine zq_if2 (b := (s.1 161 4) ≤ w.2) rfl Iff.rfl rfl (fun g1 => ?_) (fun g1 => ?_)
  · rw [if_pos g1] at h
    cases h
    exact zr_wk [none, none, none, some (.int w.1), none] ⟨rfl, trivial⟩ (hx _ rfl)
  · rw [if_neg g1] at h
    refine zr_many 3 (pc' := 18) (L' := [some (.ref 161), some (.ref m1), some (.int x2), some (.int w.1), some (.int w.2)]) (st' := [.int w.2, .ref m1, .int w.1]) (S1 := zS c s) rfl ?_
    obtain ⟨r2, g4, h⟩ := zp_inv h
    refine zq_scall1 rfl (by decide) rfl rfl (tX12_crewOf hm1 g4) rfl ?_
    refine zr_many 1 (pc' := 22) (L' := [some (.ref 161), some (.ref m1), some (.int x2), some (.int w.1), some (.int w.2)]) (st' := [.int x2, .int r2, .int w.1]) (S1 := zS c s) rfl ?_
    refine zq_if2 (b := ¬ r2 = x2) rfl Iff.rfl rfl (fun g5 => ?_) (fun g5 => ?_)
    · rw [if_pos g5] at h
      refine zr_many 1 (pc' := 33) (L' := [some (.ref 161), some (.ref m1), some (.int x2), some (.int w.1), some (.int w.2)]) (st' := [.int (0 : Int32), .int w.1]) (S1 := zS c s) rfl ?_
      exact zr_wk [some (.ref 161), some (.ref m1), some (.int x2), none, some (.int w.2)] ⟨rfl, rfl, rfl, rfl, trivial⟩ (tX12_crew_J33 hm1 h hn hx)
    · rw [if_neg g5] at h
      refine zr_many 4 (pc' := 33) (L' := [some (.ref 161), some (.ref m1), some (.int x2), some (.int w.1), some (.int w.2)]) (st' := [.int ((1 : Int32) <<< (w.2 &&& 31)), .int w.1]) (S1 := zS c s) rfl ?_
      exact zr_wk [some (.ref 161), some (.ref m1), some (.int x2), none, some (.int w.2)] ⟨rfl, rfl, rfl, rfl, trivial⟩ (tX12_crew_J33 hm1 h hn hx)
def fX12_crew (n : Nat) (s : zs) (m1 : Nat) (x2 : Int32) : Option Int32 := zp (zl (fX12_crew_B5 n s m1 x2) n ((0 : Int32), (0 : Int32))) (fun w6 => some w6)
theorem tX12_crew {n : Nat} {c : Nat × Nat} {s : zs} {m1 : Nat} {x2 : Int32} {r : Int32} (hm1 : zR m1) (h : fX12_crew n s m1 x2 = some r) : zc 2 2415 [.ref 161, .ref m1, .int x2] (zS c s) (some (.int r)) (zS c s) := by
  refine zc_of (k := kX12_crew) (rt := 1) (L := [some (.ref 161), some (.ref m1), some (.int x2), none, none]) zm_2415.1 rfl rfl (by decide) rfl rfl ?_
  unfold fX12_crew at h
  refine zr_many 4 (pc' := 5) (L' := [some (.ref 161), some (.ref m1), some (.int x2), some (.int (0 : Int32)), some (.int (0 : Int32))]) (st' := []) (S1 := zS c s) rfl ?_
  obtain ⟨w6, g7, h⟩ := zp_inv h
  refine zr_wk [some (.ref 161), some (.ref m1), some (.int x2), some (.int (0 : Int32)), some (.int (0 : Int32))] ⟨rfl, rfl, rfl, rfl, rfl, trivial⟩ (zl_cert (Z := fun w => zr kX12_crew 1 1 5 [some (.ref 161), some (.ref m1), some (.int x2), some (.int w.1), some (.int w.2)] [] (zS c s) _ _) (Y := (fun w => zr kX12_crew 1 1 41 [none, none, none, some (.int w), none] [] (zS c s) _ _)) (fun w o h1 h2 h3 => tX12_crew_B5 hm1 h1 h2 h3) n _ _ g7 ?_)
  show zr kX12_crew 1 1 41 [none, none, none, some (.int w6), none] [] (zS c s) _ _
  refine zr_many 1 (pc' := 42) (L' := [none, none, none, some (.int w6), none]) (st' := [.int w6]) (S1 := zS c s) rfl ?_
  cases h
  exact zq_iret rfl
def fX12_whereIs_J37 (n : Nat) (s : zs) (y0 : Int32) : Option Int32 := some y0
theorem tX12_whereIs_J37 {n : Nat} {c : Nat × Nat} {s : zs} {y0 : Int32} {r : Int32} (h : fX12_whereIs_J37 n s y0 = some r) : zr kX12_whereIs 1 1 37 [none, none, none] [.int y0] (zS c s) (some (.int r)) (zS c s) := by
  unfold fX12_whereIs_J37 at h
  cases h
  exact zq_iret rfl
def fX12_whereIs (n : Nat) (s : zs) (x1 : Int32) : Option Int32 := zp (fX12_crewOf n s 169 x1) (fun r1 => if 0 ≤ r1 then zp (fX12_placeOf n s 169 r1) (fun r5 => fX12_whereIs_J37 n s r5) else cond (zi_in (((10 : Int32) + ((3 : Int32) * x1)) + (0 : Int32)) 42) (fX12_whereIs_J37 n s (s.1 169 (((10 : Int32) + ((3 : Int32) * x1)) + (0 : Int32)).toNatClampNeg)) none)
theorem tX12_whereIs {n : Nat} {c : Nat × Nat} {s : zs} {x1 : Int32} {r : Int32} (h : fX12_whereIs n s x1 = some r) : zc 2 2416 [.ref 161, .int x1] (zS c s) (some (.int r)) (zS c s) := by
  refine zc_of (k := kX12_whereIs) (rt := 1) (L := [some (.ref 161), some (.int x1), none]) zm_2416.1 rfl rfl (by decide) rfl rfl ?_
  unfold fX12_whereIs at h
  refine zr_many 1 (pc' := 1) (L' := [some (.ref 161), some (.int x1), none]) (st' := [.ref 161]) (S1 := zS c s) rfl ?_
  refine zq_get rfl (zh_161 _) rfl rfl rfl ?_
  refine zr_many 1 (pc' := 5) (L' := [some (.ref 161), some (.int x1), none]) (st' := [.int x1, .ref 169]) (S1 := zS c s) rfl ?_
  obtain ⟨r1, g3, h⟩ := zp_inv h
  refine zq_scall1 rfl (by decide) rfl rfl (tX12_crewOf zR_n g3) rfl ?_
  refine zr_many 2 (pc' := 10) (L' := [some (.ref 161), some (.int x1), some (.int r1)]) (st' := [.int r1]) (S1 := zS c s) rfl ?_
  refine zq_if1 (b := 0 ≤ r1) rfl Iff.rfl rfl (fun g4 => ?_) (fun g4 => ?_)
  · rw [if_pos g4] at h
    refine zr_many 1 (pc' := 30) (L' := [some (.ref 161), some (.int x1), some (.int r1)]) (st' := [.ref 161]) (S1 := zS c s) rfl ?_
    refine zq_get rfl (zh_161 _) rfl rfl rfl ?_
    refine zr_many 1 (pc' := 34) (L' := [some (.ref 161), some (.int x1), some (.int r1)]) (st' := [.int r1, .ref 169]) (S1 := zS c s) rfl ?_
    obtain ⟨r5, g7, h⟩ := zp_inv h
    refine zq_scall1 rfl (by decide) rfl rfl (tX12_placeOf zR_n g7) rfl ?_
    exact zr_wk [none, none, none] trivial (tX12_whereIs_J37 h)
  · rw [if_neg g4] at h
    refine zr_many 1 (pc' := 14) (L' := [some (.ref 161), some (.int x1), some (.int r1)]) (st' := [.ref 161]) (S1 := zS c s) rfl ?_
    refine zq_get rfl (zh_161 _) rfl rfl rfl ?_
    refine zr_many 7 (pc' := 25) (L' := [some (.ref 161), some (.int x1), some (.int r1)]) (st' := [.int (((10 : Int32) + ((3 : Int32) * x1)) + (0 : Int32)), .ref 169]) (S1 := zS c s) rfl ?_
    obtain ⟨g8, h⟩ := zi_cond_inv h
    refine zq_ild rfl (zh_169 _) rfl g8 rfl ?_
    refine zr_many 1 (pc' := 37) (L' := [some (.ref 161), some (.int x1), some (.int r1)]) (st' := [.int (s.1 169 (((10 : Int32) + ((3 : Int32) * x1)) + (0 : Int32)).toNatClampNeg)]) (S1 := zS c s) rfl ?_
    exact zr_wk [none, none, none] trivial (tX12_whereIs_J37 h)
def fX12_sign_B18 (n : Nat) (x1 : Int32) (w : Int32 × zs) : Option ((Int32 × zs) ⊕ (zs)) := if (4 : Int32) ≤ w.1 then some (Sum.inr w.2) else cond (zi_in ((w.2.1 161 17) + w.1) 80) (some (Sum.inl ((w.1 + (1 : Int32)), (zsi w.2 171 ((w.2.1 161 17) + w.1).toNatClampNeg ((x1 >>> (((24 : Int32) - ((8 : Int32) * w.1)) &&& 31)) &&& (255 : Int32)))))) none
theorem tX12_sign_B18 {n : Nat} {c : Nat × Nat} {x1 : Int32} {w : Int32 × zs} {o : _} {v : Option Value} {S' : zi_S} (h : fX12_sign_B18 n x1 w = some o) (hn : ∀ w, o = Sum.inl w → zr kX12_sign 1 0 18 [some (.ref 161), some (.int x1), some (.int w.1)] [] (zS c w.2) v S') (hx : ∀ w, o = Sum.inr w → (fun w => zr kX12_sign 1 0 53 [some (.ref 161), none, none] [] (zS c w) v S') w) : zr kX12_sign 1 0 18 [some (.ref 161), some (.int x1), some (.int w.1)] [] (zS c w.2) v S' := by
  unfold fX12_sign_B18 at h
  refine zr_many 2 (pc' := 20) (L' := [some (.ref 161), some (.int x1), some (.int w.1)]) (st' := [.int (4 : Int32), .int w.1]) (S1 := zS c w.2) rfl ?_
  refine zq_if2 (b := (4 : Int32) ≤ w.1) rfl Iff.rfl rfl (fun g2 => ?_) (fun g2 => ?_)
  · rw [if_pos g2] at h
    cases h
    exact zr_wk [some (.ref 161), none, none] ⟨rfl, trivial⟩ (hx _ rfl)
  · rw [if_neg g2] at h
    refine zr_many 1 (pc' := 24) (L' := [some (.ref 161), some (.int x1), some (.int w.1)]) (st' := [.ref 161]) (S1 := zS c w.2) rfl ?_
    refine zq_get rfl (zh_161 _) rfl rfl rfl ?_
    refine zr_many 1 (pc' := 28) (L' := [some (.ref 161), some (.int x1), some (.int w.1)]) (st' := [.ref 161, .ref 171]) (S1 := zS c w.2) rfl ?_
    refine zq_get rfl (zh_161 _) rfl rfl rfl ?_
    refine zr_many 11 (pc' := 46) (L' := [some (.ref 161), some (.int x1), some (.int w.1)]) (st' := [.int ((x1 >>> (((24 : Int32) - ((8 : Int32) * w.1)) &&& 31)) &&& (255 : Int32)), .int ((w.2.1 161 17) + w.1), .ref 171]) (S1 := zS c w.2) rfl ?_
    obtain ⟨g3, h⟩ := zi_cond_inv h
    refine zq_ist rfl zh_171 rfl g3 rfl ?_
    refine zr_many 2 (pc' := 18) (L' := [some (.ref 161), some (.int x1), some (.int (w.1 + (1 : Int32)))]) (st' := []) (S1 := zS c (zsi w.2 171 ((w.2.1 161 17) + w.1).toNatClampNeg ((x1 >>> (((24 : Int32) - ((8 : Int32) * w.1)) &&& 31)) &&& (255 : Int32)))) rfl ?_
    cases h
    exact zr_wk [some (.ref 161), some (.int x1), some (.int (w.1 + (1 : Int32)))] ⟨rfl, rfl, rfl, trivial⟩ (hn _ rfl)
def fX12_sign (n : Nat) (s : zs) (x1 : Int32) : Option (Int32 × zs) := if ((zsi s 161 0 (0 : Int32)).1 161 17) ≤ (76 : Int32) then zp (zl (fX12_sign_B18 n x1) n ((0 : Int32), (zsi s 161 0 (0 : Int32)))) (fun w4 => some (((zsi w4 161 17 ((w4.1 161 17) + (4 : Int32))).1 161 17), (zsi w4 161 17 ((w4.1 161 17) + (4 : Int32))))) else some ((-1 : Int32), (zsi s 161 0 (0 : Int32)))
theorem tX12_sign {n : Nat} {c : Nat × Nat} {s : zs} {x1 : Int32} {r : Int32} {s' : zs} (h : fX12_sign n s x1 = some (r, s')) : zc 1 2417 [.ref 161, .int x1] (zS c s) (some (.int r)) (zS c s') := by
  refine zc_of (k := kX12_sign) (rt := 1) (L := [some (.ref 161), some (.int x1), none]) zm_2417.1 rfl rfl (by decide) rfl rfl ?_
  unfold fX12_sign at h
  refine zr_many 2 (pc' := 2) (L' := [some (.ref 161), some (.int x1), none]) (st' := [.int (0 : Int32), .ref 161]) (S1 := zS c s) rfl ?_
  refine zq_put (s' := (zsi s 161 0 (0 : Int32))) rfl (zh_161 _) rfl rfl rfl rfl zsi_ne rfl ?_
  refine zr_many 1 (pc' := 6) (L' := [some (.ref 161), some (.int x1), none]) (st' := [.ref 161]) (S1 := zS c (zsi s 161 0 (0 : Int32))) rfl ?_
  refine zq_get rfl (zh_161 _) rfl rfl rfl ?_
  refine zr_many 1 (pc' := 11) (L' := [some (.ref 161), some (.int x1), none]) (st' := [.int (76 : Int32), .int ((zsi s 161 0 (0 : Int32)).1 161 17)]) (S1 := zS c (zsi s 161 0 (0 : Int32))) rfl ?_
  refine zq_if2 (b := ((zsi s 161 0 (0 : Int32)).1 161 17) ≤ (76 : Int32)) rfl Iff.rfl rfl (fun g1 => ?_) (fun g1 => ?_)
  · rw [if_pos g1] at h
    refine zr_many 2 (pc' := 18) (L' := [some (.ref 161), some (.int x1), some (.int (0 : Int32))]) (st' := []) (S1 := zS c (zsi s 161 0 (0 : Int32))) rfl ?_
    obtain ⟨w4, g5, h⟩ := zp_inv h
    refine zr_wk [some (.ref 161), some (.int x1), some (.int (0 : Int32))] ⟨rfl, rfl, rfl, trivial⟩ (zl_cert (Z := fun w => zr kX12_sign 1 0 18 [some (.ref 161), some (.int x1), some (.int w.1)] [] (zS c w.2) _ _) (Y := (fun w => zr kX12_sign 1 0 53 [some (.ref 161), none, none] [] (zS c w) _ _)) (fun w o h1 h2 h3 => tX12_sign_B18 h1 h2 h3) n _ _ g5 ?_)
    show zr kX12_sign 1 0 53 [some (.ref 161), none, none] [] (zS c w4) _ _
    refine zr_many 2 (pc' := 55) (L' := [some (.ref 161), none, none]) (st' := [.ref 161, .ref 161]) (S1 := zS c w4) rfl ?_
    refine zq_get rfl (zh_161 _) rfl rfl rfl ?_
    refine zr_many 2 (pc' := 60) (L' := [some (.ref 161), none, none]) (st' := [.int ((w4.1 161 17) + (4 : Int32)), .ref 161]) (S1 := zS c w4) rfl ?_
    refine zq_put (s' := (zsi w4 161 17 ((w4.1 161 17) + (4 : Int32)))) rfl (zh_161 _) rfl rfl rfl rfl zsi_ne rfl ?_
    refine zr_many 1 (pc' := 64) (L' := [some (.ref 161), none, none]) (st' := [.ref 161]) (S1 := zS c (zsi w4 161 17 ((w4.1 161 17) + (4 : Int32)))) rfl ?_
    refine zq_get rfl (zh_161 _) rfl rfl rfl ?_
    cases h
    exact zq_iret rfl
  · rw [if_neg g1] at h
    refine zr_many 1 (pc' := 15) (L' := [some (.ref 161), some (.int x1), none]) (st' := [.int (-1 : Int32)]) (S1 := zS c (zsi s 161 0 (0 : Int32))) rfl ?_
    cases h
    exact zq_iret rfl
def fX12_end (n : Nat) (s : zs) (x1 : Int32) : Option (Int32 × zs) := zp (fX12_in n (zsi s 161 0 (0 : Int32)) x1.toInt64 (0 : Int64) (((zsi s 161 0 (0 : Int32)).1 161 17).toInt64)) (fun r1 => if ¬ r1 = 0 then some ((1 : Int32), (zsi (zsi s 161 0 (0 : Int32)) 161 17 x1)) else some ((0 : Int32), (zsi s 161 0 (0 : Int32))))
theorem tX12_end {n : Nat} {c : Nat × Nat} {s : zs} {x1 : Int32} {r : Int32} {s' : zs} (h : fX12_end n s x1 = some (r, s')) : zc 2 2418 [.ref 161, .int x1] (zS c s) (some (.int r)) (zS c s') := by
  refine zc_of (k := kX12_end) (rt := 2) (L := [some (.ref 161), some (.int x1)]) zm_2418.1 rfl rfl (by decide) rfl rfl ?_
  unfold fX12_end at h
  refine zr_many 2 (pc' := 2) (L' := [some (.ref 161), some (.int x1)]) (st' := [.int (0 : Int32), .ref 161]) (S1 := zS c s) rfl ?_
  refine zq_put (s' := (zsi s 161 0 (0 : Int32))) rfl (zh_161 _) rfl rfl rfl rfl zsi_ne rfl ?_
  refine zr_many 4 (pc' := 9) (L' := [some (.ref 161), some (.int x1)]) (st' := [.ref 161, .long (0 : Int64), .long x1.toInt64]) (S1 := zS c (zsi s 161 0 (0 : Int32))) rfl ?_
  refine zq_get rfl (zh_161 _) rfl rfl rfl ?_
  refine zr_many 1 (pc' := 13) (L' := [some (.ref 161), some (.int x1)]) (st' := [.long ((zsi s 161 0 (0 : Int32)).1 161 17).toInt64, .long (0 : Int64), .long x1.toInt64]) (S1 := zS c (zsi s 161 0 (0 : Int32))) rfl ?_
  obtain ⟨r1, g3, h⟩ := zp_inv h
  refine zq_scall1 rfl (by decide) rfl rfl (tX12_in g3) rfl ?_
  refine zq_if1 (b := ¬ r1 = 0) rfl Iff.rfl rfl (fun g4 => ?_) (fun g4 => ?_)
  · rw [if_pos g4] at h
    refine zr_many 2 (pc' := 23) (L' := [some (.ref 161), some (.int x1)]) (st' := [.int x1, .ref 161]) (S1 := zS c (zsi s 161 0 (0 : Int32))) rfl ?_
    refine zq_put (s' := (zsi (zsi s 161 0 (0 : Int32)) 161 17 x1)) rfl (zh_161 _) rfl rfl rfl rfl zsi_ne rfl ?_
    refine zr_many 1 (pc' := 27) (L' := [some (.ref 161), some (.int x1)]) (st' := [.int (1 : Int32)]) (S1 := zS c (zsi (zsi s 161 0 (0 : Int32)) 161 17 x1)) rfl ?_
    cases h
    exact zq_zret rfl (by decide)
  · rw [if_neg g4] at h
    refine zr_many 1 (pc' := 20) (L' := [some (.ref 161), some (.int x1)]) (st' := [.int (0 : Int32)]) (S1 := zS c (zsi s 161 0 (0 : Int32))) rfl ?_
    cases h
    exact zq_zret rfl (by decide)
