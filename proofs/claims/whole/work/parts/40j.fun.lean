/-! ===== printed by wip/gen/dec.py: the methods as functions, each with its run ===== -/
def fX12_journey_J21 (n : Nat) (s : zs) : Option (Int32 × zs) := some ((-1 : Int32), s)
theorem tX12_journey_J21 {n : Nat} {c : Nat × Nat} {s : zs} {r : Int32} {s' : zs} (h : fX12_journey_J21 n s = some (r, s')) : zr kX12_journey 1 12 21 [none, none, none, none] [] (zS c s) (some (.int r)) (zS c s') := by
  unfold fX12_journey_J21 at h
  refine zr_many 1 (pc' := 22) (L' := [none, none, none, none]) (st' := [.int (-1 : Int32)]) (S1 := zS c s) rfl ?_
  obtain ⟨rfl, rfl⟩ := Prod.mk.inj (Option.some.inj h)
  exact zq_iret rfl
def fX12_journey_J78 (n : Nat) (s : zs) (y1 : Int32) (y2 : Int32) : Option (Int32 × zs) := zp (fX12_flag n s y2) (fun r40 => zp (fX12_enters n s ((y1 - r40).toInt64)) (fun s44 => zp (fX12_enters n s44 ((-(s44.1 161 39)).toInt64)) (fun s47 => some ((-2 : Int32), s47))))
theorem tX12_journey_J78 {n : Nat} {c : Nat × Nat} {s : zs} {y1 : Int32} {y2 : Int32} {r : Int32} {s' : zs} (h : fX12_journey_J78 n s y1 y2 = some (r, s')) : zr kX12_journey 1 12 78 [some (.ref 161), none, none, none] [.int y2, .int y1, .ref 161] (zS c s) (some (.int r)) (zS c s') := by
  unfold fX12_journey_J78 at h
  obtain ⟨r40, g42, h⟩ := zp_inv h
  refine zq_scall1 rfl (by decide) rfl rfl ((tX12_flag g42).up (by decide)) rfl ?_
  refine zr_many 2 (pc' := 83) (L' := [some (.ref 161), none, none, none]) (st' := [.long (y1 - r40).toInt64, .ref 161]) (S1 := zS c s) rfl ?_
  obtain ⟨s44, g45, h⟩ := zp_inv h
  refine zq_call0 rfl rfl (zh_161 _) rfl rfl rfl ((tX12_enters g45).up (by decide)) rfl ?_
  refine zr_many 2 (pc' := 88) (L' := [some (.ref 161), none, none, none]) (st' := [.ref 161, .ref 161]) (S1 := zS c s44) rfl ?_
  refine zq_get rfl (zh_161 _) rfl rfl rfl ?_
  refine zr_many 2 (pc' := 93) (L' := [some (.ref 161), none, none, none]) (st' := [.long (-(s44.1 161 39)).toInt64, .ref 161]) (S1 := zS c s44) rfl ?_
  obtain ⟨s47, g48, h⟩ := zp_inv h
  refine zq_call0 rfl rfl (zh_161 _) rfl rfl rfl ((tX12_enters g48).up (by decide)) rfl ?_
  refine zr_many 1 (pc' := 98) (L' := [some (.ref 161), none, none, none]) (st' := [.int (-2 : Int32)]) (S1 := zS c s47) rfl ?_
  obtain ⟨rfl, rfl⟩ := Prod.mk.inj (Option.some.inj h)
  exact zq_iret rfl
def fX12_journey (n : Nat) (s : zs) (x1 : Int32) (x2 : Int32) : Option (Int32 × zs) := zp (fX12_isBarge n (zsi s 161 0 (0 : Int32)) x1) (fun r1 => if r1 = 0 then fX12_journey_J21 n (zsi s 161 0 (0 : Int32)) else zp (fX12_isPlace n (zsi s 161 0 (0 : Int32)) x2) (fun r5 => if ¬ r5 = 0 then zp (fX12_puts n (zsi s 161 0 (0 : Int32))) (fun s10 => zb (fX12_goesTo n s10 x1 x2) (fun r12 s13 => zp (fX12_enters n (zsi s13 161 1 (0 : Int32)) (((zsi s13 161 1 (0 : Int32)).1 161 38).toInt64)) (fun s16 => if 0 ≤ r12 then zp (fX12_enters n s16 (((s16.1 169 8) - (s16.1 170 8)).toInt64)) (fun s22 => zp (fX12_crew n s22 170 x1) (fun r24 => zp (fX12_tiredAll n s22 170 r24) (fun r27 => zp (fX12_enters n s22 r27.toInt64) (fun s31 => some (r12, s31))))) else zp (fX12_placeOf n s16 170 x1) (fun r33 => zp (fX12_placeOf n s16 170 x1) (fun r36 => if r36 ≤ x2 then fX12_journey_J78 n s16 r33 (0 : Int32) else fX12_journey_J78 n s16 r33 (1 : Int32)))))) else fX12_journey_J21 n (zsi s 161 0 (0 : Int32))))
theorem tX12_journey {n : Nat} {c : Nat × Nat} {s : zs} {x1 : Int32} {x2 : Int32} {r : Int32} {s' : zs} (h : fX12_journey n s x1 x2 = some (r, s')) : zc 13 2483 [.ref 161, .int x1, .int x2] (zS c s) (some (.int r)) (zS c s') := by
  refine zc_of (k := kX12_journey) (rt := 1) (L := [some (.ref 161), some (.int x1), some (.int x2), none]) zm_2483.1 rfl rfl (by decide) rfl rfl ?_
  unfold fX12_journey at h
  refine zr_many 2 (pc' := 2) (L' := [some (.ref 161), some (.int x1), some (.int x2), none]) (st' := [.int (0 : Int32), .ref 161]) (S1 := zS c s) rfl ?_
  refine zq_put (s' := (zsi s 161 0 (0 : Int32))) rfl (zh_161 _) rfl rfl rfl rfl zsi_ne rfl ?_
  refine zr_many 2 (pc' := 7) (L' := [some (.ref 161), some (.int x1), some (.int x2), none]) (st' := [.int x1, .ref 161]) (S1 := zS c (zsi s 161 0 (0 : Int32))) rfl ?_
  obtain ⟨r1, g3, h⟩ := zp_inv h
  refine zq_call1 rfl rfl (zh_161 _) rfl rfl rfl ((tX12_isBarge g3).up (by decide)) rfl ?_
  refine zq_if1 (b := r1 = 0) rfl Iff.rfl rfl (fun g4 => ?_) (fun g4 => ?_)
  · rw [if_pos g4] at h
    exact zr_wk [none, none, none, none] trivial (tX12_journey_J21 h)
  · rw [if_neg g4] at h
    refine zr_many 2 (pc' := 15) (L' := [some (.ref 161), some (.int x1), some (.int x2), none]) (st' := [.int x2, .ref 161]) (S1 := zS c (zsi s 161 0 (0 : Int32))) rfl ?_
    obtain ⟨r5, g7, h⟩ := zp_inv h
    refine zq_call1 rfl rfl (zh_161 _) rfl rfl rfl ((tX12_isPlace g7).up (by decide)) rfl ?_
    refine zq_if1 (b := ¬ r5 = 0) rfl Iff.rfl rfl (fun g8 => ?_) (fun g8 => ?_)
    · rw [if_pos g8] at h
      refine zr_many 1 (pc' := 24) (L' := [some (.ref 161), some (.int x1), some (.int x2), none]) (st' := [.ref 161]) (S1 := zS c (zsi s 161 0 (0 : Int32))) rfl ?_
      obtain ⟨s10, g11, h⟩ := zp_inv h
      refine zq_call0 rfl rfl (zh_161 _) rfl rfl rfl ((tX12_puts g11).up (by decide)) rfl ?_
      refine zr_many 3 (pc' := 30) (L' := [some (.ref 161), some (.int x1), some (.int x2), none]) (st' := [.int x2, .int x1, .ref 161]) (S1 := zS c s10) rfl ?_
      obtain ⟨r12, s13, g14, h⟩ := zb_inv h
      refine zq_call1 rfl rfl (zh_161 _) rfl rfl rfl (tX12_goesTo g14) rfl ?_
      refine zr_many 3 (pc' := 36) (L' := [some (.ref 161), some (.int x1), some (.int x2), some (.int r12)]) (st' := [.int (0 : Int32), .ref 161]) (S1 := zS c s13) rfl ?_
      refine zq_put (s' := (zsi s13 161 1 (0 : Int32))) rfl (zh_161 _) rfl rfl rfl rfl zsi_ne rfl ?_
      refine zr_many 2 (pc' := 41) (L' := [some (.ref 161), some (.int x1), some (.int x2), some (.int r12)]) (st' := [.ref 161, .ref 161]) (S1 := zS c (zsi s13 161 1 (0 : Int32))) rfl ?_
      refine zq_get rfl (zh_161 _) rfl rfl rfl ?_
      refine zr_many 1 (pc' := 45) (L' := [some (.ref 161), some (.int x1), some (.int x2), some (.int r12)]) (st' := [.long ((zsi s13 161 1 (0 : Int32)).1 161 38).toInt64, .ref 161]) (S1 := zS c (zsi s13 161 1 (0 : Int32))) rfl ?_
      obtain ⟨s16, g17, h⟩ := zp_inv h
      refine zq_call0 rfl rfl (zh_161 _) rfl rfl rfl ((tX12_enters g17).up (by decide)) rfl ?_
      refine zr_many 1 (pc' := 49) (L' := [some (.ref 161), some (.int x1), some (.int x2), some (.int r12)]) (st' := [.int r12]) (S1 := zS c s16) rfl ?_
      refine zq_if1 (b := 0 ≤ r12) rfl Iff.rfl rfl (fun g18 => ?_) (fun g18 => ?_)
      · rw [if_pos g18] at h
        refine zr_many 2 (pc' := 101) (L' := [some (.ref 161), some (.int x1), some (.int x2), some (.int r12)]) (st' := [.ref 161, .ref 161]) (S1 := zS c s16) rfl ?_
        refine zq_get rfl (zh_161 _) rfl rfl rfl ?_
        refine zr_many 1 (pc' := 106) (L' := [some (.ref 161), some (.int x1), some (.int x2), some (.int r12)]) (st' := [.int (8 : Int32), .ref 169, .ref 161]) (S1 := zS c s16) rfl ?_
        refine zq_ild rfl (zh_169 _) rfl (by decide) rfl ?_
        refine zr_many 1 (pc' := 108) (L' := [some (.ref 161), some (.int x1), some (.int x2), some (.int r12)]) (st' := [.ref 161, .int (s16.1 169 8), .ref 161]) (S1 := zS c s16) rfl ?_
        refine zq_get rfl (zh_161 _) rfl rfl rfl ?_
        refine zr_many 1 (pc' := 113) (L' := [some (.ref 161), some (.int x1), some (.int x2), some (.int r12)]) (st' := [.int (8 : Int32), .ref 170, .int (s16.1 169 8), .ref 161]) (S1 := zS c s16) rfl ?_
        refine zq_ild rfl (zh_170 _) rfl (by decide) rfl ?_
        refine zr_many 2 (pc' := 116) (L' := [some (.ref 161), some (.int x1), some (.int x2), some (.int r12)]) (st' := [.long ((s16.1 169 8) - (s16.1 170 8)).toInt64, .ref 161]) (S1 := zS c s16) rfl ?_
        obtain ⟨s22, g23, h⟩ := zp_inv h
        refine zq_call0 rfl rfl (zh_161 _) rfl rfl rfl ((tX12_enters g23).up (by decide)) rfl ?_
        refine zr_many 3 (pc' := 122) (L' := [some (.ref 161), some (.int x1), some (.int x2), some (.int r12)]) (st' := [.ref 161, .ref 161, .ref 161]) (S1 := zS c s22) rfl ?_
        refine zq_get rfl (zh_161 _) rfl rfl rfl ?_
        refine zr_many 2 (pc' := 127) (L' := [some (.ref 161), some (.int x1), some (.int x2), some (.int r12)]) (st' := [.ref 161, .ref 161, .ref 170, .ref 161, .ref 161]) (S1 := zS c s22) rfl ?_
        refine zq_get rfl (zh_161 _) rfl rfl rfl ?_
        refine zr_many 1 (pc' := 131) (L' := [some (.ref 161), some (.int x1), some (.int x2), some (.int r12)]) (st' := [.int x1, .ref 170, .ref 161, .ref 170, .ref 161, .ref 161]) (S1 := zS c s22) rfl ?_
        obtain ⟨r24, g26, h⟩ := zp_inv h
        refine zq_call1 rfl rfl (zh_161 _) rfl rfl rfl ((tX12_crew zR_t g26).up (by decide)) rfl ?_
        obtain ⟨r27, g29, h⟩ := zp_inv h
        refine zq_call1 rfl rfl (zh_161 _) rfl rfl rfl ((tX12_tiredAll zR_t g29).up (by decide)) rfl ?_
        refine zr_many 1 (pc' := 138) (L' := [some (.ref 161), some (.int x1), some (.int x2), some (.int r12)]) (st' := [.long r27.toInt64, .ref 161]) (S1 := zS c s22) rfl ?_
        obtain ⟨s31, g32, h⟩ := zp_inv h
        refine zq_call0 rfl rfl (zh_161 _) rfl rfl rfl ((tX12_enters g32).up (by decide)) rfl ?_
        refine zr_many 1 (pc' := 142) (L' := [some (.ref 161), some (.int x1), some (.int x2), some (.int r12)]) (st' := [.int r12]) (S1 := zS c s31) rfl ?_
        obtain ⟨rfl, rfl⟩ := Prod.mk.inj (Option.some.inj h)
        exact zq_iret rfl
      · rw [if_neg g18] at h
        refine zr_many 2 (pc' := 54) (L' := [some (.ref 161), some (.int x1), some (.int x2), some (.int r12)]) (st' := [.ref 161, .ref 161]) (S1 := zS c s16) rfl ?_
        refine zq_get rfl (zh_161 _) rfl rfl rfl ?_
        refine zr_many 1 (pc' := 58) (L' := [some (.ref 161), some (.int x1), some (.int x2), some (.int r12)]) (st' := [.int x1, .ref 170, .ref 161]) (S1 := zS c s16) rfl ?_
        obtain ⟨r33, g35, h⟩ := zp_inv h
        refine zq_scall1 rfl (by decide) rfl rfl ((tX12_placeOf zR_t g35).up (by decide)) rfl ?_
        refine zr_many 2 (pc' := 63) (L' := [some (.ref 161), some (.int x1), some (.int x2), some (.int r12)]) (st' := [.ref 161, .int x2, .int r33, .ref 161]) (S1 := zS c s16) rfl ?_
        refine zq_get rfl (zh_161 _) rfl rfl rfl ?_
        refine zr_many 1 (pc' := 67) (L' := [some (.ref 161), some (.int x1), some (.int x2), some (.int r12)]) (st' := [.int x1, .ref 170, .int x2, .int r33, .ref 161]) (S1 := zS c s16) rfl ?_
        obtain ⟨r36, g38, h⟩ := zp_inv h
        refine zq_scall1 rfl (by decide) rfl rfl ((tX12_placeOf zR_t g38).up (by decide)) rfl ?_
        refine zq_if2 (b := r36 ≤ x2) rfl Iff.rfl rfl (fun g39 => ?_) (fun g39 => ?_)
        · rw [if_pos g39] at h
          refine zr_many 1 (pc' := 78) (L' := [some (.ref 161), some (.int x1), some (.int x2), some (.int r12)]) (st' := [.int (0 : Int32), .int r33, .ref 161]) (S1 := zS c s16) rfl ?_
          exact zr_wk [some (.ref 161), none, none, none] ⟨rfl, trivial⟩ (tX12_journey_J78 h)
        · rw [if_neg g39] at h
          refine zr_many 2 (pc' := 78) (L' := [some (.ref 161), some (.int x1), some (.int x2), some (.int r12)]) (st' := [.int (1 : Int32), .int r33, .ref 161]) (S1 := zS c s16) rfl ?_
          exact zr_wk [some (.ref 161), none, none, none] ⟨rfl, trivial⟩ (tX12_journey_J78 h)
    · rw [if_neg g8] at h
      exact zr_wk [none, none, none, none] trivial (tX12_journey_J21 h)
def fX12_singsAll_J86 (n : Nat) (s : zs) (x2 : Int32) (x3 : Int32) (x5 : Int32) (x6 : Int32) (x8 : Int32) (y2 : Int32) (y3 : Int32) : Option ((Int32 × Int32 × Int32 × zs) ⊕ (Int32 × zs)) := zb (fX12_singsChord n s 169 y2 y3) (fun r14 s15 => some (Sum.inl (x6, r14, (x8 + x5), s15)))
theorem tX12_singsAll_J86 {n : Nat} {c : Nat × Nat} {s : zs} {x2 : Int32} {x3 : Int32} {x5 : Int32} {x6 : Int32} {x8 : Int32} {y2 : Int32} {y3 : Int32} {o : _} {v : Option Value} {S' : zi_S} (h : fX12_singsAll_J86 n s x2 x3 x5 x6 x8 y2 y3 = some o) (hn : ∀ w41, o = Sum.inl w41 → zr kX12_singsAll 2 9 41 [some (.ref 161), none, some (.int x2), some (.int x3), none, some (.int x5), some (.int w41.1), some (.int w41.2.1), some (.int w41.2.2.1)] [] (zS c w41.2.2.2) v S') (hx : ∀ z, o = Sum.inr z → (fun z => zr kX12_singsAll 2 9 101 [none, none, none, none, none, none, none, some (.int z.1), none] [] (zS c z.2) v S') z) : zr kX12_singsAll 2 9 86 [some (.ref 161), none, some (.int x2), some (.int x3), none, some (.int x5), some (.int x6), none, some (.int x8)] [.int y3, .int y2, .ref 169, .ref 161] (zS c s) v S' := by
  unfold fX12_singsAll_J86 at h
  obtain ⟨r14, s15, g16, h⟩ := zb_inv h
  refine zq_call1 rfl rfl (zh_161 _) rfl rfl rfl (tX12_singsChord zR_n g16) rfl ?_
  refine zr_many 6 (pc' := 41) (L' := [some (.ref 161), none, some (.int x2), some (.int x3), none, some (.int x5), some (.int x6), some (.int r14), some (.int (x8 + x5))]) (st' := []) (S1 := zS c s15) rfl ?_
  obtain rfl := Option.some.inj h
  exact zr_wk [some (.ref 161), none, some (.int x2), some (.int x3), none, some (.int x5), some (.int x6), some (.int r14), some (.int (x8 + x5))] ⟨rfl, rfl, rfl, rfl, rfl, rfl, rfl, trivial⟩ (hn (x6, r14, (x8 + x5), s15) rfl)
def fX12_singsAll_B41 (n : Nat) (x2 : Int32) (x3 : Int32) (x5 : Int32) (w41 : Int32 × Int32 × Int32 × zs) : Option ((Int32 × Int32 × Int32 × zs) ⊕ (Int32 × zs)) := if w41.2.2.1 = x2 then some (Sum.inr (w41.2.1, w41.2.2.2)) else if w41.2.1 = 0 then some (Sum.inr (w41.2.1, w41.2.2.2)) else zp (fX12_freeAt n w41.2.2.2 w41.2.2.1) (fun r10 => if x5 ≤ 0 then fX12_singsAll_J86 n w41.2.2.2 x2 x3 x5 (w41.1 ||| (x3 &&& r10)) w41.2.2.1 (w41.1 ||| (x3 &&& r10)) (w41.2.2.1 - (1 : Int32)) else fX12_singsAll_J86 n w41.2.2.2 x2 x3 x5 (w41.1 ||| (x3 &&& r10)) w41.2.2.1 (w41.1 ||| (x3 &&& r10)) w41.2.2.1)
theorem tX12_singsAll_B41 {n : Nat} {c : Nat × Nat} {x2 : Int32} {x3 : Int32} {x5 : Int32} {w41 : Int32 × Int32 × Int32 × zs} {o : _} {v : Option Value} {S' : zi_S} (h : fX12_singsAll_B41 n x2 x3 x5 w41 = some o) (hn : ∀ w41, o = Sum.inl w41 → zr kX12_singsAll 2 9 41 [some (.ref 161), none, some (.int x2), some (.int x3), none, some (.int x5), some (.int w41.1), some (.int w41.2.1), some (.int w41.2.2.1)] [] (zS c w41.2.2.2) v S') (hx : ∀ z, o = Sum.inr z → (fun z => zr kX12_singsAll 2 9 101 [none, none, none, none, none, none, none, some (.int z.1), none] [] (zS c z.2) v S') z) : zr kX12_singsAll 2 9 41 [some (.ref 161), none, some (.int x2), some (.int x3), none, some (.int x5), some (.int w41.1), some (.int w41.2.1), some (.int w41.2.2.1)] [] (zS c w41.2.2.2) v S' := by
  unfold fX12_singsAll_B41 at h
  refine zr_many 2 (pc' := 44) (L' := [some (.ref 161), none, some (.int x2), some (.int x3), none, some (.int x5), some (.int w41.1), some (.int w41.2.1), some (.int w41.2.2.1)]) (st' := [.int x2, .int w41.2.2.1]) (S1 := zS c w41.2.2.2) rfl ?_
  refine zq_if2 (b := w41.2.2.1 = x2) rfl Iff.rfl rfl (fun g8 => ?_) (fun g8 => ?_)
  · rw [if_pos g8] at h
    obtain rfl := Option.some.inj h
    exact zr_wk [none, none, none, none, none, none, none, some (.int w41.2.1), none] ⟨rfl, trivial⟩ (hx (w41.2.1, w41.2.2.2) rfl)
  · rw [if_neg g8] at h
    refine zr_many 1 (pc' := 49) (L' := [some (.ref 161), none, some (.int x2), some (.int x3), none, some (.int x5), some (.int w41.1), some (.int w41.2.1), some (.int w41.2.2.1)]) (st' := [.int w41.2.1]) (S1 := zS c w41.2.2.2) rfl ?_
    refine zq_if1 (b := w41.2.1 = 0) rfl Iff.rfl rfl (fun g9 => ?_) (fun g9 => ?_)
    · rw [if_pos g9] at h
      obtain rfl := Option.some.inj h
      exact zr_wk [none, none, none, none, none, none, none, some (.int w41.2.1), none] ⟨rfl, trivial⟩ (hx (w41.2.1, w41.2.2.2) rfl)
    · rw [if_neg g9] at h
      refine zr_many 4 (pc' := 58) (L' := [some (.ref 161), none, some (.int x2), some (.int x3), none, some (.int x5), some (.int w41.1), some (.int w41.2.1), some (.int w41.2.2.1)]) (st' := [.int w41.2.2.1, .ref 161, .int x3, .int w41.1]) (S1 := zS c w41.2.2.2) rfl ?_
      obtain ⟨r10, g12, h⟩ := zp_inv h
      refine zq_call1 rfl rfl (zh_161 _) rfl rfl rfl ((tX12_freeAt g12).up (by decide)) rfl ?_
      refine zr_many 5 (pc' := 67) (L' := [some (.ref 161), none, some (.int x2), some (.int x3), none, some (.int x5), some (.int (w41.1 ||| (x3 &&& r10))), some (.int w41.2.1), some (.int w41.2.2.1)]) (st' := [.ref 161, .ref 161]) (S1 := zS c w41.2.2.2) rfl ?_
      refine zq_get rfl (zh_161 _) rfl rfl rfl ?_
      refine zr_many 2 (pc' := 74) (L' := [some (.ref 161), none, some (.int x2), some (.int x3), none, some (.int x5), some (.int (w41.1 ||| (x3 &&& r10))), some (.int w41.2.1), some (.int w41.2.2.1)]) (st' := [.int x5, .int (w41.1 ||| (x3 &&& r10)), .ref 169, .ref 161]) (S1 := zS c w41.2.2.2) rfl ?_
      refine zq_if1 (b := x5 ≤ 0) rfl Iff.rfl rfl (fun g13 => ?_) (fun g13 => ?_)
      · rw [if_pos g13] at h
        refine zr_many 3 (pc' := 86) (L' := [some (.ref 161), none, some (.int x2), some (.int x3), none, some (.int x5), some (.int (w41.1 ||| (x3 &&& r10))), some (.int w41.2.1), some (.int w41.2.2.1)]) (st' := [.int (w41.2.2.1 - (1 : Int32)), .int (w41.1 ||| (x3 &&& r10)), .ref 169, .ref 161]) (S1 := zS c w41.2.2.2) rfl ?_
        exact zr_wk [some (.ref 161), none, some (.int x2), some (.int x3), none, some (.int x5), some (.int (w41.1 ||| (x3 &&& r10))), none, some (.int w41.2.2.1)] ⟨rfl, rfl, rfl, rfl, rfl, rfl, trivial⟩ (tX12_singsAll_J86 h hn hx)
      · rw [if_neg g13] at h
        refine zr_many 2 (pc' := 86) (L' := [some (.ref 161), none, some (.int x2), some (.int x3), none, some (.int x5), some (.int (w41.1 ||| (x3 &&& r10))), some (.int w41.2.1), some (.int w41.2.2.1)]) (st' := [.int w41.2.2.1, .int (w41.1 ||| (x3 &&& r10)), .ref 169, .ref 161]) (S1 := zS c w41.2.2.2) rfl ?_
        exact zr_wk [some (.ref 161), none, some (.int x2), some (.int x3), none, some (.int x5), some (.int (w41.1 ||| (x3 &&& r10))), none, some (.int w41.2.2.1)] ⟨rfl, rfl, rfl, rfl, rfl, rfl, trivial⟩ (tX12_singsAll_J86 h hn hx)
def fX12_singsAll_J101 (n : Nat) (s : zs) (x7 : Int32) : Option (Int32 × zs) := if x7 = 0 ∨ x7 = 1 then some (x7, s) else none
theorem tX12_singsAll_J101 {n : Nat} {c : Nat × Nat} {s : zs} {x7 : Int32} {r : Int32} {s' : zs} (h : fX12_singsAll_J101 n s x7 = some (r, s')) : zr kX12_singsAll 2 9 101 [none, none, none, none, none, none, none, some (.int x7), none] [] (zS c s) (some (.int r)) (zS c s') := by
  unfold fX12_singsAll_J101 at h
  refine zr_many 1 (pc' := 103) (L' := [none, none, none, none, none, none, none, some (.int x7), none]) (st' := [.int x7]) (S1 := zS c s) rfl ?_
  obtain ⟨gz, h⟩ := zt_inv h
  obtain ⟨rfl, rfl⟩ := Prod.mk.inj (Option.some.inj h)
  exact zq_zret rfl gz
def fX12_singsAll_J21 (n : Nat) (s : zs) (x1 : Int32) (x2 : Int32) (x3 : Int32) (x4 : Int32) (y0 : Int32) : Option (Int32 × zs) := zp (fX12_crew n s 169 x1) (fun r5 => zp (zl (fX12_singsAll_B41 n x2 x3 y0) n (r5, (1 : Int32), x4, s)) (fun w17 => fX12_singsAll_J101 n w17.2 w17.1))
theorem tX12_singsAll_J21 {n : Nat} {c : Nat × Nat} {s : zs} {x1 : Int32} {x2 : Int32} {x3 : Int32} {x4 : Int32} {y0 : Int32} {r : Int32} {s' : zs} (h : fX12_singsAll_J21 n s x1 x2 x3 x4 y0 = some (r, s')) : zr kX12_singsAll 2 9 21 [some (.ref 161), some (.int x1), some (.int x2), some (.int x3), some (.int x4), none, none, none, none] [.int y0] (zS c s) (some (.int r)) (zS c s') := by
  unfold fX12_singsAll_J21 at h
  refine zr_many 3 (pc' := 25) (L' := [some (.ref 161), some (.int x1), some (.int x2), some (.int x3), some (.int x4), some (.int y0), none, none, none]) (st' := [.ref 161, .ref 161]) (S1 := zS c s) rfl ?_
  refine zq_get rfl (zh_161 _) rfl rfl rfl ?_
  refine zr_many 1 (pc' := 29) (L' := [some (.ref 161), some (.int x1), some (.int x2), some (.int x3), some (.int x4), some (.int y0), none, none, none]) (st' := [.int x1, .ref 169, .ref 161]) (S1 := zS c s) rfl ?_
  obtain ⟨r5, g7, h⟩ := zp_inv h
  refine zq_call1 rfl rfl (zh_161 _) rfl rfl rfl ((tX12_crew zR_n g7).up (by decide)) rfl ?_
  refine zr_many 5 (pc' := 41) (L' := [some (.ref 161), some (.int x1), some (.int x2), some (.int x3), some (.int x4), some (.int y0), some (.int r5), some (.int (1 : Int32)), some (.int x4)]) (st' := []) (S1 := zS c s) rfl ?_
  obtain ⟨w17, g18, h⟩ := zp_inv h
  refine zr_wk [some (.ref 161), none, some (.int x2), some (.int x3), none, some (.int y0), some (.int r5), some (.int (1 : Int32)), some (.int x4)] ⟨rfl, rfl, rfl, rfl, rfl, rfl, rfl, trivial⟩ (zl_cert (Z := fun w41 => zr kX12_singsAll 2 9 41 [some (.ref 161), none, some (.int x2), some (.int x3), none, some (.int y0), some (.int w41.1), some (.int w41.2.1), some (.int w41.2.2.1)] [] (zS c w41.2.2.2) _ _) (Y := (fun z => zr kX12_singsAll 2 9 101 [none, none, none, none, none, none, none, some (.int z.1), none] [] (zS c z.2) _ _)) (fun w o h1 h2 h3 => tX12_singsAll_B41 h1 h2 h3) n _ _ g18 ?_)
  show zr kX12_singsAll 2 9 101 [none, none, none, none, none, none, none, some (.int w17.1), none] [] (zS c w17.2) _ _
  exact zr_wk [none, none, none, none, none, none, none, some (.int w17.1), none] ⟨rfl, trivial⟩ (tX12_singsAll_J101 h)
def fX12_singsAll (n : Nat) (s : zs) (x1 : Int32) (x2 : Int32) (x3 : Int32) : Option (Int32 × zs) := zp (fX12_placeOf n s 169 x1) (fun r1 => if x2 ≤ r1 then fX12_singsAll_J21 n s x1 x2 x3 r1 (-1 : Int32) else fX12_singsAll_J21 n s x1 x2 x3 r1 (1 : Int32))
theorem tX12_singsAll {n : Nat} {c : Nat × Nat} {s : zs} {x1 : Int32} {x2 : Int32} {x3 : Int32} {r : Int32} {s' : zs} (h : fX12_singsAll n s x1 x2 x3 = some (r, s')) : zc 10 2484 [.ref 161, .int x1, .int x2, .int x3] (zS c s) (some (.int r)) (zS c s') := by
  refine zc_of (k := kX12_singsAll) (rt := 2) (L := [some (.ref 161), some (.int x1), some (.int x2), some (.int x3), none, none, none, none, none]) zm_2484.1 rfl rfl (by decide) rfl rfl ?_
  unfold fX12_singsAll at h
  refine zr_many 1 (pc' := 1) (L' := [some (.ref 161), some (.int x1), some (.int x2), some (.int x3), none, none, none, none, none]) (st' := [.ref 161]) (S1 := zS c s) rfl ?_
  refine zq_get rfl (zh_161 _) rfl rfl rfl ?_
  refine zr_many 1 (pc' := 5) (L' := [some (.ref 161), some (.int x1), some (.int x2), some (.int x3), none, none, none, none, none]) (st' := [.int x1, .ref 169]) (S1 := zS c s) rfl ?_
  obtain ⟨r1, g3, h⟩ := zp_inv h
  refine zq_scall1 rfl (by decide) rfl rfl ((tX12_placeOf zR_n g3).up (by decide)) rfl ?_
  refine zr_many 3 (pc' := 13) (L' := [some (.ref 161), some (.int x1), some (.int x2), some (.int x3), some (.int r1), none, none, none, none]) (st' := [.int r1, .int x2]) (S1 := zS c s) rfl ?_
  refine zq_if2 (b := x2 ≤ r1) rfl Iff.rfl rfl (fun g4 => ?_) (fun g4 => ?_)
  · rw [if_pos g4] at h
    refine zr_many 1 (pc' := 21) (L' := [some (.ref 161), some (.int x1), some (.int x2), some (.int x3), some (.int r1), none, none, none, none]) (st' := [.int (-1 : Int32)]) (S1 := zS c s) rfl ?_
    exact zr_wk [some (.ref 161), some (.int x1), some (.int x2), some (.int x3), some (.int r1), none, none, none, none] ⟨rfl, rfl, rfl, rfl, rfl, trivial⟩ (tX12_singsAll_J21 h)
  · rw [if_neg g4] at h
    refine zr_many 2 (pc' := 21) (L' := [some (.ref 161), some (.int x1), some (.int x2), some (.int x3), some (.int r1), none, none, none, none]) (st' := [.int (1 : Int32)]) (S1 := zS c s) rfl ?_
    exact zr_wk [some (.ref 161), some (.int x1), some (.int x2), some (.int x3), some (.int r1), none, none, none, none] ⟨rfl, rfl, rfl, rfl, rfl, trivial⟩ (tX12_singsAll_J21 h)
def fX12_hires_J21 (n : Nat) (s : zs) : Option (Int32 × zs) := some ((-1 : Int32), s)
theorem tX12_hires_J21 {n : Nat} {c : Nat × Nat} {s : zs} {r : Int32} {s' : zs} (h : fX12_hires_J21 n s = some (r, s')) : zr kX12_hires 1 10 21 [none, none, none, none, none, none, none] [] (zS c s) (some (.int r)) (zS c s') := by
  unfold fX12_hires_J21 at h
  refine zr_many 1 (pc' := 22) (L' := [none, none, none, none, none, none, none]) (st' := [.int (-1 : Int32)]) (S1 := zS c s) rfl ?_
  obtain ⟨rfl, rfl⟩ := Prod.mk.inj (Option.some.inj h)
  exact zq_iret rfl
def fX12_hires_J70 (n : Nat) (s : zs) (x1 : Int32) (x2 : Int32) (x3 : Int32) (x5 : Int32) (y0 : Int32) (y1 : Int32) : Option ((Int32 × Int32) ⊕ (Int32)) := some (Sum.inl ((y0 ||| y1), (x5 + (1 : Int32))))
theorem tX12_hires_J70 {n : Nat} {c : Nat × Nat} {s : zs} {x1 : Int32} {x2 : Int32} {x3 : Int32} {x5 : Int32} {y0 : Int32} {y1 : Int32} {o : _} {v : Option Value} {S' : zi_S} (h : fX12_hires_J70 n s x1 x2 x3 x5 y0 y1 = some o) (hn : ∀ w42, o = Sum.inl w42 → zr kX12_hires 1 10 42 [some (.ref 161), some (.int x1), some (.int x2), some (.int x3), some (.int w42.1), some (.int w42.2), none] [] (zS c s) v S') (hx : ∀ z, o = Sum.inr z → (fun z => zr kX12_hires 1 10 79 [some (.ref 161), some (.int x1), some (.int x2), none, some (.int z), none, none] [] (zS c s) v S') z) : zr kX12_hires 1 10 70 [some (.ref 161), some (.int x1), some (.int x2), some (.int x3), none, some (.int x5), none] [.int y1, .int y0] (zS c s) v S' := by
  unfold fX12_hires_J70 at h
  refine zr_many 4 (pc' := 42) (L' := [some (.ref 161), some (.int x1), some (.int x2), some (.int x3), some (.int (y0 ||| y1)), some (.int (x5 + (1 : Int32))), none]) (st' := []) (S1 := zS c s) rfl ?_
  obtain rfl := Option.some.inj h
  exact zr_wk [some (.ref 161), some (.int x1), some (.int x2), some (.int x3), some (.int (y0 ||| y1)), some (.int (x5 + (1 : Int32))), none] ⟨rfl, rfl, rfl, rfl, rfl, rfl, trivial⟩ (hn ((y0 ||| y1), (x5 + (1 : Int32))) rfl)
def fX12_hires_B42 (n : Nat) (s : zs) (x1 : Int32) (x2 : Int32) (x3 : Int32) (w42 : Int32 × Int32) : Option ((Int32 × Int32) ⊕ (Int32)) := if (if x3 < x2 then x2 else x3) < w42.2 then some (Sum.inr w42.1) else if ¬ w42.2 = x2 then zp (fX12_freeAt n s w42.2) (fun r14 => fX12_hires_J70 n s x1 x2 x3 w42.2 w42.1 r14) else fX12_hires_J70 n s x1 x2 x3 w42.2 w42.1 (0 : Int32)
theorem tX12_hires_B42 {n : Nat} {c : Nat × Nat} {s : zs} {x1 : Int32} {x2 : Int32} {x3 : Int32} {w42 : Int32 × Int32} {o : _} {v : Option Value} {S' : zi_S} (h : fX12_hires_B42 n s x1 x2 x3 w42 = some o) (hn : ∀ w42, o = Sum.inl w42 → zr kX12_hires 1 10 42 [some (.ref 161), some (.int x1), some (.int x2), some (.int x3), some (.int w42.1), some (.int w42.2), none] [] (zS c s) v S') (hx : ∀ z, o = Sum.inr z → (fun z => zr kX12_hires 1 10 79 [some (.ref 161), some (.int x1), some (.int x2), none, some (.int z), none, none] [] (zS c s) v S') z) : zr kX12_hires 1 10 42 [some (.ref 161), some (.int x1), some (.int x2), some (.int x3), some (.int w42.1), some (.int w42.2), none] [] (zS c s) v S' := by
  unfold fX12_hires_B42 at h
  refine zr_many 4 (pc' := 49) (L' := [some (.ref 161), some (.int x1), some (.int x2), some (.int x3), some (.int w42.1), some (.int w42.2), none]) (st' := [.int (if x3 < x2 then x2 else x3), .int w42.2]) (S1 := zS c s) rfl ?_
  refine zq_if2 (b := (if x3 < x2 then x2 else x3) < w42.2) rfl Iff.rfl rfl (fun g12 => ?_) (fun g12 => ?_)
  · rw [if_pos g12] at h
    obtain rfl := Option.some.inj h
    exact zr_wk [some (.ref 161), some (.int x1), some (.int x2), none, some (.int w42.1), none, none] ⟨rfl, rfl, rfl, rfl, trivial⟩ (hx w42.1 rfl)
  · rw [if_neg g12] at h
    refine zr_many 3 (pc' := 57) (L' := [some (.ref 161), some (.int x1), some (.int x2), some (.int x3), some (.int w42.1), some (.int w42.2), none]) (st' := [.int x2, .int w42.2, .int w42.1]) (S1 := zS c s) rfl ?_
    refine zq_if2 (b := ¬ w42.2 = x2) rfl Iff.rfl rfl (fun g13 => ?_) (fun g13 => ?_)
    · rw [if_pos g13] at h
      refine zr_many 2 (pc' := 67) (L' := [some (.ref 161), some (.int x1), some (.int x2), some (.int x3), some (.int w42.1), some (.int w42.2), none]) (st' := [.int w42.2, .ref 161, .int w42.1]) (S1 := zS c s) rfl ?_
      obtain ⟨r14, g16, h⟩ := zp_inv h
      refine zq_call1 rfl rfl (zh_161 _) rfl rfl rfl ((tX12_freeAt g16).up (by decide)) rfl ?_
      exact zr_wk [some (.ref 161), some (.int x1), some (.int x2), some (.int x3), none, some (.int w42.2), none] ⟨rfl, rfl, rfl, rfl, rfl, trivial⟩ (tX12_hires_J70 h hn hx)
    · rw [if_neg g13] at h
      refine zr_many 2 (pc' := 70) (L' := [some (.ref 161), some (.int x1), some (.int x2), some (.int x3), some (.int w42.1), some (.int w42.2), none]) (st' := [.int (0 : Int32), .int w42.1]) (S1 := zS c s) rfl ?_
      exact zr_wk [some (.ref 161), some (.int x1), some (.int x2), some (.int x3), none, some (.int w42.2), none] ⟨rfl, rfl, rfl, rfl, rfl, trivial⟩ (tX12_hires_J70 h hn hx)
def fX12_hires_J132 (n : Nat) (s : zs) (x1 : Int32) (x2 : Int32) (x4 : Int32) (x6 : Int32) (y0 : Int32) : Option ((Int32 × Int32 × zs) ⊕ (Int32 × zs)) := some (Sum.inl (y0, (x6 + (1 : Int32)), s))
theorem tX12_hires_J132 {n : Nat} {c : Nat × Nat} {s : zs} {x1 : Int32} {x2 : Int32} {x4 : Int32} {x6 : Int32} {y0 : Int32} {o : _} {v : Option Value} {S' : zi_S} (h : fX12_hires_J132 n s x1 x2 x4 x6 y0 = some o) (hn : ∀ w86, o = Sum.inl w86 → zr kX12_hires 1 10 86 [some (.ref 161), some (.int x1), some (.int x2), none, some (.int x4), some (.int w86.1), some (.int w86.2.1)] [] (zS c w86.2.2) v S') (hx : ∀ z, o = Sum.inr z → (fun z => zr kX12_hires 1 10 140 [some (.ref 161), none, none, none, none, some (.int z.1), none] [] (zS c z.2) v S') z) : zr kX12_hires 1 10 132 [some (.ref 161), some (.int x1), some (.int x2), none, some (.int x4), none, some (.int x6)] [.int y0] (zS c s) v S' := by
  unfold fX12_hires_J132 at h
  refine zr_many 3 (pc' := 86) (L' := [some (.ref 161), some (.int x1), some (.int x2), none, some (.int x4), some (.int y0), some (.int (x6 + (1 : Int32)))]) (st' := []) (S1 := zS c s) rfl ?_
  obtain rfl := Option.some.inj h
  exact zr_wk [some (.ref 161), some (.int x1), some (.int x2), none, some (.int x4), some (.int y0), some (.int (x6 + (1 : Int32)))] ⟨rfl, rfl, rfl, rfl, rfl, rfl, trivial⟩ (hn (y0, (x6 + (1 : Int32)), s) rfl)
def fX12_hires_J130 (n : Nat) (s : zs) (x1 : Int32) (x2 : Int32) (x4 : Int32) (x5 : Int32) (x6 : Int32) : Option ((Int32 × Int32 × zs) ⊕ (Int32 × zs)) := fX12_hires_J132 n s x1 x2 x4 x6 x5
theorem tX12_hires_J130 {n : Nat} {c : Nat × Nat} {s : zs} {x1 : Int32} {x2 : Int32} {x4 : Int32} {x5 : Int32} {x6 : Int32} {o : _} {v : Option Value} {S' : zi_S} (h : fX12_hires_J130 n s x1 x2 x4 x5 x6 = some o) (hn : ∀ w86, o = Sum.inl w86 → zr kX12_hires 1 10 86 [some (.ref 161), some (.int x1), some (.int x2), none, some (.int x4), some (.int w86.1), some (.int w86.2.1)] [] (zS c w86.2.2) v S') (hx : ∀ z, o = Sum.inr z → (fun z => zr kX12_hires 1 10 140 [some (.ref 161), none, none, none, none, some (.int z.1), none] [] (zS c z.2) v S') z) : zr kX12_hires 1 10 130 [some (.ref 161), some (.int x1), some (.int x2), none, some (.int x4), some (.int x5), some (.int x6)] [] (zS c s) v S' := by
  unfold fX12_hires_J130 at h
  refine zr_many 1 (pc' := 132) (L' := [some (.ref 161), some (.int x1), some (.int x2), none, some (.int x4), some (.int x5), some (.int x6)]) (st' := [.int x5]) (S1 := zS c s) rfl ?_
  exact zr_wk [some (.ref 161), some (.int x1), some (.int x2), none, some (.int x4), none, some (.int x6)] ⟨rfl, rfl, rfl, rfl, rfl, trivial⟩ (tX12_hires_J132 h hn hx)
def fX12_hires_B86 (n : Nat) (x1 : Int32) (x2 : Int32) (x4 : Int32) (w86 : Int32 × Int32 × zs) : Option ((Int32 × Int32 × zs) ⊕ (Int32 × zs)) := if x4 < w86.2.1 then some (Sum.inr (w86.1, w86.2.2)) else if ¬ (w86.2.1 &&& (x4 ^^^ (-1 : Int32))) = 0 then fX12_hires_J130 n w86.2.2 x1 x2 x4 w86.1 w86.2.1 else zp (fX12_isCheaper n w86.2.2 w86.2.1 w86.1) (fun r20 => if r20 = 0 then fX12_hires_J130 n w86.2.2 x1 x2 x4 w86.1 w86.2.1 else zb (fX12_singsAll n w86.2.2 x1 x2 w86.2.1) (fun r24 s25 => if r24 = 0 then fX12_hires_J130 n s25 x1 x2 x4 w86.1 w86.2.1 else fX12_hires_J132 n s25 x1 x2 x4 w86.2.1 w86.2.1))
theorem tX12_hires_B86 {n : Nat} {c : Nat × Nat} {x1 : Int32} {x2 : Int32} {x4 : Int32} {w86 : Int32 × Int32 × zs} {o : _} {v : Option Value} {S' : zi_S} (h : fX12_hires_B86 n x1 x2 x4 w86 = some o) (hn : ∀ w86, o = Sum.inl w86 → zr kX12_hires 1 10 86 [some (.ref 161), some (.int x1), some (.int x2), none, some (.int x4), some (.int w86.1), some (.int w86.2.1)] [] (zS c w86.2.2) v S') (hx : ∀ z, o = Sum.inr z → (fun z => zr kX12_hires 1 10 140 [some (.ref 161), none, none, none, none, some (.int z.1), none] [] (zS c z.2) v S') z) : zr kX12_hires 1 10 86 [some (.ref 161), some (.int x1), some (.int x2), none, some (.int x4), some (.int w86.1), some (.int w86.2.1)] [] (zS c w86.2.2) v S' := by
  unfold fX12_hires_B86 at h
  refine zr_many 2 (pc' := 90) (L' := [some (.ref 161), some (.int x1), some (.int x2), none, some (.int x4), some (.int w86.1), some (.int w86.2.1)]) (st' := [.int x4, .int w86.2.1]) (S1 := zS c w86.2.2) rfl ?_
  refine zq_if2 (b := x4 < w86.2.1) rfl Iff.rfl rfl (fun g18 => ?_) (fun g18 => ?_)
  · rw [if_pos g18] at h
    obtain rfl := Option.some.inj h
    exact zr_wk [some (.ref 161), none, none, none, none, some (.int w86.1), none] ⟨rfl, rfl, trivial⟩ (hx (w86.1, w86.2.2) rfl)
  · rw [if_neg g18] at h
    refine zr_many 5 (pc' := 100) (L' := [some (.ref 161), some (.int x1), some (.int x2), none, some (.int x4), some (.int w86.1), some (.int w86.2.1)]) (st' := [.int (w86.2.1 &&& (x4 ^^^ (-1 : Int32)))]) (S1 := zS c w86.2.2) rfl ?_
    refine zq_if1 (b := ¬ (w86.2.1 &&& (x4 ^^^ (-1 : Int32))) = 0) rfl Iff.rfl rfl (fun g19 => ?_) (fun g19 => ?_)
    · rw [if_pos g19] at h
      exact zr_wk [some (.ref 161), some (.int x1), some (.int x2), none, some (.int x4), some (.int w86.1), some (.int w86.2.1)] ⟨rfl, rfl, rfl, rfl, rfl, rfl, trivial⟩ (tX12_hires_J130 h hn hx)
    · rw [if_neg g19] at h
      refine zr_many 3 (pc' := 108) (L' := [some (.ref 161), some (.int x1), some (.int x2), none, some (.int x4), some (.int w86.1), some (.int w86.2.1)]) (st' := [.int w86.1, .int w86.2.1, .ref 161]) (S1 := zS c w86.2.2) rfl ?_
      obtain ⟨r20, g22, h⟩ := zp_inv h
      refine zq_call1 rfl rfl (zh_161 _) rfl rfl rfl ((tX12_isCheaper g22).up (by decide)) rfl ?_
      refine zq_if1 (b := r20 = 0) rfl Iff.rfl rfl (fun g23 => ?_) (fun g23 => ?_)
      · rw [if_pos g23] at h
        exact zr_wk [some (.ref 161), some (.int x1), some (.int x2), none, some (.int x4), some (.int w86.1), some (.int w86.2.1)] ⟨rfl, rfl, rfl, rfl, rfl, rfl, trivial⟩ (tX12_hires_J130 h hn hx)
      · rw [if_neg g23] at h
        refine zr_many 4 (pc' := 119) (L' := [some (.ref 161), some (.int x1), some (.int x2), none, some (.int x4), some (.int w86.1), some (.int w86.2.1)]) (st' := [.int w86.2.1, .int x2, .int x1, .ref 161]) (S1 := zS c w86.2.2) rfl ?_
        obtain ⟨r24, s25, g26, h⟩ := zb_inv h
        refine zq_call1 rfl rfl (zh_161 _) rfl rfl rfl (tX12_singsAll g26) rfl ?_
        refine zq_if1 (b := r24 = 0) rfl Iff.rfl rfl (fun g27 => ?_) (fun g27 => ?_)
        · rw [if_pos g27] at h
          exact zr_wk [some (.ref 161), some (.int x1), some (.int x2), none, some (.int x4), some (.int w86.1), some (.int w86.2.1)] ⟨rfl, rfl, rfl, rfl, rfl, rfl, trivial⟩ (tX12_hires_J130 h hn hx)
        · rw [if_neg g27] at h
          refine zr_many 2 (pc' := 132) (L' := [some (.ref 161), some (.int x1), some (.int x2), none, some (.int x4), some (.int w86.1), some (.int w86.2.1)]) (st' := [.int w86.2.1]) (S1 := zS c s25) rfl ?_
          exact zr_wk [some (.ref 161), some (.int x1), some (.int x2), none, some (.int x4), none, some (.int w86.2.1)] ⟨rfl, rfl, rfl, rfl, rfl, trivial⟩ (tX12_hires_J132 h hn hx)
def fX12_hires_J161 (n : Nat) (s : zs) (x5 : Int32) : Option (Int32 × zs) := some (x5, s)
theorem tX12_hires_J161 {n : Nat} {c : Nat × Nat} {s : zs} {x5 : Int32} {r : Int32} {s' : zs} (h : fX12_hires_J161 n s x5 = some (r, s')) : zr kX12_hires 1 10 161 [none, none, none, none, none, some (.int x5), none] [] (zS c s) (some (.int r)) (zS c s') := by
  unfold fX12_hires_J161 at h
  refine zr_many 1 (pc' := 163) (L' := [none, none, none, none, none, some (.int x5), none]) (st' := [.int x5]) (S1 := zS c s) rfl ?_
  obtain ⟨rfl, rfl⟩ := Prod.mk.inj (Option.some.inj h)
  exact zq_iret rfl
def fX12_hires (n : Nat) (s : zs) (x1 : Int32) (x2 : Int32) : Option (Int32 × zs) := zp (fX12_isBarge n (zsi s 161 0 (0 : Int32)) x1) (fun r1 => if r1 = 0 then fX12_hires_J21 n (zsi s 161 0 (0 : Int32)) else zp (fX12_isPlace n (zsi s 161 0 (0 : Int32)) x2) (fun r5 => if ¬ r5 = 0 then zp (fX12_placeOf n (zsi s 161 0 (0 : Int32)) 169 x1) (fun r9 => zp (zl (fX12_hires_B42 n (zsi s 161 0 (0 : Int32)) x1 x2 r9) n ((0 : Int32), (if x2 < r9 then x2 else r9))) (fun w17 => zp (zl (fX12_hires_B86 n x1 x2 w17) n ((-2 : Int32), (0 : Int32), (zsi s 161 0 (0 : Int32)))) (fun w28 => if w28.1 < 0 then fX12_hires_J161 n w28.2 w28.1 else zp (fX12_fees n (zsi w28.2 161 1 (0 : Int32)) w28.1) (fun r30 => zp (fX12_enters n (zsi w28.2 161 1 (0 : Int32)) r30.toInt64) (fun s34 => fX12_hires_J161 n s34 w28.1))))) else fX12_hires_J21 n (zsi s 161 0 (0 : Int32))))
theorem tX12_hires {n : Nat} {c : Nat × Nat} {s : zs} {x1 : Int32} {x2 : Int32} {r : Int32} {s' : zs} (h : fX12_hires n s x1 x2 = some (r, s')) : zc 11 2485 [.ref 161, .int x1, .int x2] (zS c s) (some (.int r)) (zS c s') := by
  refine zc_of (k := kX12_hires) (rt := 1) (L := [some (.ref 161), some (.int x1), some (.int x2), none, none, none, none]) zm_2485.1 rfl rfl (by decide) rfl rfl ?_
  unfold fX12_hires at h
  refine zr_many 2 (pc' := 2) (L' := [some (.ref 161), some (.int x1), some (.int x2), none, none, none, none]) (st' := [.int (0 : Int32), .ref 161]) (S1 := zS c s) rfl ?_
  refine zq_put (s' := (zsi s 161 0 (0 : Int32))) rfl (zh_161 _) rfl rfl rfl rfl zsi_ne rfl ?_
  refine zr_many 2 (pc' := 7) (L' := [some (.ref 161), some (.int x1), some (.int x2), none, none, none, none]) (st' := [.int x1, .ref 161]) (S1 := zS c (zsi s 161 0 (0 : Int32))) rfl ?_
  obtain ⟨r1, g3, h⟩ := zp_inv h
  refine zq_call1 rfl rfl (zh_161 _) rfl rfl rfl ((tX12_isBarge g3).up (by decide)) rfl ?_
  refine zq_if1 (b := r1 = 0) rfl Iff.rfl rfl (fun g4 => ?_) (fun g4 => ?_)
  · rw [if_pos g4] at h
    exact zr_wk [none, none, none, none, none, none, none] trivial (tX12_hires_J21 h)
  · rw [if_neg g4] at h
    refine zr_many 2 (pc' := 15) (L' := [some (.ref 161), some (.int x1), some (.int x2), none, none, none, none]) (st' := [.int x2, .ref 161]) (S1 := zS c (zsi s 161 0 (0 : Int32))) rfl ?_
    obtain ⟨r5, g7, h⟩ := zp_inv h
    refine zq_call1 rfl rfl (zh_161 _) rfl rfl rfl ((tX12_isPlace g7).up (by decide)) rfl ?_
    refine zq_if1 (b := ¬ r5 = 0) rfl Iff.rfl rfl (fun g8 => ?_) (fun g8 => ?_)
    · rw [if_pos g8] at h
      refine zr_many 1 (pc' := 24) (L' := [some (.ref 161), some (.int x1), some (.int x2), none, none, none, none]) (st' := [.ref 161]) (S1 := zS c (zsi s 161 0 (0 : Int32))) rfl ?_
      refine zq_get rfl (zh_161 _) rfl rfl rfl ?_
      refine zr_many 1 (pc' := 28) (L' := [some (.ref 161), some (.int x1), some (.int x2), none, none, none, none]) (st' := [.int x1, .ref 169]) (S1 := zS c (zsi s 161 0 (0 : Int32))) rfl ?_
      obtain ⟨r9, g11, h⟩ := zp_inv h
      refine zq_scall1 rfl (by decide) rfl rfl ((tX12_placeOf zR_n g11).up (by decide)) rfl ?_
      refine zr_many 7 (pc' := 42) (L' := [some (.ref 161), some (.int x1), some (.int x2), some (.int r9), some (.int (0 : Int32)), some (.int (if x2 < r9 then x2 else r9)), none]) (st' := []) (S1 := zS c (zsi s 161 0 (0 : Int32))) rfl ?_
      obtain ⟨w17, g37, h⟩ := zp_inv h
      refine zr_wk [some (.ref 161), some (.int x1), some (.int x2), some (.int r9), some (.int (0 : Int32)), some (.int (if x2 < r9 then x2 else r9)), none] ⟨rfl, rfl, rfl, rfl, rfl, rfl, trivial⟩ (zl_cert (Z := fun w42 => zr kX12_hires 1 10 42 [some (.ref 161), some (.int x1), some (.int x2), some (.int r9), some (.int w42.1), some (.int w42.2), none] [] (zS c (zsi s 161 0 (0 : Int32))) _ _) (Y := (fun z => zr kX12_hires 1 10 79 [some (.ref 161), some (.int x1), some (.int x2), none, some (.int z), none, none] [] (zS c (zsi s 161 0 (0 : Int32))) _ _)) (fun w o h1 h2 h3 => tX12_hires_B42 h1 h2 h3) n _ _ g37 ?_)
      show zr kX12_hires 1 10 79 [some (.ref 161), some (.int x1), some (.int x2), none, some (.int w17), none, none] [] (zS c (zsi s 161 0 (0 : Int32))) _ _
      refine zr_many 4 (pc' := 86) (L' := [some (.ref 161), some (.int x1), some (.int x2), none, some (.int w17), some (.int (-2 : Int32)), some (.int (0 : Int32))]) (st' := []) (S1 := zS c (zsi s 161 0 (0 : Int32))) rfl ?_
      obtain ⟨w28, g36, h⟩ := zp_inv h
      refine zr_wk [some (.ref 161), some (.int x1), some (.int x2), none, some (.int w17), some (.int (-2 : Int32)), some (.int (0 : Int32))] ⟨rfl, rfl, rfl, rfl, rfl, rfl, trivial⟩ (zl_cert (Z := fun w86 => zr kX12_hires 1 10 86 [some (.ref 161), some (.int x1), some (.int x2), none, some (.int w17), some (.int w86.1), some (.int w86.2.1)] [] (zS c w86.2.2) _ _) (Y := (fun z => zr kX12_hires 1 10 140 [some (.ref 161), none, none, none, none, some (.int z.1), none] [] (zS c z.2) _ _)) (fun w o h1 h2 h3 => tX12_hires_B86 h1 h2 h3) n _ _ g36 ?_)
      show zr kX12_hires 1 10 140 [some (.ref 161), none, none, none, none, some (.int w28.1), none] [] (zS c w28.2) _ _
      refine zr_many 1 (pc' := 142) (L' := [some (.ref 161), none, none, none, none, some (.int w28.1), none]) (st' := [.int w28.1]) (S1 := zS c w28.2) rfl ?_
      refine zq_if1 (b := w28.1 < 0) rfl Iff.rfl rfl (fun g29 => ?_) (fun g29 => ?_)
      · rw [if_pos g29] at h
        exact zr_wk [none, none, none, none, none, some (.int w28.1), none] ⟨rfl, trivial⟩ (tX12_hires_J161 h)
      · rw [if_neg g29] at h
        refine zr_many 2 (pc' := 147) (L' := [some (.ref 161), none, none, none, none, some (.int w28.1), none]) (st' := [.int (0 : Int32), .ref 161]) (S1 := zS c w28.2) rfl ?_
        refine zq_put (s' := (zsi w28.2 161 1 (0 : Int32))) rfl (zh_161 _) rfl rfl rfl rfl zsi_ne rfl ?_
        refine zr_many 3 (pc' := 154) (L' := [some (.ref 161), none, none, none, none, some (.int w28.1), none]) (st' := [.int w28.1, .ref 161, .ref 161]) (S1 := zS c (zsi w28.2 161 1 (0 : Int32))) rfl ?_
        obtain ⟨r30, g32, h⟩ := zp_inv h
        refine zq_call1 rfl rfl (zh_161 _) rfl rfl rfl ((tX12_fees g32).up (by decide)) rfl ?_
        refine zr_many 1 (pc' := 158) (L' := [some (.ref 161), none, none, none, none, some (.int w28.1), none]) (st' := [.long r30.toInt64, .ref 161]) (S1 := zS c (zsi w28.2 161 1 (0 : Int32))) rfl ?_
        obtain ⟨s34, g35, h⟩ := zp_inv h
        refine zq_call0 rfl rfl (zh_161 _) rfl rfl rfl ((tX12_enters g35).up (by decide)) rfl ?_
        exact zr_wk [none, none, none, none, none, some (.int w28.1), none] ⟨rfl, trivial⟩ (tX12_hires_J161 h)
    · rw [if_neg g8] at h
      exact zr_wk [none, none, none, none, none, none, none] trivial (tX12_hires_J21 h)
def fX12_rested_J21 (n : Nat) (s : zs) : Option (Int32 × zs) := some ((-1 : Int32), s)
theorem tX12_rested_J21 {n : Nat} {c : Nat × Nat} {s : zs} {r : Int32} {s' : zs} (h : fX12_rested_J21 n s = some (r, s')) : zr kX12_rested 1 12 21 [none, none, none, none, none] [] (zS c s) (some (.int r)) (zS c s') := by
  unfold fX12_rested_J21 at h
  refine zr_many 1 (pc' := 22) (L' := [none, none, none, none, none]) (st' := [.int (-1 : Int32)]) (S1 := zS c s) rfl ?_
  obtain ⟨rfl, rfl⟩ := Prod.mk.inj (Option.some.inj h)
  exact zq_iret rfl
def fX12_rested_B25 (n : Nat) (x1 : Int32) (x2 : Int32) (w25 : Int32 × zs) : Option ((Int32 × zs) ⊕ ((Int32 × Int32 × zs) ⊕ (zs))) := if (90 : Int32) < w25.1 then some (Sum.inr (Sum.inr w25.2)) else zp (fX12_puts n w25.2) (fun s11 => zp (fX12_restsFor n s11 170 w25.1) (fun s14 => zb (fX12_goesTo n s14 x1 x2) (fun r16 s17 => if r16 < 0 then some (Sum.inl ((w25.1 + (10 : Int32)), s17)) else some (Sum.inr (Sum.inl (w25.1, r16, s17))))))
theorem tX12_rested_B25 {n : Nat} {c : Nat × Nat} {x1 : Int32} {x2 : Int32} {w25 : Int32 × zs} {o : _} {v : Option Value} {S' : zi_S} (h : fX12_rested_B25 n x1 x2 w25 = some o) (hn : ∀ w25, o = Sum.inl w25 → zr kX12_rested 1 12 25 [some (.ref 161), some (.int x1), some (.int x2), some (.int w25.1), none] [] (zS c w25.2) v S') (hx : ∀ z, o = Sum.inr z → (Sum.elim (fun z => zr kX12_rested 1 12 57 [some (.ref 161), none, none, some (.int z.1), some (.int z.2.1)] [] (zS c z.2.2) v S') (fun z => zr kX12_rested 1 12 77 [none, none, none, none, none] [] (zS c z) v S')) z) : zr kX12_rested 1 12 25 [some (.ref 161), some (.int x1), some (.int x2), some (.int w25.1), none] [] (zS c w25.2) v S' := by
  unfold fX12_rested_B25 at h
  refine zr_many 2 (pc' := 28) (L' := [some (.ref 161), some (.int x1), some (.int x2), some (.int w25.1), none]) (st' := [.int (90 : Int32), .int w25.1]) (S1 := zS c w25.2) rfl ?_
  refine zq_if2 (b := (90 : Int32) < w25.1) rfl Iff.rfl rfl (fun g9 => ?_) (fun g9 => ?_)
  · rw [if_pos g9] at h
    obtain rfl := Option.some.inj h
    exact zr_wk [none, none, none, none, none] trivial (hx (Sum.inr w25.2) rfl)
  · rw [if_neg g9] at h
    refine zr_many 1 (pc' := 32) (L' := [some (.ref 161), some (.int x1), some (.int x2), some (.int w25.1), none]) (st' := [.ref 161]) (S1 := zS c w25.2) rfl ?_
    obtain ⟨s11, g12, h⟩ := zp_inv h
    refine zq_call0 rfl rfl (zh_161 _) rfl rfl rfl ((tX12_puts g12).up (by decide)) rfl ?_
    refine zr_many 2 (pc' := 37) (L' := [some (.ref 161), some (.int x1), some (.int x2), some (.int w25.1), none]) (st' := [.ref 161, .ref 161]) (S1 := zS c s11) rfl ?_
    refine zq_get rfl (zh_161 _) rfl rfl rfl ?_
    refine zr_many 1 (pc' := 41) (L' := [some (.ref 161), some (.int x1), some (.int x2), some (.int w25.1), none]) (st' := [.int w25.1, .ref 170, .ref 161]) (S1 := zS c s11) rfl ?_
    obtain ⟨s14, g15, h⟩ := zp_inv h
    refine zq_call0 rfl rfl (zh_161 _) rfl rfl rfl ((tX12_restsFor zR_t g15).up (by decide)) rfl ?_
    refine zr_many 3 (pc' := 47) (L' := [some (.ref 161), some (.int x1), some (.int x2), some (.int w25.1), none]) (st' := [.int x2, .int x1, .ref 161]) (S1 := zS c s14) rfl ?_
    obtain ⟨r16, s17, g18, h⟩ := zb_inv h
    refine zq_call1 rfl rfl (zh_161 _) rfl rfl rfl (tX12_goesTo g18) rfl ?_
    refine zr_many 2 (pc' := 54) (L' := [some (.ref 161), some (.int x1), some (.int x2), some (.int w25.1), some (.int r16)]) (st' := [.int r16]) (S1 := zS c s17) rfl ?_
    refine zq_if1 (b := r16 < 0) rfl Iff.rfl rfl (fun g19 => ?_) (fun g19 => ?_)
    · rw [if_pos g19] at h
      refine zr_many 2 (pc' := 25) (L' := [some (.ref 161), some (.int x1), some (.int x2), some (.int (w25.1 + (10 : Int32))), some (.int r16)]) (st' := []) (S1 := zS c s17) rfl ?_
      obtain rfl := Option.some.inj h
      exact zr_wk [some (.ref 161), some (.int x1), some (.int x2), some (.int (w25.1 + (10 : Int32))), none] ⟨rfl, rfl, rfl, rfl, trivial⟩ (hn ((w25.1 + (10 : Int32)), s17) rfl)
    · rw [if_neg g19] at h
      obtain rfl := Option.some.inj h
      exact zr_wk [some (.ref 161), none, none, some (.int w25.1), some (.int r16)] ⟨rfl, rfl, rfl, trivial⟩ (hx (Sum.inl (w25.1, r16, s17)) rfl)
def fX12_rested (n : Nat) (s : zs) (x1 : Int32) (x2 : Int32) : Option (Int32 × zs) := zp (fX12_isBarge n (zsi s 161 0 (0 : Int32)) x1) (fun r1 => if r1 = 0 then fX12_rested_J21 n (zsi s 161 0 (0 : Int32)) else zp (fX12_isPlace n (zsi s 161 0 (0 : Int32)) x2) (fun r5 => if ¬ r5 = 0 then zp (zl (fX12_rested_B25 n x1 x2) n ((0 : Int32), (zsi s 161 0 (0 : Int32)))) (Sum.elim (fun w20 => zp (fX12_enters n (zsi w20.2.2 161 1 (0 : Int32)) w20.2.1.toInt64) (fun s22 => some (w20.1, s22))) (fun w24 => some ((-2 : Int32), w24))) else fX12_rested_J21 n (zsi s 161 0 (0 : Int32))))
theorem tX12_rested {n : Nat} {c : Nat × Nat} {s : zs} {x1 : Int32} {x2 : Int32} {r : Int32} {s' : zs} (h : fX12_rested n s x1 x2 = some (r, s')) : zc 13 2486 [.ref 161, .int x1, .int x2] (zS c s) (some (.int r)) (zS c s') := by
  refine zc_of (k := kX12_rested) (rt := 1) (L := [some (.ref 161), some (.int x1), some (.int x2), none, none]) zm_2486.1 rfl rfl (by decide) rfl rfl ?_
  unfold fX12_rested at h
  refine zr_many 2 (pc' := 2) (L' := [some (.ref 161), some (.int x1), some (.int x2), none, none]) (st' := [.int (0 : Int32), .ref 161]) (S1 := zS c s) rfl ?_
  refine zq_put (s' := (zsi s 161 0 (0 : Int32))) rfl (zh_161 _) rfl rfl rfl rfl zsi_ne rfl ?_
  refine zr_many 2 (pc' := 7) (L' := [some (.ref 161), some (.int x1), some (.int x2), none, none]) (st' := [.int x1, .ref 161]) (S1 := zS c (zsi s 161 0 (0 : Int32))) rfl ?_
  obtain ⟨r1, g3, h⟩ := zp_inv h
  refine zq_call1 rfl rfl (zh_161 _) rfl rfl rfl ((tX12_isBarge g3).up (by decide)) rfl ?_
  refine zq_if1 (b := r1 = 0) rfl Iff.rfl rfl (fun g4 => ?_) (fun g4 => ?_)
  · rw [if_pos g4] at h
    exact zr_wk [none, none, none, none, none] trivial (tX12_rested_J21 h)
  · rw [if_neg g4] at h
    refine zr_many 2 (pc' := 15) (L' := [some (.ref 161), some (.int x1), some (.int x2), none, none]) (st' := [.int x2, .ref 161]) (S1 := zS c (zsi s 161 0 (0 : Int32))) rfl ?_
    obtain ⟨r5, g7, h⟩ := zp_inv h
    refine zq_call1 rfl rfl (zh_161 _) rfl rfl rfl ((tX12_isPlace g7).up (by decide)) rfl ?_
    refine zq_if1 (b := ¬ r5 = 0) rfl Iff.rfl rfl (fun g8 => ?_) (fun g8 => ?_)
    · rw [if_pos g8] at h
      refine zr_many 2 (pc' := 25) (L' := [some (.ref 161), some (.int x1), some (.int x2), some (.int (0 : Int32)), none]) (st' := []) (S1 := zS c (zsi s 161 0 (0 : Int32))) rfl ?_
      obtain ⟨w26, g25, h⟩ := zp_inv h
      rcases w26 with w20 | w24
      · simp only [Sum.elim_inl, Sum.elim_inr] at h
        refine zr_wk [some (.ref 161), some (.int x1), some (.int x2), some (.int (0 : Int32)), none] ⟨rfl, rfl, rfl, rfl, trivial⟩ (zl_cert (Z := fun w25 => zr kX12_rested 1 12 25 [some (.ref 161), some (.int x1), some (.int x2), some (.int w25.1), none] [] (zS c w25.2) _ _) (Y := (Sum.elim (fun z => zr kX12_rested 1 12 57 [some (.ref 161), none, none, some (.int z.1), some (.int z.2.1)] [] (zS c z.2.2) _ _) (fun z => zr kX12_rested 1 12 77 [none, none, none, none, none] [] (zS c z) _ _))) (fun w o h1 h2 h3 => tX12_rested_B25 h1 h2 h3) n _ _ g25 ?_)
        show zr kX12_rested 1 12 57 [some (.ref 161), none, none, some (.int w20.1), some (.int w20.2.1)] [] (zS c w20.2.2) _ _
        refine zr_many 2 (pc' := 59) (L' := [some (.ref 161), none, none, some (.int w20.1), some (.int w20.2.1)]) (st' := [.int (0 : Int32), .ref 161]) (S1 := zS c w20.2.2) rfl ?_
        refine zq_put (s' := (zsi w20.2.2 161 1 (0 : Int32))) rfl (zh_161 _) rfl rfl rfl rfl zsi_ne rfl ?_
        refine zr_many 3 (pc' := 66) (L' := [some (.ref 161), none, none, some (.int w20.1), some (.int w20.2.1)]) (st' := [.long w20.2.1.toInt64, .ref 161]) (S1 := zS c (zsi w20.2.2 161 1 (0 : Int32))) rfl ?_
        obtain ⟨s22, g23, h⟩ := zp_inv h
        refine zq_call0 rfl rfl (zh_161 _) rfl rfl rfl ((tX12_enters g23).up (by decide)) rfl ?_
        refine zr_many 1 (pc' := 70) (L' := [some (.ref 161), none, none, some (.int w20.1), some (.int w20.2.1)]) (st' := [.int w20.1]) (S1 := zS c s22) rfl ?_
        obtain ⟨rfl, rfl⟩ := Prod.mk.inj (Option.some.inj h)
        exact zq_iret rfl
      · simp only [Sum.elim_inl, Sum.elim_inr] at h
        refine zr_wk [some (.ref 161), some (.int x1), some (.int x2), some (.int (0 : Int32)), none] ⟨rfl, rfl, rfl, rfl, trivial⟩ (zl_cert (Z := fun w25 => zr kX12_rested 1 12 25 [some (.ref 161), some (.int x1), some (.int x2), some (.int w25.1), none] [] (zS c w25.2) _ _) (Y := (Sum.elim (fun z => zr kX12_rested 1 12 57 [some (.ref 161), none, none, some (.int z.1), some (.int z.2.1)] [] (zS c z.2.2) _ _) (fun z => zr kX12_rested 1 12 77 [none, none, none, none, none] [] (zS c z) _ _))) (fun w o h1 h2 h3 => tX12_rested_B25 h1 h2 h3) n _ _ g25 ?_)
        show zr kX12_rested 1 12 77 [none, none, none, none, none] [] (zS c w24) _ _
        refine zr_many 1 (pc' := 79) (L' := [none, none, none, none, none]) (st' := [.int (-2 : Int32)]) (S1 := zS c w24) rfl ?_
        obtain ⟨rfl, rfl⟩ := Prod.mk.inj (Option.some.inj h)
        exact zq_iret rfl
    · rw [if_neg g8] at h
      exact zr_wk [none, none, none, none, none] trivial (tX12_rested_J21 h)
def fX12_spot (n : Nat) (s : zs) (x0 : Int32) (x1 : Int32) (x2 : Int32) : Option Int32 := some (((((15 : Int32) * x0) + x1) * (2 : Int32)) + x2)
theorem tX12_spot {n : Nat} {c : Nat × Nat} {s : zs} {x0 : Int32} {x1 : Int32} {x2 : Int32} {r : Int32} (h : fX12_spot n s x0 x1 x2 = some r) : zc 1 2487 [.int x0, .int x1, .int x2] (zS c s) (some (.int r)) (zS c s) := by
  refine zc_of (k := kX12_spot) (rt := 1) (L := [some (.int x0), some (.int x1), some (.int x2)]) zm_2487.1 rfl rfl (by decide) rfl rfl ?_
  unfold fX12_spot at h
  refine zr_many 9 (pc' := 10) (L' := [some (.int x0), some (.int x1), some (.int x2)]) (st' := [.int (((((15 : Int32) * x0) + x1) * (2 : Int32)) + x2)]) (S1 := zS c s) rfl ?_
  obtain rfl := Option.some.inj h
  exact zq_iret rfl
def fX12_costOf_J18 (n : Nat) (s : zs) (y0 : Int32) (y1 : Int32) : Option Int32 := zp (fX12_flag n s y1) (fun r5 => some (y0 + r5))
theorem tX12_costOf_J18 {n : Nat} {c : Nat × Nat} {s : zs} {y0 : Int32} {y1 : Int32} {r : Int32} (h : fX12_costOf_J18 n s y0 y1 = some r) : zr kX12_costOf 1 1 18 [none, none] [.int y1, .int y0] (zS c s) (some (.int r)) (zS c s) := by
  unfold fX12_costOf_J18 at h
  obtain ⟨r5, g7, h⟩ := zp_inv h
  refine zq_scall1 rfl (by decide) rfl rfl (tX12_flag g7) rfl ?_
  refine zr_many 1 (pc' := 22) (L' := [none, none]) (st' := [.int (y0 + r5)]) (S1 := zS c s) rfl ?_
  obtain rfl := Option.some.inj h
  exact zq_iret rfl
def fX12_costOf (n : Nat) (s : zs) (x0 : Int32) (x1 : Int32) : Option Int32 := zp (fX12_waterFor n s x0 x1) (fun r1 => if ¬ x0 = x1 then fX12_costOf_J18 n s ((100 : Int32) * r1) (0 : Int32) else fX12_costOf_J18 n s ((100 : Int32) * r1) (1 : Int32))
theorem tX12_costOf {n : Nat} {c : Nat × Nat} {s : zs} {x0 : Int32} {x1 : Int32} {r : Int32} (h : fX12_costOf n s x0 x1 = some r) : zc 2 2488 [.int x0, .int x1] (zS c s) (some (.int r)) (zS c s) := by
  refine zc_of (k := kX12_costOf) (rt := 1) (L := [some (.int x0), some (.int x1)]) zm_2488.1 rfl rfl (by decide) rfl rfl ?_
  unfold fX12_costOf at h
  refine zr_many 3 (pc' := 4) (L' := [some (.int x0), some (.int x1)]) (st' := [.int x1, .int x0, .int (100 : Int32)]) (S1 := zS c s) rfl ?_
  obtain ⟨r1, g3, h⟩ := zp_inv h
  refine zq_scall1 rfl (by decide) rfl rfl (tX12_waterFor g3) rfl ?_
  refine zr_many 3 (pc' := 10) (L' := [some (.int x0), some (.int x1)]) (st' := [.int x1, .int x0, .int ((100 : Int32) * r1)]) (S1 := zS c s) rfl ?_
  refine zq_if2 (b := ¬ x0 = x1) rfl Iff.rfl rfl (fun g4 => ?_) (fun g4 => ?_)
  · rw [if_pos g4] at h
    refine zr_many 1 (pc' := 18) (L' := [some (.int x0), some (.int x1)]) (st' := [.int (0 : Int32), .int ((100 : Int32) * r1)]) (S1 := zS c s) rfl ?_
    exact zr_wk [none, none] trivial (tX12_costOf_J18 h)
  · rw [if_neg g4] at h
    refine zr_many 2 (pc' := 18) (L' := [some (.int x0), some (.int x1)]) (st' := [.int (1 : Int32), .int ((100 : Int32) * r1)]) (S1 := zS c s) rfl ?_
    exact zr_wk [none, none] trivial (tX12_costOf_J18 h)
def fX12_yetBy_J29 (n : Nat) (s : zs) (x1 : Int32) (x2 : Int32) (x3 : Int32) (x4 : Int32) : Option Int32 := zp (fX12_costOf n s x3 x4) (fun r3 => zp (fX12_spot n s (x1 + x4) ((x2 + (1 : Int32)) - x4) x4) (fun r6 => cond (zi_in r6 450) (some (r3 + (s.1 185 r6.toNatClampNeg))) none))
theorem tX12_yetBy_J29 {n : Nat} {c : Nat × Nat} {s : zs} {x1 : Int32} {x2 : Int32} {x3 : Int32} {x4 : Int32} {r : Int32} (h : fX12_yetBy_J29 n s x1 x2 x3 x4 = some r) : zr kX12_yetBy 1 2 29 [some (.ref 161), some (.int x1), some (.int x2), some (.int x3), some (.int x4)] [] (zS c s) (some (.int r)) (zS c s) := by
  unfold fX12_yetBy_J29 at h
  refine zr_many 2 (pc' := 32) (L' := [some (.ref 161), some (.int x1), some (.int x2), some (.int x3), some (.int x4)]) (st' := [.int x4, .int x3]) (S1 := zS c s) rfl ?_
  obtain ⟨r3, g5, h⟩ := zp_inv h
  refine zq_scall1 rfl (by decide) rfl rfl (tX12_costOf g5) rfl ?_
  refine zr_many 1 (pc' := 36) (L' := [some (.ref 161), some (.int x1), some (.int x2), some (.int x3), some (.int x4)]) (st' := [.ref 161, .int r3]) (S1 := zS c s) rfl ?_
  refine zq_get rfl (zh_161 _) rfl rfl rfl ?_
  refine zr_many 9 (pc' := 51) (L' := [some (.ref 161), some (.int x1), some (.int x2), some (.int x3), some (.int x4)]) (st' := [.int x4, .int ((x2 + (1 : Int32)) - x4), .int (x1 + x4), .ref 185, .int r3]) (S1 := zS c s) rfl ?_
  obtain ⟨r6, g8, h⟩ := zp_inv h
  refine zq_scall1 rfl (by decide) rfl rfl ((tX12_spot g8).up (by decide)) rfl ?_
  obtain ⟨g9, h⟩ := zi_cond_inv h
  refine zq_ild rfl (zh_185 _) rfl g9 rfl ?_
  refine zr_many 1 (pc' := 56) (L' := [some (.ref 161), some (.int x1), some (.int x2), some (.int x3), some (.int x4)]) (st' := [.int (r3 + (s.1 185 r6.toNatClampNeg))]) (S1 := zS c s) rfl ?_
  obtain rfl := Option.some.inj h
  exact zq_iret rfl
def fX12_yetBy_J25 (n : Nat) (s : zs) : Option Int32 := some (1000000 : Int32)
theorem tX12_yetBy_J25 {n : Nat} {c : Nat × Nat} {s : zs} {r : Int32} (h : fX12_yetBy_J25 n s = some r) : zr kX12_yetBy 1 2 25 [none, none, none, none, none] [] (zS c s) (some (.int r)) (zS c s) := by
  unfold fX12_yetBy_J25 at h
  refine zr_many 1 (pc' := 28) (L' := [none, none, none, none, none]) (st' := [.int (1000000 : Int32)]) (S1 := zS c s) rfl ?_
  obtain rfl := Option.some.inj h
  exact zq_iret rfl
def fX12_yetBy (n : Nat) (s : zs) (x1 : Int32) (x2 : Int32) (x3 : Int32) (x4 : Int32) : Option Int32 := if ¬ x4 = (1 : Int32) then if ¬ x2 = (s.1 161 43) then fX12_yetBy_J29 n s x1 x2 x3 x4 else fX12_yetBy_J25 n s else if ¬ x1 = (s.1 161 42) then fX12_yetBy_J29 n s x1 x2 x3 x4 else fX12_yetBy_J25 n s
theorem tX12_yetBy {n : Nat} {c : Nat × Nat} {s : zs} {x1 : Int32} {x2 : Int32} {x3 : Int32} {x4 : Int32} {r : Int32} (h : fX12_yetBy n s x1 x2 x3 x4 = some r) : zc 3 2489 [.ref 161, .int x1, .int x2, .int x3, .int x4] (zS c s) (some (.int r)) (zS c s) := by
  refine zc_of (k := kX12_yetBy) (rt := 1) (L := [some (.ref 161), some (.int x1), some (.int x2), some (.int x3), some (.int x4)]) zm_2489.1 rfl rfl (by decide) rfl rfl ?_
  unfold fX12_yetBy at h
  refine zr_many 2 (pc' := 3) (L' := [some (.ref 161), some (.int x1), some (.int x2), some (.int x3), some (.int x4)]) (st' := [.int (1 : Int32), .int x4]) (S1 := zS c s) rfl ?_
  refine zq_if2 (b := ¬ x4 = (1 : Int32)) rfl Iff.rfl rfl (fun g1 => ?_) (fun g1 => ?_)
  · rw [if_pos g1] at h
    refine zr_many 2 (pc' := 19) (L' := [some (.ref 161), some (.int x1), some (.int x2), some (.int x3), some (.int x4)]) (st' := [.ref 161, .int x2]) (S1 := zS c s) rfl ?_
    refine zq_get rfl (zh_161 _) rfl rfl rfl ?_
    refine zq_if2 (b := ¬ x2 = (s.1 161 43)) rfl Iff.rfl rfl (fun g2 => ?_) (fun g2 => ?_)
    · rw [if_pos g2] at h
      exact zr_wk [some (.ref 161), some (.int x1), some (.int x2), some (.int x3), some (.int x4)] ⟨rfl, rfl, rfl, rfl, rfl, trivial⟩ (tX12_yetBy_J29 h)
    · rw [if_neg g2] at h
      exact zr_wk [none, none, none, none, none] trivial (tX12_yetBy_J25 h)
  · rw [if_neg g1] at h
    refine zr_many 2 (pc' := 8) (L' := [some (.ref 161), some (.int x1), some (.int x2), some (.int x3), some (.int x4)]) (st' := [.ref 161, .int x1]) (S1 := zS c s) rfl ?_
    refine zq_get rfl (zh_161 _) rfl rfl rfl ?_
    refine zq_if2 (b := ¬ x1 = (s.1 161 42)) rfl Iff.rfl rfl (fun g10 => ?_) (fun g10 => ?_)
    · rw [if_pos g10] at h
      exact zr_wk [some (.ref 161), some (.int x1), some (.int x2), some (.int x3), some (.int x4)] ⟨rfl, rfl, rfl, rfl, rfl, trivial⟩ (tX12_yetBy_J29 h)
    · rw [if_neg g10] at h
      refine zr_many 1 (pc' := 25) (L' := [some (.ref 161), some (.int x1), some (.int x2), some (.int x3), some (.int x4)]) (st' := []) (S1 := zS c s) rfl ?_
      exact zr_wk [none, none, none, none, none] trivial (tX12_yetBy_J25 h)
def fX12_laysQueue_J78 (n : Nat) (s : zs) (x1 : Int32) (x2 : Int32) (x3 : Int32) (y1 : Int32) (y2 : Int32) : Option ((Int32 × zs) ⊕ (zs)) := cond (zi_in y1 450) (some (Sum.inl ((x3 + (1 : Int32)), (zsi s 185 y1.toNatClampNeg y2)))) none
theorem tX12_laysQueue_J78 {n : Nat} {c : Nat × Nat} {s : zs} {x1 : Int32} {x2 : Int32} {x3 : Int32} {y1 : Int32} {y2 : Int32} {o : _} {v : Option Value} {S' : zi_S} (h : fX12_laysQueue_J78 n s x1 x2 x3 y1 y2 = some o) (hn : ∀ w20, o = Sum.inl w20 → zr kX12_laysQueue 0 3 20 [some (.ref 161), some (.int x1), some (.int x2), some (.int w20.1), none] [] (zS c w20.2) v S') (hx : ∀ z, o = Sum.inr z → (fun z => zr kX12_laysQueue 0 3 85 [some (.ref 161), some (.int x1), some (.int x2), none, none] [] (zS c z) v S') z) : zr kX12_laysQueue 0 3 78 [some (.ref 161), some (.int x1), some (.int x2), some (.int x3), none] [.int y2, .int y1, .ref 185] (zS c s) v S' := by
  unfold fX12_laysQueue_J78 at h
  obtain ⟨g14, h⟩ := zi_cond_inv h
  refine zq_ist rfl zh_185 rfl g14 rfl ?_
  refine zr_many 2 (pc' := 20) (L' := [some (.ref 161), some (.int x1), some (.int x2), some (.int (x3 + (1 : Int32))), none]) (st' := []) (S1 := zS c (zsi s 185 y1.toNatClampNeg y2)) rfl ?_
  obtain rfl := Option.some.inj h
  exact zr_wk [some (.ref 161), some (.int x1), some (.int x2), some (.int (x3 + (1 : Int32))), none] ⟨rfl, rfl, rfl, rfl, trivial⟩ (hn ((x3 + (1 : Int32)), (zsi s 185 y1.toNatClampNeg y2)) rfl)
def fX12_laysQueue_J76 (n : Nat) (s : zs) (x1 : Int32) (x2 : Int32) (x3 : Int32) (x4 : Int32) (y1 : Int32) : Option ((Int32 × zs) ⊕ (zs)) := fX12_laysQueue_J78 n s x1 x2 x3 y1 x4
theorem tX12_laysQueue_J76 {n : Nat} {c : Nat × Nat} {s : zs} {x1 : Int32} {x2 : Int32} {x3 : Int32} {x4 : Int32} {y1 : Int32} {o : _} {v : Option Value} {S' : zi_S} (h : fX12_laysQueue_J76 n s x1 x2 x3 x4 y1 = some o) (hn : ∀ w20, o = Sum.inl w20 → zr kX12_laysQueue 0 3 20 [some (.ref 161), some (.int x1), some (.int x2), some (.int w20.1), none] [] (zS c w20.2) v S') (hx : ∀ z, o = Sum.inr z → (fun z => zr kX12_laysQueue 0 3 85 [some (.ref 161), some (.int x1), some (.int x2), none, none] [] (zS c z) v S') z) : zr kX12_laysQueue 0 3 76 [some (.ref 161), some (.int x1), some (.int x2), some (.int x3), some (.int x4)] [.int y1, .ref 185] (zS c s) v S' := by
  unfold fX12_laysQueue_J76 at h
  refine zr_many 1 (pc' := 78) (L' := [some (.ref 161), some (.int x1), some (.int x2), some (.int x3), some (.int x4)]) (st' := [.int x4, .int y1, .ref 185]) (S1 := zS c s) rfl ?_
  exact zr_wk [some (.ref 161), some (.int x1), some (.int x2), some (.int x3), none] ⟨rfl, rfl, rfl, rfl, trivial⟩ (tX12_laysQueue_J78 h hn hx)
def fX12_laysQueue_B20 (n : Nat) (x1 : Int32) (x2 : Int32) (w20 : Int32 × zs) : Option ((Int32 × zs) ⊕ (zs)) := if (2 : Int32) ≤ w20.1 then some (Sum.inr w20.2) else zp (fX12_yetBy n w20.2 x1 x2 w20.1 (0 : Int32)) (fun r4 => zp (fX12_yetBy n w20.2 x1 x2 w20.1 (1 : Int32)) (fun r7 => zp (fX12_spot n w20.2 x1 x2 w20.1) (fun r10 => if ¬ x1 = (w20.2.1 161 42) then fX12_laysQueue_J76 n w20.2 x1 x2 w20.1 (if r7 < r4 then r7 else r4) r10 else if ¬ x2 = (w20.2.1 161 43) then fX12_laysQueue_J76 n w20.2 x1 x2 w20.1 (if r7 < r4 then r7 else r4) r10 else fX12_laysQueue_J78 n w20.2 x1 x2 w20.1 r10 (0 : Int32))))
theorem tX12_laysQueue_B20 {n : Nat} {c : Nat × Nat} {x1 : Int32} {x2 : Int32} {w20 : Int32 × zs} {o : _} {v : Option Value} {S' : zi_S} (h : fX12_laysQueue_B20 n x1 x2 w20 = some o) (hn : ∀ w20, o = Sum.inl w20 → zr kX12_laysQueue 0 3 20 [some (.ref 161), some (.int x1), some (.int x2), some (.int w20.1), none] [] (zS c w20.2) v S') (hx : ∀ z, o = Sum.inr z → (fun z => zr kX12_laysQueue 0 3 85 [some (.ref 161), some (.int x1), some (.int x2), none, none] [] (zS c z) v S') z) : zr kX12_laysQueue 0 3 20 [some (.ref 161), some (.int x1), some (.int x2), some (.int w20.1), none] [] (zS c w20.2) v S' := by
  unfold fX12_laysQueue_B20 at h
  refine zr_many 2 (pc' := 22) (L' := [some (.ref 161), some (.int x1), some (.int x2), some (.int w20.1), none]) (st' := [.int (2 : Int32), .int w20.1]) (S1 := zS c w20.2) rfl ?_
  refine zq_if2 (b := (2 : Int32) ≤ w20.1) rfl Iff.rfl rfl (fun g3 => ?_) (fun g3 => ?_)
  · rw [if_pos g3] at h
    obtain rfl := Option.some.inj h
    exact zr_wk [some (.ref 161), some (.int x1), some (.int x2), none, none] ⟨rfl, rfl, rfl, trivial⟩ (hx w20.2 rfl)
  · rw [if_neg g3] at h
    refine zr_many 5 (pc' := 30) (L' := [some (.ref 161), some (.int x1), some (.int x2), some (.int w20.1), none]) (st' := [.int (0 : Int32), .int w20.1, .int x2, .int x1, .ref 161]) (S1 := zS c w20.2) rfl ?_
    obtain ⟨r4, g6, h⟩ := zp_inv h
    refine zq_call1 rfl rfl (zh_161 _) rfl rfl rfl (tX12_yetBy g6) rfl ?_
    refine zr_many 5 (pc' := 38) (L' := [some (.ref 161), some (.int x1), some (.int x2), some (.int w20.1), none]) (st' := [.int (1 : Int32), .int w20.1, .int x2, .int x1, .ref 161, .int r4]) (S1 := zS c w20.2) rfl ?_
    obtain ⟨r7, g9, h⟩ := zp_inv h
    refine zq_call1 rfl rfl (zh_161 _) rfl rfl rfl (tX12_yetBy g9) rfl ?_
    refine zr_many 3 (pc' := 47) (L' := [some (.ref 161), some (.int x1), some (.int x2), some (.int w20.1), some (.int (if r7 < r4 then r7 else r4))]) (st' := [.ref 161]) (S1 := zS c w20.2) rfl ?_
    refine zq_get rfl (zh_161 _) rfl rfl rfl ?_
    refine zr_many 3 (pc' := 53) (L' := [some (.ref 161), some (.int x1), some (.int x2), some (.int w20.1), some (.int (if r7 < r4 then r7 else r4))]) (st' := [.int w20.1, .int x2, .int x1, .ref 185]) (S1 := zS c w20.2) rfl ?_
    obtain ⟨r10, g12, h⟩ := zp_inv h
    refine zq_scall1 rfl (by decide) rfl rfl ((tX12_spot g12).up (by decide)) rfl ?_
    refine zr_many 2 (pc' := 58) (L' := [some (.ref 161), some (.int x1), some (.int x2), some (.int w20.1), some (.int (if r7 < r4 then r7 else r4))]) (st' := [.ref 161, .int x1, .int r10, .ref 185]) (S1 := zS c w20.2) rfl ?_
    refine zq_get rfl (zh_161 _) rfl rfl rfl ?_
    refine zq_if2 (b := ¬ x1 = (w20.2.1 161 42)) rfl Iff.rfl rfl (fun g13 => ?_) (fun g13 => ?_)
    · rw [if_pos g13] at h
      exact zr_wk [some (.ref 161), some (.int x1), some (.int x2), some (.int w20.1), some (.int (if r7 < r4 then r7 else r4))] ⟨rfl, rfl, rfl, rfl, rfl, trivial⟩ (tX12_laysQueue_J76 h hn hx)
    · rw [if_neg g13] at h
      refine zr_many 2 (pc' := 66) (L' := [some (.ref 161), some (.int x1), some (.int x2), some (.int w20.1), some (.int (if r7 < r4 then r7 else r4))]) (st' := [.ref 161, .int x2, .int r10, .ref 185]) (S1 := zS c w20.2) rfl ?_
      refine zq_get rfl (zh_161 _) rfl rfl rfl ?_
      refine zq_if2 (b := ¬ x2 = (w20.2.1 161 43)) rfl Iff.rfl rfl (fun g15 => ?_) (fun g15 => ?_)
      · rw [if_pos g15] at h
        exact zr_wk [some (.ref 161), some (.int x1), some (.int x2), some (.int w20.1), some (.int (if r7 < r4 then r7 else r4))] ⟨rfl, rfl, rfl, rfl, rfl, trivial⟩ (tX12_laysQueue_J76 h hn hx)
      · rw [if_neg g15] at h
        refine zr_many 2 (pc' := 78) (L' := [some (.ref 161), some (.int x1), some (.int x2), some (.int w20.1), some (.int (if r7 < r4 then r7 else r4))]) (st' := [.int (0 : Int32), .int r10, .ref 185]) (S1 := zS c w20.2) rfl ?_
        exact zr_wk [some (.ref 161), some (.int x1), some (.int x2), some (.int w20.1), none] ⟨rfl, rfl, rfl, rfl, trivial⟩ (tX12_laysQueue_J78 h hn hx)
def fX12_laysQueue_B14 (n : Nat) (x1 : Int32) (w14 : Int32 × zs) : Option ((Int32 × zs) ⊕ (zs)) := if w14.1 < 0 then some (Sum.inr w14.2) else zp (zl (fX12_laysQueue_B20 n x1 w14.1) n ((0 : Int32), w14.2)) (fun w16 => some (Sum.inl ((w14.1 + (-1 : Int32)), w16)))
theorem tX12_laysQueue_B14 {n : Nat} {c : Nat × Nat} {x1 : Int32} {w14 : Int32 × zs} {o : _} {v : Option Value} {S' : zi_S} (h : fX12_laysQueue_B14 n x1 w14 = some o) (hn : ∀ w14, o = Sum.inl w14 → zr kX12_laysQueue 0 3 14 [some (.ref 161), some (.int x1), some (.int w14.1), none, none] [] (zS c w14.2) v S') (hx : ∀ z, o = Sum.inr z → (fun z => zr kX12_laysQueue 0 3 91 [some (.ref 161), some (.int x1), none, none, none] [] (zS c z) v S') z) : zr kX12_laysQueue 0 3 14 [some (.ref 161), some (.int x1), some (.int w14.1), none, none] [] (zS c w14.2) v S' := by
  unfold fX12_laysQueue_B14 at h
  refine zr_many 1 (pc' := 15) (L' := [some (.ref 161), some (.int x1), some (.int w14.1), none, none]) (st' := [.int w14.1]) (S1 := zS c w14.2) rfl ?_
  refine zq_if1 (b := w14.1 < 0) rfl Iff.rfl rfl (fun g2 => ?_) (fun g2 => ?_)
  · rw [if_pos g2] at h
    obtain rfl := Option.some.inj h
    exact zr_wk [some (.ref 161), some (.int x1), none, none, none] ⟨rfl, rfl, trivial⟩ (hx w14.2 rfl)
  · rw [if_neg g2] at h
    refine zr_many 2 (pc' := 20) (L' := [some (.ref 161), some (.int x1), some (.int w14.1), some (.int (0 : Int32)), none]) (st' := []) (S1 := zS c w14.2) rfl ?_
    obtain ⟨w16, g17, h⟩ := zp_inv h
    refine zr_wk [some (.ref 161), some (.int x1), some (.int w14.1), some (.int (0 : Int32)), none] ⟨rfl, rfl, rfl, rfl, trivial⟩ (zl_cert (Z := fun w20 => zr kX12_laysQueue 0 3 20 [some (.ref 161), some (.int x1), some (.int w14.1), some (.int w20.1), none] [] (zS c w20.2) _ _) (Y := (fun z => zr kX12_laysQueue 0 3 85 [some (.ref 161), some (.int x1), some (.int w14.1), none, none] [] (zS c z) _ _)) (fun w o h1 h2 h3 => tX12_laysQueue_B20 h1 h2 h3) n _ _ g17 ?_)
    show zr kX12_laysQueue 0 3 85 [some (.ref 161), some (.int x1), some (.int w14.1), none, none] [] (zS c w16) _ _
    refine zr_many 2 (pc' := 14) (L' := [some (.ref 161), some (.int x1), some (.int (w14.1 + (-1 : Int32))), none, none]) (st' := []) (S1 := zS c w16) rfl ?_
    obtain rfl := Option.some.inj h
    exact zr_wk [some (.ref 161), some (.int x1), some (.int (w14.1 + (-1 : Int32))), none, none] ⟨rfl, rfl, rfl, trivial⟩ (hn ((w14.1 + (-1 : Int32)), w16) rfl)
def fX12_laysQueue_B5 (n : Nat) (w5 : Int32 × zs) : Option ((Int32 × zs) ⊕ (zs)) := if w5.1 < 0 then some (Sum.inr w5.2) else zp (zl (fX12_laysQueue_B14 n w5.1) n ((w5.2.1 161 43), w5.2)) (fun w18 => some (Sum.inl ((w5.1 + (-1 : Int32)), w18)))
theorem tX12_laysQueue_B5 {n : Nat} {c : Nat × Nat} {w5 : Int32 × zs} {o : _} {v : Option Value} {S' : zi_S} (h : fX12_laysQueue_B5 n w5 = some o) (hn : ∀ w5, o = Sum.inl w5 → zr kX12_laysQueue 0 3 5 [some (.ref 161), some (.int w5.1), none, none, none] [] (zS c w5.2) v S') (hx : ∀ z, o = Sum.inr z → (fun z => zr kX12_laysQueue 0 3 97 [none, none, none, none, none] [] (zS c z) v S') z) : zr kX12_laysQueue 0 3 5 [some (.ref 161), some (.int w5.1), none, none, none] [] (zS c w5.2) v S' := by
  unfold fX12_laysQueue_B5 at h
  refine zr_many 1 (pc' := 6) (L' := [some (.ref 161), some (.int w5.1), none, none, none]) (st' := [.int w5.1]) (S1 := zS c w5.2) rfl ?_
  refine zq_if1 (b := w5.1 < 0) rfl Iff.rfl rfl (fun g1 => ?_) (fun g1 => ?_)
  · rw [if_pos g1] at h
    obtain rfl := Option.some.inj h
    exact zr_wk [none, none, none, none, none] trivial (hx w5.2 rfl)
  · rw [if_neg g1] at h
    refine zr_many 1 (pc' := 10) (L' := [some (.ref 161), some (.int w5.1), none, none, none]) (st' := [.ref 161]) (S1 := zS c w5.2) rfl ?_
    refine zq_get rfl (zh_161 _) rfl rfl rfl ?_
    refine zr_many 1 (pc' := 14) (L' := [some (.ref 161), some (.int w5.1), some (.int (w5.2.1 161 43)), none, none]) (st' := []) (S1 := zS c w5.2) rfl ?_
    obtain ⟨w18, g19, h⟩ := zp_inv h
    refine zr_wk [some (.ref 161), some (.int w5.1), some (.int (w5.2.1 161 43)), none, none] ⟨rfl, rfl, rfl, trivial⟩ (zl_cert (Z := fun w14 => zr kX12_laysQueue 0 3 14 [some (.ref 161), some (.int w5.1), some (.int w14.1), none, none] [] (zS c w14.2) _ _) (Y := (fun z => zr kX12_laysQueue 0 3 91 [some (.ref 161), some (.int w5.1), none, none, none] [] (zS c z) _ _)) (fun w o h1 h2 h3 => tX12_laysQueue_B14 h1 h2 h3) n _ _ g19 ?_)
    show zr kX12_laysQueue 0 3 91 [some (.ref 161), some (.int w5.1), none, none, none] [] (zS c w18) _ _
    refine zr_many 2 (pc' := 5) (L' := [some (.ref 161), some (.int (w5.1 + (-1 : Int32))), none, none, none]) (st' := []) (S1 := zS c w18) rfl ?_
    obtain rfl := Option.some.inj h
    exact zr_wk [some (.ref 161), some (.int (w5.1 + (-1 : Int32))), none, none, none] ⟨rfl, rfl, trivial⟩ (hn ((w5.1 + (-1 : Int32)), w18) rfl)
def fX12_laysQueue (n : Nat) (s : zs) : Option zs := zp (zl (fX12_laysQueue_B5 n) n ((s.1 161 42), s)) (fun w20 => some w20)
theorem tX12_laysQueue {n : Nat} {c : Nat × Nat} {s : zs} {s' : zs} (h : fX12_laysQueue n s = some s') : zc 4 2490 [.ref 161] (zS c s) none (zS c s') := by
  refine zc_of (k := kX12_laysQueue) (rt := 0) (L := [some (.ref 161), none, none, none, none]) zm_2490.1 rfl rfl (by decide) rfl rfl ?_
  unfold fX12_laysQueue at h
  refine zr_many 1 (pc' := 1) (L' := [some (.ref 161), none, none, none, none]) (st' := [.ref 161]) (S1 := zS c s) rfl ?_
  refine zq_get rfl (zh_161 _) rfl rfl rfl ?_
  refine zr_many 1 (pc' := 5) (L' := [some (.ref 161), some (.int (s.1 161 42)), none, none, none]) (st' := []) (S1 := zS c s) rfl ?_
  obtain ⟨w20, g21, h⟩ := zp_inv h
  refine zr_wk [some (.ref 161), some (.int (s.1 161 42)), none, none, none] ⟨rfl, rfl, trivial⟩ (zl_cert (Z := fun w5 => zr kX12_laysQueue 0 3 5 [some (.ref 161), some (.int w5.1), none, none, none] [] (zS c w5.2) _ _) (Y := (fun z => zr kX12_laysQueue 0 3 97 [none, none, none, none, none] [] (zS c z) _ _)) (fun w o h1 h2 h3 => tX12_laysQueue_B5 h1 h2 h3) n _ _ g21 ?_)
  show zr kX12_laysQueue 0 3 97 [none, none, none, none, none] [] (zS c w20) _ _
  obtain rfl := Option.some.inj h
  exact zq_vret rfl
def fX12_queue_J132 (n : Nat) (s : zs) (x1 : Int32) (x2 : Int32) : Option ((Int32 × zs) ⊕ (zs)) := zp (fX12_flag n s x2) (fun r15 => some (Sum.inl (x2, (zsi s 161 18 ((s.1 161 18) + r15)))))
theorem tX12_queue_J132 {n : Nat} {c : Nat × Nat} {s : zs} {x1 : Int32} {x2 : Int32} {o : _} {v : Option Value} {S' : zi_S} (h : fX12_queue_J132 n s x1 x2 = some o) (hn : ∀ w34, o = Sum.inl w34 → zr kX12_queue 1 4 34 [some (.ref 161), some (.int x1), some (.int w34.1), none, none, none, none, none, none, none] [] (zS c w34.2) v S') (hx : ∀ z, o = Sum.inr z → (fun z => zr kX12_queue 1 4 148 [some (.ref 161), some (.int x1), none, none, none, none, none, none, none, none] [] (zS c z) v S') z) : zr kX12_queue 1 4 132 [some (.ref 161), some (.int x1), some (.int x2), none, none, none, none, none, none, none] [] (zS c s) v S' := by
  unfold fX12_queue_J132 at h
  refine zr_many 2 (pc' := 134) (L' := [some (.ref 161), some (.int x1), some (.int x2), none, none, none, none, none, none, none]) (st' := [.ref 161, .ref 161]) (S1 := zS c s) rfl ?_
  refine zq_get rfl (zh_161 _) rfl rfl rfl ?_
  refine zr_many 1 (pc' := 138) (L' := [some (.ref 161), some (.int x1), some (.int x2), none, none, none, none, none, none, none]) (st' := [.int x2, .int (s.1 161 18), .ref 161]) (S1 := zS c s) rfl ?_
  obtain ⟨r15, g17, h⟩ := zp_inv h
  refine zq_scall1 rfl (by decide) rfl rfl ((tX12_flag g17).up (by decide)) rfl ?_
  refine zr_many 1 (pc' := 142) (L' := [some (.ref 161), some (.int x1), some (.int x2), none, none, none, none, none, none, none]) (st' := [.int ((s.1 161 18) + r15), .ref 161]) (S1 := zS c s) rfl ?_
  refine zq_put (s' := (zsi s 161 18 ((s.1 161 18) + r15))) rfl (zh_161 _) rfl rfl rfl rfl zsi_ne rfl ?_
  refine zr_many 1 (pc' := 34) (L' := [some (.ref 161), some (.int x1), some (.int x2), none, none, none, none, none, none, none]) (st' := []) (S1 := zS c (zsi s 161 18 ((s.1 161 18) + r15))) rfl ?_
  obtain rfl := Option.some.inj h
  exact zr_wk [some (.ref 161), some (.int x1), some (.int x2), none, none, none, none, none, none, none] ⟨rfl, rfl, rfl, trivial⟩ (hn (x2, (zsi s 161 18 ((s.1 161 18) + r15))) rfl)
def fX12_queue_J73 (n : Nat) (s : zs) (x1 : Int32) (x3 : Int32) (y0 : Int32) : Option ((Int32 × zs) ⊕ (zs)) := if ¬ x3 = (1 : Int32) then if ¬ x3 = 0 then fX12_queue_J132 n s x1 y0 else cond (zi_in (s.1 161 43) 14) (zt (zsi s 184 (s.1 161 43).toNatClampNeg (s.1 161 18)) (fun s18 => fX12_queue_J132 n (zsi s18 161 43 ((s18.1 161 43) + (1 : Int32))) x1 y0)) none else cond (zi_in (s.1 161 42) 14) (zt (zsi s 183 (s.1 161 42).toNatClampNeg (s.1 161 18)) (fun s20 => fX12_queue_J132 n (zsi s20 161 42 ((s20.1 161 42) + (1 : Int32))) x1 y0)) none
theorem tX12_queue_J73 {n : Nat} {c : Nat × Nat} {s : zs} {x1 : Int32} {x3 : Int32} {y0 : Int32} {o : _} {v : Option Value} {S' : zi_S} (h : fX12_queue_J73 n s x1 x3 y0 = some o) (hn : ∀ w34, o = Sum.inl w34 → zr kX12_queue 1 4 34 [some (.ref 161), some (.int x1), some (.int w34.1), none, none, none, none, none, none, none] [] (zS c w34.2) v S') (hx : ∀ z, o = Sum.inr z → (fun z => zr kX12_queue 1 4 148 [some (.ref 161), some (.int x1), none, none, none, none, none, none, none, none] [] (zS c z) v S') z) : zr kX12_queue 1 4 73 [some (.ref 161), some (.int x1), none, some (.int x3), none, none, none, none, none, none] [.int y0] (zS c s) v S' := by
  unfold fX12_queue_J73 at h
  refine zr_many 3 (pc' := 76) (L' := [some (.ref 161), some (.int x1), some (.int y0), some (.int x3), none, none, none, none, none, none]) (st' := [.int (1 : Int32), .int x3]) (S1 := zS c s) rfl ?_
  refine zq_if2 (b := ¬ x3 = (1 : Int32)) rfl Iff.rfl rfl (fun g13 => ?_) (fun g13 => ?_)
  · rw [if_pos g13] at h
    refine zr_many 1 (pc' := 106) (L' := [some (.ref 161), some (.int x1), some (.int y0), some (.int x3), none, none, none, none, none, none]) (st' := [.int x3]) (S1 := zS c s) rfl ?_
    refine zq_if1 (b := ¬ x3 = 0) rfl Iff.rfl rfl (fun g14 => ?_) (fun g14 => ?_)
    · rw [if_pos g14] at h
      exact zr_wk [some (.ref 161), some (.int x1), some (.int y0), none, none, none, none, none, none, none] ⟨rfl, rfl, rfl, trivial⟩ (tX12_queue_J132 h hn hx)
    · rw [if_neg g14] at h
      refine zr_many 1 (pc' := 110) (L' := [some (.ref 161), some (.int x1), some (.int y0), some (.int x3), none, none, none, none, none, none]) (st' := [.ref 161]) (S1 := zS c s) rfl ?_
      refine zq_get rfl (zh_161 _) rfl rfl rfl ?_
      refine zr_many 1 (pc' := 114) (L' := [some (.ref 161), some (.int x1), some (.int y0), some (.int x3), none, none, none, none, none, none]) (st' := [.ref 161, .ref 184]) (S1 := zS c s) rfl ?_
      refine zq_get rfl (zh_161 _) rfl rfl rfl ?_
      refine zr_many 1 (pc' := 118) (L' := [some (.ref 161), some (.int x1), some (.int y0), some (.int x3), none, none, none, none, none, none]) (st' := [.ref 161, .int (s.1 161 43), .ref 184]) (S1 := zS c s) rfl ?_
      refine zq_get rfl (zh_161 _) rfl rfl rfl ?_
      obtain ⟨g22, h⟩ := zi_cond_inv h
      refine zq_ist rfl zh_184 rfl g22 rfl ?_
      refine zr_many 2 (pc' := 124) (L' := [some (.ref 161), some (.int x1), some (.int y0), some (.int x3), none, none, none, none, none, none]) (st' := [.ref 161, .ref 161]) (S1 := zS c (zsi s 184 (s.1 161 43).toNatClampNeg (s.1 161 18))) rfl ?_
      refine zq_get rfl (zh_161 _) rfl rfl rfl ?_
      refine zr_many 2 (pc' := 129) (L' := [some (.ref 161), some (.int x1), some (.int y0), some (.int x3), none, none, none, none, none, none]) (st' := [.int (((zsi s 184 (s.1 161 43).toNatClampNeg (s.1 161 18)).1 161 43) + (1 : Int32)), .ref 161]) (S1 := zS c (zsi s 184 (s.1 161 43).toNatClampNeg (s.1 161 18))) rfl ?_
      obtain ⟨s18, e19, h⟩ := zt_in h
      rw [← e19]
      refine zq_put (s' := (zsi s18 161 43 ((s18.1 161 43) + (1 : Int32)))) rfl (zh_161 _) rfl rfl rfl rfl zsi_ne rfl ?_
      exact zr_wk [some (.ref 161), some (.int x1), some (.int y0), none, none, none, none, none, none, none] ⟨rfl, rfl, rfl, trivial⟩ (tX12_queue_J132 h hn hx)
  · rw [if_neg g13] at h
    refine zr_many 1 (pc' := 80) (L' := [some (.ref 161), some (.int x1), some (.int y0), some (.int x3), none, none, none, none, none, none]) (st' := [.ref 161]) (S1 := zS c s) rfl ?_
    refine zq_get rfl (zh_161 _) rfl rfl rfl ?_
    refine zr_many 1 (pc' := 84) (L' := [some (.ref 161), some (.int x1), some (.int y0), some (.int x3), none, none, none, none, none, none]) (st' := [.ref 161, .ref 183]) (S1 := zS c s) rfl ?_
    refine zq_get rfl (zh_161 _) rfl rfl rfl ?_
    refine zr_many 1 (pc' := 88) (L' := [some (.ref 161), some (.int x1), some (.int y0), some (.int x3), none, none, none, none, none, none]) (st' := [.ref 161, .int (s.1 161 42), .ref 183]) (S1 := zS c s) rfl ?_
    refine zq_get rfl (zh_161 _) rfl rfl rfl ?_
    obtain ⟨g23, h⟩ := zi_cond_inv h
    refine zq_ist rfl zh_183 rfl g23 rfl ?_
    refine zr_many 2 (pc' := 94) (L' := [some (.ref 161), some (.int x1), some (.int y0), some (.int x3), none, none, none, none, none, none]) (st' := [.ref 161, .ref 161]) (S1 := zS c (zsi s 183 (s.1 161 42).toNatClampNeg (s.1 161 18))) rfl ?_
    refine zq_get rfl (zh_161 _) rfl rfl rfl ?_
    refine zr_many 2 (pc' := 99) (L' := [some (.ref 161), some (.int x1), some (.int y0), some (.int x3), none, none, none, none, none, none]) (st' := [.int (((zsi s 183 (s.1 161 42).toNatClampNeg (s.1 161 18)).1 161 42) + (1 : Int32)), .ref 161]) (S1 := zS c (zsi s 183 (s.1 161 42).toNatClampNeg (s.1 161 18))) rfl ?_
    obtain ⟨s20, e21, h⟩ := zt_in h
    rw [← e21]
    refine zq_put (s' := (zsi s20 161 42 ((s20.1 161 42) + (1 : Int32)))) rfl (zh_161 _) rfl rfl rfl rfl zsi_ne rfl ?_
    refine zr_many 1 (pc' := 132) (L' := [some (.ref 161), some (.int x1), some (.int y0), some (.int x3), none, none, none, none, none, none]) (st' := []) (S1 := zS c (zsi s20 161 42 ((s20.1 161 42) + (1 : Int32)))) rfl ?_
    exact zr_wk [some (.ref 161), some (.int x1), some (.int y0), none, none, none, none, none, none, none] ⟨rfl, rfl, rfl, trivial⟩ (tX12_queue_J132 h hn hx)
def fX12_queue_J63 (n : Nat) (s : zs) (x1 : Int32) (y0 : Int32) : Option ((Int32 × zs) ⊕ (zs)) := if y0 < 0 then fX12_queue_J73 n s x1 y0 (0 : Int32) else fX12_queue_J73 n s x1 y0 (1 : Int32)
theorem tX12_queue_J63 {n : Nat} {c : Nat × Nat} {s : zs} {x1 : Int32} {y0 : Int32} {o : _} {v : Option Value} {S' : zi_S} (h : fX12_queue_J63 n s x1 y0 = some o) (hn : ∀ w34, o = Sum.inl w34 → zr kX12_queue 1 4 34 [some (.ref 161), some (.int x1), some (.int w34.1), none, none, none, none, none, none, none] [] (zS c w34.2) v S') (hx : ∀ z, o = Sum.inr z → (fun z => zr kX12_queue 1 4 148 [some (.ref 161), some (.int x1), none, none, none, none, none, none, none, none] [] (zS c z) v S') z) : zr kX12_queue 1 4 63 [some (.ref 161), some (.int x1), none, none, none, none, none, none, none, none] [.int y0] (zS c s) v S' := by
  unfold fX12_queue_J63 at h
  refine zr_many 2 (pc' := 65) (L' := [some (.ref 161), some (.int x1), none, some (.int y0), none, none, none, none, none, none]) (st' := [.int y0]) (S1 := zS c s) rfl ?_
  refine zq_if1 (b := y0 < 0) rfl Iff.rfl rfl (fun g12 => ?_) (fun g12 => ?_)
  · rw [if_pos g12] at h
    refine zr_many 1 (pc' := 73) (L' := [some (.ref 161), some (.int x1), none, some (.int y0), none, none, none, none, none, none]) (st' := [.int (0 : Int32)]) (S1 := zS c s) rfl ?_
    exact zr_wk [some (.ref 161), some (.int x1), none, some (.int y0), none, none, none, none, none, none] ⟨rfl, rfl, rfl, trivial⟩ (tX12_queue_J73 h hn hx)
  · rw [if_neg g12] at h
    refine zr_many 2 (pc' := 73) (L' := [some (.ref 161), some (.int x1), none, some (.int y0), none, none, none, none, none, none]) (st' := [.int (1 : Int32)]) (S1 := zS c s) rfl ?_
    exact zr_wk [some (.ref 161), some (.int x1), none, some (.int y0), none, none, none, none, none, none] ⟨rfl, rfl, rfl, trivial⟩ (tX12_queue_J73 h hn hx)
def fX12_queue_B34 (n : Nat) (x1 : Int32) (w34 : Int32 × zs) : Option ((Int32 × zs) ⊕ (zs)) := if w34.1 = 0 then some (Sum.inr w34.2) else if (14 : Int32) ≤ ((w34.2.1 161 42) + (w34.2.1 161 43)) then fX12_queue_J63 n w34.2 x1 (-1 : Int32) else zp (fX12_among n w34.2 (1000000 + 10)) (fun r24 => fX12_queue_J63 n w34.2 x1 r24)
theorem tX12_queue_B34 {n : Nat} {c : Nat × Nat} {x1 : Int32} {w34 : Int32 × zs} {o : _} {v : Option Value} {S' : zi_S} (h : fX12_queue_B34 n x1 w34 = some o) (hn : ∀ w34, o = Sum.inl w34 → zr kX12_queue 1 4 34 [some (.ref 161), some (.int x1), some (.int w34.1), none, none, none, none, none, none, none] [] (zS c w34.2) v S') (hx : ∀ z, o = Sum.inr z → (fun z => zr kX12_queue 1 4 148 [some (.ref 161), some (.int x1), none, none, none, none, none, none, none, none] [] (zS c z) v S') z) : zr kX12_queue 1 4 34 [some (.ref 161), some (.int x1), some (.int w34.1), none, none, none, none, none, none, none] [] (zS c w34.2) v S' := by
  unfold fX12_queue_B34 at h
  refine zr_many 1 (pc' := 35) (L' := [some (.ref 161), some (.int x1), some (.int w34.1), none, none, none, none, none, none, none]) (st' := [.int w34.1]) (S1 := zS c w34.2) rfl ?_
  refine zq_if1 (b := w34.1 = 0) rfl Iff.rfl rfl (fun g10 => ?_) (fun g10 => ?_)
  · rw [if_pos g10] at h
    obtain rfl := Option.some.inj h
    exact zr_wk [some (.ref 161), some (.int x1), none, none, none, none, none, none, none, none] ⟨rfl, rfl, trivial⟩ (hx w34.2 rfl)
  · rw [if_neg g10] at h
    refine zr_many 1 (pc' := 39) (L' := [some (.ref 161), some (.int x1), some (.int w34.1), none, none, none, none, none, none, none]) (st' := [.ref 161]) (S1 := zS c w34.2) rfl ?_
    refine zq_get rfl (zh_161 _) rfl rfl rfl ?_
    refine zr_many 1 (pc' := 43) (L' := [some (.ref 161), some (.int x1), some (.int w34.1), none, none, none, none, none, none, none]) (st' := [.ref 161, .int (w34.2.1 161 42)]) (S1 := zS c w34.2) rfl ?_
    refine zq_get rfl (zh_161 _) rfl rfl rfl ?_
    refine zr_many 2 (pc' := 49) (L' := [some (.ref 161), some (.int x1), some (.int w34.1), none, none, none, none, none, none, none]) (st' := [.int (14 : Int32), .int ((w34.2.1 161 42) + (w34.2.1 161 43))]) (S1 := zS c w34.2) rfl ?_
    refine zq_if2 (b := (14 : Int32) ≤ ((w34.2.1 161 42) + (w34.2.1 161 43))) rfl Iff.rfl rfl (fun g11 => ?_) (fun g11 => ?_)
    · rw [if_pos g11] at h
      refine zr_many 1 (pc' := 63) (L' := [some (.ref 161), some (.int x1), some (.int w34.1), none, none, none, none, none, none, none]) (st' := [.int (-1 : Int32)]) (S1 := zS c w34.2) rfl ?_
      exact zr_wk [some (.ref 161), some (.int x1), none, none, none, none, none, none, none, none] ⟨rfl, rfl, trivial⟩ (tX12_queue_J63 h hn hx)
    · rw [if_neg g11] at h
      refine zr_many 2 (pc' := 56) (L' := [some (.ref 161), some (.int x1), some (.int w34.1), none, none, none, none, none, none, none]) (st' := [.ref (1000000 + 10), .ref 161]) (S1 := zS c w34.2) rfl ?_
      obtain ⟨r24, g26, h⟩ := zp_inv h
      refine zq_call1 rfl rfl (zh_161 _) rfl rfl rfl (tX12_among zT_10 g26) rfl ?_
      refine zr_many 1 (pc' := 63) (L' := [some (.ref 161), some (.int x1), some (.int w34.1), none, none, none, none, none, none, none]) (st' := [.int r24]) (S1 := zS c w34.2) rfl ?_
      exact zr_wk [some (.ref 161), some (.int x1), none, none, none, none, none, none, none, none] ⟨rfl, rfl, trivial⟩ (tX12_queue_J63 h hn hx)
def fX12_queue_J166 (n : Nat) (s : zs) : Option (Int32 × zs) := some (((-2 : Int32) - (s.1 161 18)), s)
theorem tX12_queue_J166 {n : Nat} {c : Nat × Nat} {s : zs} {r : Int32} {s' : zs} (h : fX12_queue_J166 n s = some (r, s')) : zr kX12_queue 1 4 166 [some (.ref 161), none, none, none, none, none, none, none, none, none] [] (zS c s) (some (.int r)) (zS c s') := by
  unfold fX12_queue_J166 at h
  refine zr_many 2 (pc' := 169) (L' := [some (.ref 161), none, none, none, none, none, none, none, none, none]) (st' := [.ref 161, .int (-2 : Int32)]) (S1 := zS c s) rfl ?_
  refine zq_get rfl (zh_161 _) rfl rfl rfl ?_
  refine zr_many 1 (pc' := 173) (L' := [some (.ref 161), none, none, none, none, none, none, none, none, none]) (st' := [.int ((-2 : Int32) - (s.1 161 18))]) (S1 := zS c s) rfl ?_
  obtain ⟨rfl, rfl⟩ := Prod.mk.inj (Option.some.inj h)
  exact zq_iret rfl
def fX12_queue_J395 (n : Nat) (s : zs) (x3 : Int32) (x4 : Int32) (x9 : Int32) (y0 : Int32) (y1 : Int32) : Option ((Int32 × Int32 × Int32 × zs) ⊕ (zs)) := zp (fX12_flag n s y1) (fun r69 => zp (fX12_flag n s x9) (fun r72 => some (Sum.inl (x4, (y0 + r69), r72, s))))
theorem tX12_queue_J395 {n : Nat} {c : Nat × Nat} {s : zs} {x3 : Int32} {x4 : Int32} {x9 : Int32} {y0 : Int32} {y1 : Int32} {o : _} {v : Option Value} {S' : zi_S} (h : fX12_queue_J395 n s x3 x4 x9 y0 y1 = some o) (hn : ∀ w223, o = Sum.inl w223 → zr kX12_queue 1 4 223 [some (.ref 161), none, none, some (.int x3), some (.int w223.1), some (.int w223.2.1), some (.int w223.2.2.1), none, none, none] [] (zS c w223.2.2.2) v S') (hx : ∀ z, o = Sum.inr z → (fun z => zr kX12_queue 1 4 411 [none, none, none, some (.int x3), none, none, none, none, none, none] [] (zS c z) v S') z) : zr kX12_queue 1 4 395 [some (.ref 161), none, none, some (.int x3), some (.int x4), none, none, none, none, some (.int x9)] [.int y1, .int y0] (zS c s) v S' := by
  unfold fX12_queue_J395 at h
  obtain ⟨r69, g71, h⟩ := zp_inv h
  refine zq_scall1 rfl (by decide) rfl rfl ((tX12_flag g71).up (by decide)) rfl ?_
  refine zr_many 3 (pc' := 403) (L' := [some (.ref 161), none, none, some (.int x3), some (.int x4), some (.int (y0 + r69)), none, none, none, some (.int x9)]) (st' := [.int x9]) (S1 := zS c s) rfl ?_
  obtain ⟨r72, g74, h⟩ := zp_inv h
  refine zq_scall1 rfl (by decide) rfl rfl ((tX12_flag g74).up (by decide)) rfl ?_
  refine zr_many 2 (pc' := 223) (L' := [some (.ref 161), none, none, some (.int x3), some (.int x4), some (.int (y0 + r69)), some (.int r72), none, none, some (.int x9)]) (st' := []) (S1 := zS c s) rfl ?_
  obtain rfl := Option.some.inj h
  exact zr_wk [some (.ref 161), none, none, some (.int x3), some (.int x4), some (.int (y0 + r69)), some (.int r72), none, none, none] ⟨rfl, rfl, rfl, rfl, rfl, trivial⟩ (hn (x4, (y0 + r69), r72, s) rfl)
def fX12_queue_J370 (n : Nat) (s : zs) (x3 : Int32) (x4 : Int32) (x5 : Int32) (x9 : Int32) (y1 : Int64) : Option ((Int32 × Int32 × Int32 × zs) ⊕ (zs)) := zp (fX12_enters n s y1) (fun s63 => zp (fX12_flag n s63 x9) (fun r65 => if ¬ x9 = 0 then fX12_queue_J395 n s63 x3 (x4 + r65) x9 x5 (0 : Int32) else fX12_queue_J395 n s63 x3 (x4 + r65) x9 x5 (1 : Int32)))
theorem tX12_queue_J370 {n : Nat} {c : Nat × Nat} {s : zs} {x3 : Int32} {x4 : Int32} {x5 : Int32} {x9 : Int32} {y1 : Int64} {o : _} {v : Option Value} {S' : zi_S} (h : fX12_queue_J370 n s x3 x4 x5 x9 y1 = some o) (hn : ∀ w223, o = Sum.inl w223 → zr kX12_queue 1 4 223 [some (.ref 161), none, none, some (.int x3), some (.int w223.1), some (.int w223.2.1), some (.int w223.2.2.1), none, none, none] [] (zS c w223.2.2.2) v S') (hx : ∀ z, o = Sum.inr z → (fun z => zr kX12_queue 1 4 411 [none, none, none, some (.int x3), none, none, none, none, none, none] [] (zS c z) v S') z) : zr kX12_queue 1 4 370 [some (.ref 161), none, none, some (.int x3), some (.int x4), some (.int x5), none, none, none, some (.int x9)] [.long y1, .ref 161] (zS c s) v S' := by
  unfold fX12_queue_J370 at h
  obtain ⟨s63, g64, h⟩ := zp_inv h
  refine zq_call0 rfl rfl (zh_161 _) rfl rfl rfl ((tX12_enters g64).up (by decide)) rfl ?_
  refine zr_many 2 (pc' := 377) (L' := [some (.ref 161), none, none, some (.int x3), some (.int x4), some (.int x5), none, none, none, some (.int x9)]) (st' := [.int x9, .int x4]) (S1 := zS c s63) rfl ?_
  obtain ⟨r65, g67, h⟩ := zp_inv h
  refine zq_scall1 rfl (by decide) rfl rfl ((tX12_flag g67).up (by decide)) rfl ?_
  refine zr_many 4 (pc' := 387) (L' := [some (.ref 161), none, none, some (.int x3), some (.int (x4 + r65)), some (.int x5), none, none, none, some (.int x9)]) (st' := [.int x9, .int x5]) (S1 := zS c s63) rfl ?_
  refine zq_if1 (b := ¬ x9 = 0) rfl Iff.rfl rfl (fun g68 => ?_) (fun g68 => ?_)
  · rw [if_pos g68] at h
    refine zr_many 1 (pc' := 395) (L' := [some (.ref 161), none, none, some (.int x3), some (.int (x4 + r65)), some (.int x5), none, none, none, some (.int x9)]) (st' := [.int (0 : Int32), .int x5]) (S1 := zS c s63) rfl ?_
    exact zr_wk [some (.ref 161), none, none, some (.int x3), some (.int (x4 + r65)), none, none, none, none, some (.int x9)] ⟨rfl, rfl, rfl, rfl, trivial⟩ (tX12_queue_J395 h hn hx)
  · rw [if_neg g68] at h
    refine zr_many 2 (pc' := 395) (L' := [some (.ref 161), none, none, some (.int x3), some (.int (x4 + r65)), some (.int x5), none, none, none, some (.int x9)]) (st' := [.int (1 : Int32), .int x5]) (S1 := zS c s63) rfl ?_
    exact zr_wk [some (.ref 161), none, none, some (.int x3), some (.int (x4 + r65)), none, none, none, none, some (.int x9)] ⟨rfl, rfl, rfl, rfl, trivial⟩ (tX12_queue_J395 h hn hx)
def fX12_queue_J343 (n : Nat) (s : zs) (x3 : Int32) (x4 : Int32) (x5 : Int32) (y0 : Int32) : Option ((Int32 × Int32 × Int32 × zs) ⊕ (zs)) := if y0 = 0 then cond (zi_in x5 14) (fX12_queue_J370 n s x3 x4 x5 y0 ((s.1 184 x5.toNatClampNeg).toInt64)) none else cond (zi_in x4 14) (fX12_queue_J370 n s x3 x4 x5 y0 ((s.1 183 x4.toNatClampNeg).toInt64)) none
theorem tX12_queue_J343 {n : Nat} {c : Nat × Nat} {s : zs} {x3 : Int32} {x4 : Int32} {x5 : Int32} {y0 : Int32} {o : _} {v : Option Value} {S' : zi_S} (h : fX12_queue_J343 n s x3 x4 x5 y0 = some o) (hn : ∀ w223, o = Sum.inl w223 → zr kX12_queue 1 4 223 [some (.ref 161), none, none, some (.int x3), some (.int w223.1), some (.int w223.2.1), some (.int w223.2.2.1), none, none, none] [] (zS c w223.2.2.2) v S') (hx : ∀ z, o = Sum.inr z → (fun z => zr kX12_queue 1 4 411 [none, none, none, some (.int x3), none, none, none, none, none, none] [] (zS c z) v S') z) : zr kX12_queue 1 4 343 [some (.ref 161), none, none, some (.int x3), some (.int x4), some (.int x5), none, none, none, none] [.int y0] (zS c s) v S' := by
  unfold fX12_queue_J343 at h
  refine zr_many 3 (pc' := 348) (L' := [some (.ref 161), none, none, some (.int x3), some (.int x4), some (.int x5), none, none, none, some (.int y0)]) (st' := [.int y0, .ref 161]) (S1 := zS c s) rfl ?_
  refine zq_if1 (b := y0 = 0) rfl Iff.rfl rfl (fun g60 => ?_) (fun g60 => ?_)
  · rw [if_pos g60] at h
    refine zr_many 1 (pc' := 363) (L' := [some (.ref 161), none, none, some (.int x3), some (.int x4), some (.int x5), none, none, none, some (.int y0)]) (st' := [.ref 161, .ref 161]) (S1 := zS c s) rfl ?_
    refine zq_get rfl (zh_161 _) rfl rfl rfl ?_
    refine zr_many 1 (pc' := 368) (L' := [some (.ref 161), none, none, some (.int x3), some (.int x4), some (.int x5), none, none, none, some (.int y0)]) (st' := [.int x5, .ref 184, .ref 161]) (S1 := zS c s) rfl ?_
    obtain ⟨g61, h⟩ := zi_cond_inv h
    refine zq_ild rfl (zh_184 _) rfl g61 rfl ?_
    refine zr_many 1 (pc' := 370) (L' := [some (.ref 161), none, none, some (.int x3), some (.int x4), some (.int x5), none, none, none, some (.int y0)]) (st' := [.long (s.1 184 x5.toNatClampNeg).toInt64, .ref 161]) (S1 := zS c s) rfl ?_
    exact zr_wk [some (.ref 161), none, none, some (.int x3), some (.int x4), some (.int x5), none, none, none, some (.int y0)] ⟨rfl, rfl, rfl, rfl, rfl, trivial⟩ (tX12_queue_J370 h hn hx)
  · rw [if_neg g60] at h
    refine zr_many 1 (pc' := 352) (L' := [some (.ref 161), none, none, some (.int x3), some (.int x4), some (.int x5), none, none, none, some (.int y0)]) (st' := [.ref 161, .ref 161]) (S1 := zS c s) rfl ?_
    refine zq_get rfl (zh_161 _) rfl rfl rfl ?_
    refine zr_many 1 (pc' := 357) (L' := [some (.ref 161), none, none, some (.int x3), some (.int x4), some (.int x5), none, none, none, some (.int y0)]) (st' := [.int x4, .ref 183, .ref 161]) (S1 := zS c s) rfl ?_
    obtain ⟨g75, h⟩ := zi_cond_inv h
    refine zq_ild rfl (zh_183 _) rfl g75 rfl ?_
    refine zr_many 2 (pc' := 370) (L' := [some (.ref 161), none, none, some (.int x3), some (.int x4), some (.int x5), none, none, none, some (.int y0)]) (st' := [.long (s.1 183 x4.toNatClampNeg).toInt64, .ref 161]) (S1 := zS c s) rfl ?_
    exact zr_wk [some (.ref 161), none, none, some (.int x3), some (.int x4), some (.int x5), none, none, none, some (.int y0)] ⟨rfl, rfl, rfl, rfl, rfl, trivial⟩ (tX12_queue_J370 h hn hx)
def fX12_queue_J342 (n : Nat) (s : zs) (x3 : Int32) (x4 : Int32) (x5 : Int32) : Option ((Int32 × Int32 × Int32 × zs) ⊕ (zs)) := fX12_queue_J343 n s x3 x4 x5 (0 : Int32)
theorem tX12_queue_J342 {n : Nat} {c : Nat × Nat} {s : zs} {x3 : Int32} {x4 : Int32} {x5 : Int32} {o : _} {v : Option Value} {S' : zi_S} (h : fX12_queue_J342 n s x3 x4 x5 = some o) (hn : ∀ w223, o = Sum.inl w223 → zr kX12_queue 1 4 223 [some (.ref 161), none, none, some (.int x3), some (.int w223.1), some (.int w223.2.1), some (.int w223.2.2.1), none, none, none] [] (zS c w223.2.2.2) v S') (hx : ∀ z, o = Sum.inr z → (fun z => zr kX12_queue 1 4 411 [none, none, none, some (.int x3), none, none, none, none, none, none] [] (zS c z) v S') z) : zr kX12_queue 1 4 342 [some (.ref 161), none, none, some (.int x3), some (.int x4), some (.int x5), none, none, none, none] [] (zS c s) v S' := by
  unfold fX12_queue_J342 at h
  refine zr_many 1 (pc' := 343) (L' := [some (.ref 161), none, none, some (.int x3), some (.int x4), some (.int x5), none, none, none, none]) (st' := [.int (0 : Int32)]) (S1 := zS c s) rfl ?_
  exact zr_wk [some (.ref 161), none, none, some (.int x3), some (.int x4), some (.int x5), none, none, none, none] ⟨rfl, rfl, rfl, rfl, trivial⟩ (tX12_queue_J343 h hn hx)
def fX12_queue_J338 (n : Nat) (s : zs) (x3 : Int32) (x4 : Int32) (x5 : Int32) : Option ((Int32 × Int32 × Int32 × zs) ⊕ (zs)) := fX12_queue_J343 n s x3 x4 x5 (1 : Int32)
theorem tX12_queue_J338 {n : Nat} {c : Nat × Nat} {s : zs} {x3 : Int32} {x4 : Int32} {x5 : Int32} {o : _} {v : Option Value} {S' : zi_S} (h : fX12_queue_J338 n s x3 x4 x5 = some o) (hn : ∀ w223, o = Sum.inl w223 → zr kX12_queue 1 4 223 [some (.ref 161), none, none, some (.int x3), some (.int w223.1), some (.int w223.2.1), some (.int w223.2.2.1), none, none, none] [] (zS c w223.2.2.2) v S') (hx : ∀ z, o = Sum.inr z → (fun z => zr kX12_queue 1 4 411 [none, none, none, some (.int x3), none, none, none, none, none, none] [] (zS c z) v S') z) : zr kX12_queue 1 4 338 [some (.ref 161), none, none, some (.int x3), some (.int x4), some (.int x5), none, none, none, none] [] (zS c s) v S' := by
  unfold fX12_queue_J338 at h
  refine zr_many 2 (pc' := 343) (L' := [some (.ref 161), none, none, some (.int x3), some (.int x4), some (.int x5), none, none, none, none]) (st' := [.int (1 : Int32)]) (S1 := zS c s) rfl ?_
  exact zr_wk [some (.ref 161), none, none, some (.int x3), some (.int x4), some (.int x5), none, none, none, none] ⟨rfl, rfl, rfl, rfl, trivial⟩ (tX12_queue_J343 h hn hx)
def fX12_queue_J309 (n : Nat) (s : zs) (x3 : Int32) (x4 : Int32) (x5 : Int32) (x7 : Int32) (y0 : Int32) : Option ((Int32 × Int32 × Int32 × zs) ⊕ (zs)) := if x7 = 0 then fX12_queue_J342 n s x3 x4 x5 else if y0 = 0 then fX12_queue_J338 n s x3 x4 x5 else cond (zi_in x4 14) (cond (zi_in x5 14) (if (s.1 184 x5.toNatClampNeg) ≤ (s.1 183 x4.toNatClampNeg) then fX12_queue_J342 n s x3 x4 x5 else fX12_queue_J338 n s x3 x4 x5) none) none
theorem tX12_queue_J309 {n : Nat} {c : Nat × Nat} {s : zs} {x3 : Int32} {x4 : Int32} {x5 : Int32} {x7 : Int32} {y0 : Int32} {o : _} {v : Option Value} {S' : zi_S} (h : fX12_queue_J309 n s x3 x4 x5 x7 y0 = some o) (hn : ∀ w223, o = Sum.inl w223 → zr kX12_queue 1 4 223 [some (.ref 161), none, none, some (.int x3), some (.int w223.1), some (.int w223.2.1), some (.int w223.2.2.1), none, none, none] [] (zS c w223.2.2.2) v S') (hx : ∀ z, o = Sum.inr z → (fun z => zr kX12_queue 1 4 411 [none, none, none, some (.int x3), none, none, none, none, none, none] [] (zS c z) v S') z) : zr kX12_queue 1 4 309 [some (.ref 161), none, none, some (.int x3), some (.int x4), some (.int x5), none, some (.int x7), none, none] [.int y0] (zS c s) v S' := by
  unfold fX12_queue_J309 at h
  refine zr_many 2 (pc' := 313) (L' := [some (.ref 161), none, none, some (.int x3), some (.int x4), some (.int x5), none, some (.int x7), some (.int y0), none]) (st' := [.int x7]) (S1 := zS c s) rfl ?_
  refine zq_if1 (b := x7 = 0) rfl Iff.rfl rfl (fun g59 => ?_) (fun g59 => ?_)
  · rw [if_pos g59] at h
    exact zr_wk [some (.ref 161), none, none, some (.int x3), some (.int x4), some (.int x5), none, none, none, none] ⟨rfl, rfl, rfl, rfl, trivial⟩ (tX12_queue_J342 h hn hx)
  · rw [if_neg g59] at h
    refine zr_many 1 (pc' := 318) (L' := [some (.ref 161), none, none, some (.int x3), some (.int x4), some (.int x5), none, some (.int x7), some (.int y0), none]) (st' := [.int y0]) (S1 := zS c s) rfl ?_
    refine zq_if1 (b := y0 = 0) rfl Iff.rfl rfl (fun g76 => ?_) (fun g76 => ?_)
    · rw [if_pos g76] at h
      exact zr_wk [some (.ref 161), none, none, some (.int x3), some (.int x4), some (.int x5), none, none, none, none] ⟨rfl, rfl, rfl, rfl, trivial⟩ (tX12_queue_J338 h hn hx)
    · rw [if_neg g76] at h
      refine zr_many 1 (pc' := 322) (L' := [some (.ref 161), none, none, some (.int x3), some (.int x4), some (.int x5), none, some (.int x7), some (.int y0), none]) (st' := [.ref 161]) (S1 := zS c s) rfl ?_
      refine zq_get rfl (zh_161 _) rfl rfl rfl ?_
      refine zr_many 1 (pc' := 327) (L' := [some (.ref 161), none, none, some (.int x3), some (.int x4), some (.int x5), none, some (.int x7), some (.int y0), none]) (st' := [.int x4, .ref 183]) (S1 := zS c s) rfl ?_
      obtain ⟨g77, h⟩ := zi_cond_inv h
      refine zq_ild rfl (zh_183 _) rfl g77 rfl ?_
      refine zr_many 1 (pc' := 329) (L' := [some (.ref 161), none, none, some (.int x3), some (.int x4), some (.int x5), none, some (.int x7), some (.int y0), none]) (st' := [.ref 161, .int (s.1 183 x4.toNatClampNeg)]) (S1 := zS c s) rfl ?_
      refine zq_get rfl (zh_161 _) rfl rfl rfl ?_
      refine zr_many 1 (pc' := 334) (L' := [some (.ref 161), none, none, some (.int x3), some (.int x4), some (.int x5), none, some (.int x7), some (.int y0), none]) (st' := [.int x5, .ref 184, .int (s.1 183 x4.toNatClampNeg)]) (S1 := zS c s) rfl ?_
      obtain ⟨g78, h⟩ := zi_cond_inv h
      refine zq_ild rfl (zh_184 _) rfl g78 rfl ?_
      refine zq_if2 (b := (s.1 184 x5.toNatClampNeg) ≤ (s.1 183 x4.toNatClampNeg)) rfl Iff.rfl rfl (fun g79 => ?_) (fun g79 => ?_)
      · rw [if_pos g79] at h
        exact zr_wk [some (.ref 161), none, none, some (.int x3), some (.int x4), some (.int x5), none, none, none, none] ⟨rfl, rfl, rfl, rfl, trivial⟩ (tX12_queue_J342 h hn hx)
      · rw [if_neg g79] at h
        exact zr_wk [some (.ref 161), none, none, some (.int x3), some (.int x4), some (.int x5), none, none, none, none] ⟨rfl, rfl, rfl, rfl, trivial⟩ (tX12_queue_J338 h hn hx)
def fX12_queue_J274 (n : Nat) (s : zs) (x3 : Int32) (x4 : Int32) (x5 : Int32) (x6 : Int32) (y0 : Int32) : Option ((Int32 × Int32 × Int32 × zs) ⊕ (zs)) := zp (fX12_yetBy n s x4 x5 x6 (0 : Int32)) (fun r51 => zp (fX12_spot n s x4 x5 x6) (fun r54 => cond (zi_in r54 450) (if ¬ r51 = (s.1 185 r54.toNatClampNeg) then fX12_queue_J309 n s x3 x4 x5 y0 (0 : Int32) else fX12_queue_J309 n s x3 x4 x5 y0 (1 : Int32)) none))
theorem tX12_queue_J274 {n : Nat} {c : Nat × Nat} {s : zs} {x3 : Int32} {x4 : Int32} {x5 : Int32} {x6 : Int32} {y0 : Int32} {o : _} {v : Option Value} {S' : zi_S} (h : fX12_queue_J274 n s x3 x4 x5 x6 y0 = some o) (hn : ∀ w223, o = Sum.inl w223 → zr kX12_queue 1 4 223 [some (.ref 161), none, none, some (.int x3), some (.int w223.1), some (.int w223.2.1), some (.int w223.2.2.1), none, none, none] [] (zS c w223.2.2.2) v S') (hx : ∀ z, o = Sum.inr z → (fun z => zr kX12_queue 1 4 411 [none, none, none, some (.int x3), none, none, none, none, none, none] [] (zS c z) v S') z) : zr kX12_queue 1 4 274 [some (.ref 161), none, none, some (.int x3), some (.int x4), some (.int x5), some (.int x6), none, none, none] [.int y0] (zS c s) v S' := by
  unfold fX12_queue_J274 at h
  refine zr_many 6 (pc' := 284) (L' := [some (.ref 161), none, none, some (.int x3), some (.int x4), some (.int x5), some (.int x6), some (.int y0), none, none]) (st' := [.int (0 : Int32), .int x6, .int x5, .int x4, .ref 161]) (S1 := zS c s) rfl ?_
  obtain ⟨r51, g53, h⟩ := zp_inv h
  refine zq_call1 rfl rfl (zh_161 _) rfl rfl rfl ((tX12_yetBy g53).up (by decide)) rfl ?_
  refine zr_many 1 (pc' := 288) (L' := [some (.ref 161), none, none, some (.int x3), some (.int x4), some (.int x5), some (.int x6), some (.int y0), none, none]) (st' := [.ref 161, .int r51]) (S1 := zS c s) rfl ?_
  refine zq_get rfl (zh_161 _) rfl rfl rfl ?_
  refine zr_many 3 (pc' := 297) (L' := [some (.ref 161), none, none, some (.int x3), some (.int x4), some (.int x5), some (.int x6), some (.int y0), none, none]) (st' := [.int x6, .int x5, .int x4, .ref 185, .int r51]) (S1 := zS c s) rfl ?_
  obtain ⟨r54, g56, h⟩ := zp_inv h
  refine zq_scall1 rfl (by decide) rfl rfl ((tX12_spot g56).up (by decide)) rfl ?_
  obtain ⟨g57, h⟩ := zi_cond_inv h
  refine zq_ild rfl (zh_185 _) rfl g57 rfl ?_
  refine zq_if2 (b := ¬ r51 = (s.1 185 r54.toNatClampNeg)) rfl Iff.rfl rfl (fun g58 => ?_) (fun g58 => ?_)
  · rw [if_pos g58] at h
    refine zr_many 1 (pc' := 309) (L' := [some (.ref 161), none, none, some (.int x3), some (.int x4), some (.int x5), some (.int x6), some (.int y0), none, none]) (st' := [.int (0 : Int32)]) (S1 := zS c s) rfl ?_
    exact zr_wk [some (.ref 161), none, none, some (.int x3), some (.int x4), some (.int x5), none, some (.int y0), none, none] ⟨rfl, rfl, rfl, rfl, rfl, trivial⟩ (tX12_queue_J309 h hn hx)
  · rw [if_neg g58] at h
    refine zr_many 2 (pc' := 309) (L' := [some (.ref 161), none, none, some (.int x3), some (.int x4), some (.int x5), some (.int x6), some (.int y0), none, none]) (st' := [.int (1 : Int32)]) (S1 := zS c s) rfl ?_
    exact zr_wk [some (.ref 161), none, none, some (.int x3), some (.int x4), some (.int x5), none, some (.int y0), none, none] ⟨rfl, rfl, rfl, rfl, rfl, trivial⟩ (tX12_queue_J309 h hn hx)
def fX12_queue_J241 (n : Nat) (s : zs) (x3 : Int32) (x4 : Int32) (x5 : Int32) (x6 : Int32) : Option ((Int32 × Int32 × Int32 × zs) ⊕ (zs)) := zp (fX12_yetBy n s x4 x5 x6 (1 : Int32)) (fun r43 => zp (fX12_spot n s x4 x5 x6) (fun r46 => cond (zi_in r46 450) (if ¬ r43 = (s.1 185 r46.toNatClampNeg) then fX12_queue_J274 n s x3 x4 x5 x6 (0 : Int32) else fX12_queue_J274 n s x3 x4 x5 x6 (1 : Int32)) none))
theorem tX12_queue_J241 {n : Nat} {c : Nat × Nat} {s : zs} {x3 : Int32} {x4 : Int32} {x5 : Int32} {x6 : Int32} {o : _} {v : Option Value} {S' : zi_S} (h : fX12_queue_J241 n s x3 x4 x5 x6 = some o) (hn : ∀ w223, o = Sum.inl w223 → zr kX12_queue 1 4 223 [some (.ref 161), none, none, some (.int x3), some (.int w223.1), some (.int w223.2.1), some (.int w223.2.2.1), none, none, none] [] (zS c w223.2.2.2) v S') (hx : ∀ z, o = Sum.inr z → (fun z => zr kX12_queue 1 4 411 [none, none, none, some (.int x3), none, none, none, none, none, none] [] (zS c z) v S') z) : zr kX12_queue 1 4 241 [some (.ref 161), none, none, some (.int x3), some (.int x4), some (.int x5), some (.int x6), none, none, none] [] (zS c s) v S' := by
  unfold fX12_queue_J241 at h
  refine zr_many 5 (pc' := 249) (L' := [some (.ref 161), none, none, some (.int x3), some (.int x4), some (.int x5), some (.int x6), none, none, none]) (st' := [.int (1 : Int32), .int x6, .int x5, .int x4, .ref 161]) (S1 := zS c s) rfl ?_
  obtain ⟨r43, g45, h⟩ := zp_inv h
  refine zq_call1 rfl rfl (zh_161 _) rfl rfl rfl ((tX12_yetBy g45).up (by decide)) rfl ?_
  refine zr_many 1 (pc' := 253) (L' := [some (.ref 161), none, none, some (.int x3), some (.int x4), some (.int x5), some (.int x6), none, none, none]) (st' := [.ref 161, .int r43]) (S1 := zS c s) rfl ?_
  refine zq_get rfl (zh_161 _) rfl rfl rfl ?_
  refine zr_many 3 (pc' := 262) (L' := [some (.ref 161), none, none, some (.int x3), some (.int x4), some (.int x5), some (.int x6), none, none, none]) (st' := [.int x6, .int x5, .int x4, .ref 185, .int r43]) (S1 := zS c s) rfl ?_
  obtain ⟨r46, g48, h⟩ := zp_inv h
  refine zq_scall1 rfl (by decide) rfl rfl ((tX12_spot g48).up (by decide)) rfl ?_
  obtain ⟨g49, h⟩ := zi_cond_inv h
  refine zq_ild rfl (zh_185 _) rfl g49 rfl ?_
  refine zq_if2 (b := ¬ r43 = (s.1 185 r46.toNatClampNeg)) rfl Iff.rfl rfl (fun g50 => ?_) (fun g50 => ?_)
  · rw [if_pos g50] at h
    refine zr_many 1 (pc' := 274) (L' := [some (.ref 161), none, none, some (.int x3), some (.int x4), some (.int x5), some (.int x6), none, none, none]) (st' := [.int (0 : Int32)]) (S1 := zS c s) rfl ?_
    exact zr_wk [some (.ref 161), none, none, some (.int x3), some (.int x4), some (.int x5), some (.int x6), none, none, none] ⟨rfl, rfl, rfl, rfl, rfl, trivial⟩ (tX12_queue_J274 h hn hx)
  · rw [if_neg g50] at h
    refine zr_many 2 (pc' := 274) (L' := [some (.ref 161), none, none, some (.int x3), some (.int x4), some (.int x5), some (.int x6), none, none, none]) (st' := [.int (1 : Int32)]) (S1 := zS c s) rfl ?_
    exact zr_wk [some (.ref 161), none, none, some (.int x3), some (.int x4), some (.int x5), some (.int x6), none, none, none] ⟨rfl, rfl, rfl, rfl, rfl, trivial⟩ (tX12_queue_J274 h hn hx)
def fX12_queue_B223 (n : Nat) (x3 : Int32) (w223 : Int32 × Int32 × Int32 × zs) : Option ((Int32 × Int32 × Int32 × zs) ⊕ (zs)) := if w223.1 < (w223.2.2.2.1 161 42) then fX12_queue_J241 n w223.2.2.2 x3 w223.1 w223.2.1 w223.2.2.1 else if (w223.2.2.2.1 161 43) ≤ w223.2.1 then some (Sum.inr w223.2.2.2) else fX12_queue_J241 n w223.2.2.2 x3 w223.1 w223.2.1 w223.2.2.1
theorem tX12_queue_B223 {n : Nat} {c : Nat × Nat} {x3 : Int32} {w223 : Int32 × Int32 × Int32 × zs} {o : _} {v : Option Value} {S' : zi_S} (h : fX12_queue_B223 n x3 w223 = some o) (hn : ∀ w223, o = Sum.inl w223 → zr kX12_queue 1 4 223 [some (.ref 161), none, none, some (.int x3), some (.int w223.1), some (.int w223.2.1), some (.int w223.2.2.1), none, none, none] [] (zS c w223.2.2.2) v S') (hx : ∀ z, o = Sum.inr z → (fun z => zr kX12_queue 1 4 411 [none, none, none, some (.int x3), none, none, none, none, none, none] [] (zS c z) v S') z) : zr kX12_queue 1 4 223 [some (.ref 161), none, none, some (.int x3), some (.int w223.1), some (.int w223.2.1), some (.int w223.2.2.1), none, none, none] [] (zS c w223.2.2.2) v S' := by
  unfold fX12_queue_B223 at h
  refine zr_many 2 (pc' := 226) (L' := [some (.ref 161), none, none, some (.int x3), some (.int w223.1), some (.int w223.2.1), some (.int w223.2.2.1), none, none, none]) (st' := [.ref 161, .int w223.1]) (S1 := zS c w223.2.2.2) rfl ?_
  refine zq_get rfl (zh_161 _) rfl rfl rfl ?_
  refine zq_if2 (b := w223.1 < (w223.2.2.2.1 161 42)) rfl Iff.rfl rfl (fun g42 => ?_) (fun g42 => ?_)
  · rw [if_pos g42] at h
    exact zr_wk [some (.ref 161), none, none, some (.int x3), some (.int w223.1), some (.int w223.2.1), some (.int w223.2.2.1), none, none, none] ⟨rfl, rfl, rfl, rfl, rfl, trivial⟩ (tX12_queue_J241 h hn hx)
  · rw [if_neg g42] at h
    refine zr_many 2 (pc' := 235) (L' := [some (.ref 161), none, none, some (.int x3), some (.int w223.1), some (.int w223.2.1), some (.int w223.2.2.1), none, none, none]) (st' := [.ref 161, .int w223.2.1]) (S1 := zS c w223.2.2.2) rfl ?_
    refine zq_get rfl (zh_161 _) rfl rfl rfl ?_
    refine zq_if2 (b := (w223.2.2.2.1 161 43) ≤ w223.2.1) rfl Iff.rfl rfl (fun g80 => ?_) (fun g80 => ?_)
    · rw [if_pos g80] at h
      obtain rfl := Option.some.inj h
      exact zr_wk [none, none, none, some (.int x3), none, none, none, none, none, none] ⟨rfl, trivial⟩ (hx w223.2.2.2 rfl)
    · rw [if_neg g80] at h
      exact zr_wk [some (.ref 161), none, none, some (.int x3), some (.int w223.1), some (.int w223.2.1), some (.int w223.2.2.1), none, none, none] ⟨rfl, rfl, rfl, rfl, rfl, trivial⟩ (tX12_queue_J241 h hn hx)
def fX12_queue (n : Nat) (s : zs) (x1 : Int32) : Option (Int32 × zs) := zb (fX12_begins n (zsi s 161 0 (0 : Int32)) (80 : Int32)) (fun r1 s2 => zp (fX12_isLock n s2 x1) (fun r4 => if ¬ r4 = 0 then zt (zsi s2 161 42 (0 : Int32)) (fun s8 => zp (zl (fX12_queue_B34 n x1) n ((1 : Int32), (zsi s8 161 43 (0 : Int32)))) (fun w27 => if (w27.1 161 18) = 0 then fX12_queue_J166 n w27 else if (w27.1 161 19) ≤ (w27.1 161 18) then zp (fX12_laysQueue n w27) (fun s31 => cond (zi_in x1 42) (zp (fX12_spot n s31 (0 : Int32) (0 : Int32) (s31.1 169 x1.toNatClampNeg)) (fun r34 => cond (zi_in r34 450) (zp (fX12_enters n (zsi s31 161 1 (0 : Int32)) (((s31.1 185 r34.toNatClampNeg) - (s31.1 185 r34.toNatClampNeg) / (100 : Int32) * (100 : Int32)).toInt64)) (fun s39 => cond (zi_in x1 42) (zp (zl (fX12_queue_B223 n (s31.1 185 r34.toNatClampNeg)) n ((0 : Int32), (0 : Int32), (s39.1 169 x1.toNatClampNeg), s39)) (fun w81 => some (((s31.1 185 r34.toNatClampNeg) / (100 : Int32)), w81))) none)) none)) none) else fX12_queue_J166 n w27)) else some ((-1 : Int32), s2)))
theorem tX12_queue {n : Nat} {c : Nat × Nat} {s : zs} {x1 : Int32} {r : Int32} {s' : zs} (h : fX12_queue n s x1 = some (r, s')) : zc 5 2491 [.ref 161, .int x1] (zS c s) (some (.int r)) (zS c s') := by
  refine zc_of (k := kX12_queue) (rt := 1) (L := [some (.ref 161), some (.int x1), none, none, none, none, none, none, none, none]) zm_2491.1 rfl rfl (by decide) rfl rfl ?_
  unfold fX12_queue at h
  refine zr_many 2 (pc' := 2) (L' := [some (.ref 161), some (.int x1), none, none, none, none, none, none, none, none]) (st' := [.int (0 : Int32), .ref 161]) (S1 := zS c s) rfl ?_
  refine zq_put (s' := (zsi s 161 0 (0 : Int32))) rfl (zh_161 _) rfl rfl rfl rfl zsi_ne rfl ?_
  refine zr_many 2 (pc' := 8) (L' := [some (.ref 161), some (.int x1), none, none, none, none, none, none, none, none]) (st' := [.int (80 : Int32), .ref 161]) (S1 := zS c (zsi s 161 0 (0 : Int32))) rfl ?_
  obtain ⟨r1, s2, g3, h⟩ := zb_inv h
  refine zq_call1 rfl rfl (zh_161 _) rfl rfl rfl ((tX12_begins g3).up (by decide)) rfl ?_
  refine zr_many 3 (pc' := 14) (L' := [some (.ref 161), some (.int x1), none, none, none, none, none, none, none, none]) (st' := [.int x1, .ref 161]) (S1 := zS c s2) rfl ?_
  obtain ⟨r4, g6, h⟩ := zp_inv h
  refine zq_call1 rfl rfl (zh_161 _) rfl rfl rfl ((tX12_isLock g6).up (by decide)) rfl ?_
  refine zq_if1 (b := ¬ r4 = 0) rfl Iff.rfl rfl (fun g7 => ?_) (fun g7 => ?_)
  · rw [if_pos g7] at h
    refine zr_many 2 (pc' := 24) (L' := [some (.ref 161), some (.int x1), none, none, none, none, none, none, none, none]) (st' := [.int (0 : Int32), .ref 161]) (S1 := zS c s2) rfl ?_
    refine zq_put (s' := (zsi s2 161 42 (0 : Int32))) rfl (zh_161 _) rfl rfl rfl rfl zsi_ne rfl ?_
    refine zr_many 2 (pc' := 29) (L' := [some (.ref 161), some (.int x1), none, none, none, none, none, none, none, none]) (st' := [.int (0 : Int32), .ref 161]) (S1 := zS c (zsi s2 161 42 (0 : Int32))) rfl ?_
    obtain ⟨s8, e9, h⟩ := zt_in h
    rw [← e9]
    refine zq_put (s' := (zsi s8 161 43 (0 : Int32))) rfl (zh_161 _) rfl rfl rfl rfl zsi_ne rfl ?_
    refine zr_many 2 (pc' := 34) (L' := [some (.ref 161), some (.int x1), some (.int (1 : Int32)), none, none, none, none, none, none, none]) (st' := []) (S1 := zS c (zsi s8 161 43 (0 : Int32))) rfl ?_
    obtain ⟨w27, g83, h⟩ := zp_inv h
    refine zr_wk [some (.ref 161), some (.int x1), some (.int (1 : Int32)), none, none, none, none, none, none, none] ⟨rfl, rfl, rfl, trivial⟩ (zl_cert (Z := fun w34 => zr kX12_queue 1 4 34 [some (.ref 161), some (.int x1), some (.int w34.1), none, none, none, none, none, none, none] [] (zS c w34.2) _ _) (Y := (fun z => zr kX12_queue 1 4 148 [some (.ref 161), some (.int x1), none, none, none, none, none, none, none, none] [] (zS c z) _ _)) (fun w o h1 h2 h3 => tX12_queue_B34 h1 h2 h3) n _ _ g83 ?_)
    show zr kX12_queue 1 4 148 [some (.ref 161), some (.int x1), none, none, none, none, none, none, none, none] [] (zS c w27) _ _
    refine zr_many 1 (pc' := 149) (L' := [some (.ref 161), some (.int x1), none, none, none, none, none, none, none, none]) (st' := [.ref 161]) (S1 := zS c w27) rfl ?_
    refine zq_get rfl (zh_161 _) rfl rfl rfl ?_
    refine zq_if1 (b := (w27.1 161 18) = 0) rfl Iff.rfl rfl (fun g28 => ?_) (fun g28 => ?_)
    · rw [if_pos g28] at h
      exact zr_wk [some (.ref 161), none, none, none, none, none, none, none, none, none] ⟨rfl, trivial⟩ (tX12_queue_J166 h)
    · rw [if_neg g28] at h
      refine zr_many 1 (pc' := 156) (L' := [some (.ref 161), some (.int x1), none, none, none, none, none, none, none, none]) (st' := [.ref 161]) (S1 := zS c w27) rfl ?_
      refine zq_get rfl (zh_161 _) rfl rfl rfl ?_
      refine zr_many 1 (pc' := 160) (L' := [some (.ref 161), some (.int x1), none, none, none, none, none, none, none, none]) (st' := [.ref 161, .int (w27.1 161 18)]) (S1 := zS c w27) rfl ?_
      refine zq_get rfl (zh_161 _) rfl rfl rfl ?_
      refine zq_if2 (b := (w27.1 161 19) ≤ (w27.1 161 18)) rfl Iff.rfl rfl (fun g29 => ?_) (fun g29 => ?_)
      · rw [if_pos g29] at h
        refine zr_many 1 (pc' := 175) (L' := [some (.ref 161), some (.int x1), none, none, none, none, none, none, none, none]) (st' := [.ref 161]) (S1 := zS c w27) rfl ?_
        obtain ⟨s31, g32, h⟩ := zp_inv h
        refine zq_call0 rfl rfl (zh_161 _) rfl rfl rfl (tX12_laysQueue g32) rfl ?_
        refine zr_many 1 (pc' := 179) (L' := [some (.ref 161), some (.int x1), none, none, none, none, none, none, none, none]) (st' := [.ref 161]) (S1 := zS c s31) rfl ?_
        refine zq_get rfl (zh_161 _) rfl rfl rfl ?_
        refine zr_many 3 (pc' := 185) (L' := [some (.ref 161), some (.int x1), none, none, none, none, none, none, none, none]) (st' := [.ref 161, .int (0 : Int32), .int (0 : Int32), .ref 185]) (S1 := zS c s31) rfl ?_
        refine zq_get rfl (zh_161 _) rfl rfl rfl ?_
        refine zr_many 1 (pc' := 189) (L' := [some (.ref 161), some (.int x1), none, none, none, none, none, none, none, none]) (st' := [.int x1, .ref 169, .int (0 : Int32), .int (0 : Int32), .ref 185]) (S1 := zS c s31) rfl ?_
        obtain ⟨g33, h⟩ := zi_cond_inv h
        refine zq_ild rfl (zh_169 _) rfl g33 rfl ?_
        obtain ⟨r34, g36, h⟩ := zp_inv h
        refine zq_scall1 rfl (by decide) rfl rfl ((tX12_spot g36).up (by decide)) rfl ?_
        obtain ⟨g37, h⟩ := zi_cond_inv h
        refine zq_ild rfl (zh_185 _) rfl g37 rfl ?_
        refine zr_many 3 (pc' := 197) (L' := [some (.ref 161), some (.int x1), none, some (.int (s31.1 185 r34.toNatClampNeg)), none, none, none, none, none, none]) (st' := [.int (0 : Int32), .ref 161]) (S1 := zS c s31) rfl ?_
        refine zq_put (s' := (zsi s31 161 1 (0 : Int32))) rfl (zh_161 _) rfl rfl rfl rfl zsi_ne rfl ?_
        refine zr_many 3 (pc' := 204) (L' := [some (.ref 161), some (.int x1), none, some (.int (s31.1 185 r34.toNatClampNeg)), none, none, none, none, none, none]) (st' := [.int (100 : Int32), .int (s31.1 185 r34.toNatClampNeg), .ref 161]) (S1 := zS c (zsi s31 161 1 (0 : Int32))) rfl ?_
        refine zq_irem rfl (by decide) rfl ?_
        refine zr_many 1 (pc' := 206) (L' := [some (.ref 161), some (.int x1), none, some (.int (s31.1 185 r34.toNatClampNeg)), none, none, none, none, none, none]) (st' := [.long ((s31.1 185 r34.toNatClampNeg) - (s31.1 185 r34.toNatClampNeg) / (100 : Int32) * (100 : Int32)).toInt64, .ref 161]) (S1 := zS c (zsi s31 161 1 (0 : Int32))) rfl ?_
        obtain ⟨s39, g40, h⟩ := zp_inv h
        refine zq_call0 rfl rfl (zh_161 _) rfl rfl rfl ((tX12_enters g40).up (by decide)) rfl ?_
        refine zr_many 5 (pc' := 216) (L' := [some (.ref 161), some (.int x1), none, some (.int (s31.1 185 r34.toNatClampNeg)), some (.int (0 : Int32)), some (.int (0 : Int32)), none, none, none, none]) (st' := [.ref 161]) (S1 := zS c s39) rfl ?_
        refine zq_get rfl (zh_161 _) rfl rfl rfl ?_
        refine zr_many 1 (pc' := 220) (L' := [some (.ref 161), some (.int x1), none, some (.int (s31.1 185 r34.toNatClampNeg)), some (.int (0 : Int32)), some (.int (0 : Int32)), none, none, none, none]) (st' := [.int x1, .ref 169]) (S1 := zS c s39) rfl ?_
        obtain ⟨g41, h⟩ := zi_cond_inv h
        refine zq_ild rfl (zh_169 _) rfl g41 rfl ?_
        refine zr_many 1 (pc' := 223) (L' := [some (.ref 161), some (.int x1), none, some (.int (s31.1 185 r34.toNatClampNeg)), some (.int (0 : Int32)), some (.int (0 : Int32)), some (.int (s39.1 169 x1.toNatClampNeg)), none, none, none]) (st' := []) (S1 := zS c s39) rfl ?_
        obtain ⟨w81, g82, h⟩ := zp_inv h
        refine zr_wk [some (.ref 161), none, none, some (.int (s31.1 185 r34.toNatClampNeg)), some (.int (0 : Int32)), some (.int (0 : Int32)), some (.int (s39.1 169 x1.toNatClampNeg)), none, none, none] ⟨rfl, rfl, rfl, rfl, rfl, trivial⟩ (zl_cert (Z := fun w223 => zr kX12_queue 1 4 223 [some (.ref 161), none, none, some (.int (s31.1 185 r34.toNatClampNeg)), some (.int w223.1), some (.int w223.2.1), some (.int w223.2.2.1), none, none, none] [] (zS c w223.2.2.2) _ _) (Y := (fun z => zr kX12_queue 1 4 411 [none, none, none, some (.int (s31.1 185 r34.toNatClampNeg)), none, none, none, none, none, none] [] (zS c z) _ _)) (fun w o h1 h2 h3 => tX12_queue_B223 h1 h2 h3) n _ _ g82 ?_)
        show zr kX12_queue 1 4 411 [none, none, none, some (.int (s31.1 185 r34.toNatClampNeg)), none, none, none, none, none, none] [] (zS c w81) _ _
        refine zr_many 2 (pc' := 414) (L' := [none, none, none, some (.int (s31.1 185 r34.toNatClampNeg)), none, none, none, none, none, none]) (st' := [.int (100 : Int32), .int (s31.1 185 r34.toNatClampNeg)]) (S1 := zS c w81) rfl ?_
        refine zq_idiv rfl (by decide) rfl ?_
        obtain ⟨rfl, rfl⟩ := Prod.mk.inj (Option.some.inj h)
        exact zq_iret rfl
      · rw [if_neg g29] at h
        exact zr_wk [some (.ref 161), none, none, none, none, none, none, none, none, none] ⟨rfl, trivial⟩ (tX12_queue_J166 h)
  · rw [if_neg g7] at h
    refine zr_many 1 (pc' := 21) (L' := [some (.ref 161), some (.int x1), none, none, none, none, none, none, none, none]) (st' := [.int (-1 : Int32)]) (S1 := zS c s2) rfl ?_
    obtain ⟨rfl, rfl⟩ := Prod.mk.inj (Option.some.inj h)
    exact zq_iret rfl
def fX12_passing_J46 (n : Nat) (s : zs) (x2 : Int32) (y0 : Int32) (y1 : Int32) : Option ((Int32 × Int32 × zs) ⊕ (Int32 × zs)) := some (Sum.inl ((y0 ||| y1), (x2 + (1 : Int32)), s))
theorem tX12_passing_J46 {n : Nat} {c : Nat × Nat} {s : zs} {x2 : Int32} {y0 : Int32} {y1 : Int32} {o : _} {v : Option Value} {S' : zi_S} (h : fX12_passing_J46 n s x2 y0 y1 = some o) (hn : ∀ w4, o = Sum.inl w4 → zr kX12_passing 1 10 4 [some (.ref 161), some (.int w4.1), some (.int w4.2.1)] [] (zS c w4.2.2) v S') (hx : ∀ z, o = Sum.inr z → (fun z => zr kX12_passing 1 10 54 [none, some (.int z.1), none] [] (zS c z.2) v S') z) : zr kX12_passing 1 10 46 [some (.ref 161), none, some (.int x2)] [.int y1, .int y0] (zS c s) v S' := by
  unfold fX12_passing_J46 at h
  refine zr_many 4 (pc' := 4) (L' := [some (.ref 161), some (.int (y0 ||| y1)), some (.int (x2 + (1 : Int32)))]) (st' := []) (S1 := zS c s) rfl ?_
  obtain rfl := Option.some.inj h
  exact zr_wk [some (.ref 161), some (.int (y0 ||| y1)), some (.int (x2 + (1 : Int32)))] ⟨rfl, rfl, rfl, trivial⟩ (hn ((y0 ||| y1), (x2 + (1 : Int32)), s) rfl)
def fX12_passing_J39 (n : Nat) (s : zs) (x2 : Int32) (y0 : Int32) : Option ((Int32 × Int32 × zs) ⊕ (Int32 × zs)) := fX12_passing_J46 n s x2 y0 ((1 : Int32) <<< (x2 &&& 31))
theorem tX12_passing_J39 {n : Nat} {c : Nat × Nat} {s : zs} {x2 : Int32} {y0 : Int32} {o : _} {v : Option Value} {S' : zi_S} (h : fX12_passing_J39 n s x2 y0 = some o) (hn : ∀ w4, o = Sum.inl w4 → zr kX12_passing 1 10 4 [some (.ref 161), some (.int w4.1), some (.int w4.2.1)] [] (zS c w4.2.2) v S') (hx : ∀ z, o = Sum.inr z → (fun z => zr kX12_passing 1 10 54 [none, some (.int z.1), none] [] (zS c z.2) v S') z) : zr kX12_passing 1 10 39 [some (.ref 161), none, some (.int x2)] [.int y0] (zS c s) v S' := by
  unfold fX12_passing_J39 at h
  refine zr_many 4 (pc' := 46) (L' := [some (.ref 161), none, some (.int x2)]) (st' := [.int ((1 : Int32) <<< (x2 &&& 31)), .int y0]) (S1 := zS c s) rfl ?_
  exact zr_wk [some (.ref 161), none, some (.int x2)] ⟨rfl, rfl, trivial⟩ (tX12_passing_J46 h hn hx)
def fX12_passing_B4 (n : Nat) (w4 : Int32 × Int32 × zs) : Option ((Int32 × Int32 × zs) ⊕ (Int32 × zs)) := if (w4.2.2.1 161 5) ≤ w4.2.1 then some (Sum.inr (w4.1, w4.2.2)) else zb (fX12_whyNot n w4.2.2 169 w4.2.1 (0 : Int32)) (fun r2 s3 => if r2 = 0 then fX12_passing_J39 n s3 w4.2.1 w4.1 else zb (fX12_whyNot n s3 169 w4.2.1 (1 : Int32)) (fun r6 s7 => if ¬ r6 = 0 then fX12_passing_J46 n s7 w4.2.1 w4.1 (0 : Int32) else fX12_passing_J39 n s7 w4.2.1 w4.1))
theorem tX12_passing_B4 {n : Nat} {c : Nat × Nat} {w4 : Int32 × Int32 × zs} {o : _} {v : Option Value} {S' : zi_S} (h : fX12_passing_B4 n w4 = some o) (hn : ∀ w4, o = Sum.inl w4 → zr kX12_passing 1 10 4 [some (.ref 161), some (.int w4.1), some (.int w4.2.1)] [] (zS c w4.2.2) v S') (hx : ∀ z, o = Sum.inr z → (fun z => zr kX12_passing 1 10 54 [none, some (.int z.1), none] [] (zS c z.2) v S') z) : zr kX12_passing 1 10 4 [some (.ref 161), some (.int w4.1), some (.int w4.2.1)] [] (zS c w4.2.2) v S' := by
  unfold fX12_passing_B4 at h
  refine zr_many 2 (pc' := 6) (L' := [some (.ref 161), some (.int w4.1), some (.int w4.2.1)]) (st' := [.ref 161, .int w4.2.1]) (S1 := zS c w4.2.2) rfl ?_
  refine zq_get rfl (zh_161 _) rfl rfl rfl ?_
  refine zq_if2 (b := (w4.2.2.1 161 5) ≤ w4.2.1) rfl Iff.rfl rfl (fun g1 => ?_) (fun g1 => ?_)
  · rw [if_pos g1] at h
    obtain rfl := Option.some.inj h
    exact zr_wk [none, some (.int w4.1), none] ⟨rfl, trivial⟩ (hx (w4.1, w4.2.2) rfl)
  · rw [if_neg g1] at h
    refine zr_many 3 (pc' := 15) (L' := [some (.ref 161), some (.int w4.1), some (.int w4.2.1)]) (st' := [.ref 161, .ref 161, .int w4.1]) (S1 := zS c w4.2.2) rfl ?_
    refine zq_get rfl (zh_161 _) rfl rfl rfl ?_
    refine zr_many 2 (pc' := 20) (L' := [some (.ref 161), some (.int w4.1), some (.int w4.2.1)]) (st' := [.int (0 : Int32), .int w4.2.1, .ref 169, .ref 161, .int w4.1]) (S1 := zS c w4.2.2) rfl ?_
    obtain ⟨r2, s3, g4, h⟩ := zb_inv h
    refine zq_call1 rfl rfl (zh_161 _) rfl rfl rfl (tX12_whyNot zR_n g4) rfl ?_
    refine zq_if1 (b := r2 = 0) rfl Iff.rfl rfl (fun g5 => ?_) (fun g5 => ?_)
    · rw [if_pos g5] at h
      exact zr_wk [some (.ref 161), none, some (.int w4.2.1)] ⟨rfl, rfl, trivial⟩ (tX12_passing_J39 h hn hx)
    · rw [if_neg g5] at h
      refine zr_many 2 (pc' := 28) (L' := [some (.ref 161), some (.int w4.1), some (.int w4.2.1)]) (st' := [.ref 161, .ref 161, .int w4.1]) (S1 := zS c s3) rfl ?_
      refine zq_get rfl (zh_161 _) rfl rfl rfl ?_
      refine zr_many 2 (pc' := 33) (L' := [some (.ref 161), some (.int w4.1), some (.int w4.2.1)]) (st' := [.int (1 : Int32), .int w4.2.1, .ref 169, .ref 161, .int w4.1]) (S1 := zS c s3) rfl ?_
      obtain ⟨r6, s7, g8, h⟩ := zb_inv h
      refine zq_call1 rfl rfl (zh_161 _) rfl rfl rfl (tX12_whyNot zR_n g8) rfl ?_
      refine zq_if1 (b := ¬ r6 = 0) rfl Iff.rfl rfl (fun g9 => ?_) (fun g9 => ?_)
      · rw [if_pos g9] at h
        refine zr_many 1 (pc' := 46) (L' := [some (.ref 161), some (.int w4.1), some (.int w4.2.1)]) (st' := [.int (0 : Int32), .int w4.1]) (S1 := zS c s7) rfl ?_
        exact zr_wk [some (.ref 161), none, some (.int w4.2.1)] ⟨rfl, rfl, trivial⟩ (tX12_passing_J46 h hn hx)
      · rw [if_neg g9] at h
        exact zr_wk [some (.ref 161), none, some (.int w4.2.1)] ⟨rfl, rfl, trivial⟩ (tX12_passing_J39 h hn hx)
def fX12_passing (n : Nat) (s : zs) : Option (Int32 × zs) := zp (zl (fX12_passing_B4 n) n ((0 : Int32), (0 : Int32), s)) (fun w10 => some (w10.1, w10.2))
theorem tX12_passing {n : Nat} {c : Nat × Nat} {s : zs} {r : Int32} {s' : zs} (h : fX12_passing n s = some (r, s')) : zc 11 2492 [.ref 161] (zS c s) (some (.int r)) (zS c s') := by
  refine zc_of (k := kX12_passing) (rt := 1) (L := [some (.ref 161), none, none]) zm_2492.1 rfl rfl (by decide) rfl rfl ?_
  unfold fX12_passing at h
  refine zr_many 4 (pc' := 4) (L' := [some (.ref 161), some (.int (0 : Int32)), some (.int (0 : Int32))]) (st' := []) (S1 := zS c s) rfl ?_
  obtain ⟨w10, g11, h⟩ := zp_inv h
  refine zr_wk [some (.ref 161), some (.int (0 : Int32)), some (.int (0 : Int32))] ⟨rfl, rfl, rfl, trivial⟩ (zl_cert (Z := fun w4 => zr kX12_passing 1 10 4 [some (.ref 161), some (.int w4.1), some (.int w4.2.1)] [] (zS c w4.2.2) _ _) (Y := (fun z => zr kX12_passing 1 10 54 [none, some (.int z.1), none] [] (zS c z.2) _ _)) (fun w o h1 h2 h3 => tX12_passing_B4 h1 h2 h3) n _ _ g11 ?_)
  show zr kX12_passing 1 10 54 [none, some (.int w10.1), none] [] (zS c w10.2) _ _
  refine zr_many 1 (pc' := 55) (L' := [none, some (.int w10.1), none]) (st' := [.int w10.1]) (S1 := zS c w10.2) rfl ?_
  obtain ⟨rfl, rfl⟩ := Prod.mk.inj (Option.some.inj h)
  exact zq_iret rfl
def fX12_jams_J91 (n : Nat) (s : zs) (x1 : Int32) (x2 : Int32) (x3 : Int32) (x4 : Int32) (x5 : Int32) (x6 : Int32) (x7 : Int32) : Option ((Int32 × Int32 × Int32 × Int32 × zs) ⊕ (Int32 × Int32 × Int32 × zs)) := some (Sum.inl (x3, x4, x5, (x7 + (1 : Int32)), s))
theorem tX12_jams_J91 {n : Nat} {c : Nat × Nat} {s : zs} {x1 : Int32} {x2 : Int32} {x3 : Int32} {x4 : Int32} {x5 : Int32} {x6 : Int32} {x7 : Int32} {o : _} {v : Option Value} {S' : zi_S} (h : fX12_jams_J91 n s x1 x2 x3 x4 x5 x6 x7 = some o) (hn : ∀ w39, o = Sum.inl w39 → zr kX12_jams 1 11 39 [some (.ref 161), some (.int x1), some (.int x2), some (.int w39.1), some (.int w39.2.1), some (.int w39.2.2.1), some (.int x6), some (.int w39.2.2.2.1), none] [] (zS c w39.2.2.2.2) v S') (hx : ∀ z, o = Sum.inr z → (fun z => zr kX12_jams 1 11 97 [some (.ref 161), some (.int x1), some (.int x2), some (.int z.1), some (.int z.2.1), some (.int z.2.2.1), some (.int x6), none, none] [] (zS c z.2.2.2) v S') z) : zr kX12_jams 1 11 91 [some (.ref 161), some (.int x1), some (.int x2), some (.int x3), some (.int x4), some (.int x5), some (.int x6), some (.int x7), none] [] (zS c s) v S' := by
  unfold fX12_jams_J91 at h
  refine zr_many 2 (pc' := 39) (L' := [some (.ref 161), some (.int x1), some (.int x2), some (.int x3), some (.int x4), some (.int x5), some (.int x6), some (.int (x7 + (1 : Int32))), none]) (st' := []) (S1 := zS c s) rfl ?_
  obtain rfl := Option.some.inj h
  exact zr_wk [some (.ref 161), some (.int x1), some (.int x2), some (.int x3), some (.int x4), some (.int x5), some (.int x6), some (.int (x7 + (1 : Int32))), none] ⟨rfl, rfl, rfl, rfl, rfl, rfl, rfl, rfl, trivial⟩ (hn (x3, x4, x5, (x7 + (1 : Int32)), s) rfl)
def fX12_jams_B39 (n : Nat) (x1 : Int32) (x2 : Int32) (x6 : Int32) (w39 : Int32 × Int32 × Int32 × Int32 × zs) : Option ((Int32 × Int32 × Int32 × Int32 × zs) ⊕ (Int32 × Int32 × Int32 × zs)) := if (26 : Int32) ≤ w39.2.2.2.1 then some (Sum.inr (w39.1, w39.2.1, w39.2.2.1, w39.2.2.2.2)) else zb (fX12_passing n (zsi w39.2.2.2.2 161 6 ((x1 ||| ((1 : Int32) <<< (x6 &&& 31))) ||| ((1 : Int32) <<< (w39.2.2.2.1 &&& 31))))) (fun r6 s7 => zp (fJ6_bitCount_0f7a4 n s7 (x2 &&& (r6 ^^^ (-1 : Int32)))) (fun r9 => if r9 ≤ w39.1 then fX12_jams_J91 n s7 x1 x2 w39.1 w39.2.1 w39.2.2.1 x6 w39.2.2.2.1 else fX12_jams_J91 n s7 x1 x2 r9 x6 w39.2.2.2.1 x6 w39.2.2.2.1))
theorem tX12_jams_B39 {n : Nat} {c : Nat × Nat} {x1 : Int32} {x2 : Int32} {x6 : Int32} {w39 : Int32 × Int32 × Int32 × Int32 × zs} {o : _} {v : Option Value} {S' : zi_S} (h : fX12_jams_B39 n x1 x2 x6 w39 = some o) (hn : ∀ w39, o = Sum.inl w39 → zr kX12_jams 1 11 39 [some (.ref 161), some (.int x1), some (.int x2), some (.int w39.1), some (.int w39.2.1), some (.int w39.2.2.1), some (.int x6), some (.int w39.2.2.2.1), none] [] (zS c w39.2.2.2.2) v S') (hx : ∀ z, o = Sum.inr z → (fun z => zr kX12_jams 1 11 97 [some (.ref 161), some (.int x1), some (.int x2), some (.int z.1), some (.int z.2.1), some (.int z.2.2.1), some (.int x6), none, none] [] (zS c z.2.2.2) v S') z) : zr kX12_jams 1 11 39 [some (.ref 161), some (.int x1), some (.int x2), some (.int w39.1), some (.int w39.2.1), some (.int w39.2.2.1), some (.int x6), some (.int w39.2.2.2.1), none] [] (zS c w39.2.2.2.2) v S' := by
  unfold fX12_jams_B39 at h
  refine zr_many 2 (pc' := 43) (L' := [some (.ref 161), some (.int x1), some (.int x2), some (.int w39.1), some (.int w39.2.1), some (.int w39.2.2.1), some (.int x6), some (.int w39.2.2.2.1), none]) (st' := [.int (26 : Int32), .int w39.2.2.2.1]) (S1 := zS c w39.2.2.2.2) rfl ?_
  refine zq_if2 (b := (26 : Int32) ≤ w39.2.2.2.1) rfl Iff.rfl rfl (fun g5 => ?_) (fun g5 => ?_)
  · rw [if_pos g5] at h
    obtain rfl := Option.some.inj h
    exact zr_wk [some (.ref 161), some (.int x1), some (.int x2), some (.int w39.1), some (.int w39.2.1), some (.int w39.2.2.1), some (.int x6), none, none] ⟨rfl, rfl, rfl, rfl, rfl, rfl, rfl, trivial⟩ (hx (w39.1, w39.2.1, w39.2.2.1, w39.2.2.2.2) rfl)
  · rw [if_neg g5] at h
    refine zr_many 10 (pc' := 58) (L' := [some (.ref 161), some (.int x1), some (.int x2), some (.int w39.1), some (.int w39.2.1), some (.int w39.2.2.1), some (.int x6), some (.int w39.2.2.2.1), none]) (st' := [.int ((x1 ||| ((1 : Int32) <<< (x6 &&& 31))) ||| ((1 : Int32) <<< (w39.2.2.2.1 &&& 31))), .ref 161]) (S1 := zS c w39.2.2.2.2) rfl ?_
    refine zq_put (s' := (zsi w39.2.2.2.2 161 6 ((x1 ||| ((1 : Int32) <<< (x6 &&& 31))) ||| ((1 : Int32) <<< (w39.2.2.2.1 &&& 31))))) rfl (zh_161 _) rfl rfl rfl rfl zsi_ne rfl ?_
    refine zr_many 2 (pc' := 63) (L' := [some (.ref 161), some (.int x1), some (.int x2), some (.int w39.1), some (.int w39.2.1), some (.int w39.2.2.1), some (.int x6), some (.int w39.2.2.2.1), none]) (st' := [.ref 161, .int x2]) (S1 := zS c (zsi w39.2.2.2.2 161 6 ((x1 ||| ((1 : Int32) <<< (x6 &&& 31))) ||| ((1 : Int32) <<< (w39.2.2.2.1 &&& 31))))) rfl ?_
    obtain ⟨r6, s7, g8, h⟩ := zb_inv h
    refine zq_call1 rfl rfl (zh_161 _) rfl rfl rfl (tX12_passing g8) rfl ?_
    refine zr_many 3 (pc' := 69) (L' := [some (.ref 161), some (.int x1), some (.int x2), some (.int w39.1), some (.int w39.2.1), some (.int w39.2.2.1), some (.int x6), some (.int w39.2.2.2.1), none]) (st' := [.int (x2 &&& (r6 ^^^ (-1 : Int32)))]) (S1 := zS c s7) rfl ?_
    obtain ⟨r9, g11, h⟩ := zp_inv h
    refine zq_scall1 rfl (by decide) rfl rfl ((tJ6_bitCount_0f7a4 g11).up (by decide)) rfl ?_
    refine zr_many 3 (pc' := 77) (L' := [some (.ref 161), some (.int x1), some (.int x2), some (.int w39.1), some (.int w39.2.1), some (.int w39.2.2.1), some (.int x6), some (.int w39.2.2.2.1), some (.int r9)]) (st' := [.int w39.1, .int r9]) (S1 := zS c s7) rfl ?_
    refine zq_if2 (b := r9 ≤ w39.1) rfl Iff.rfl rfl (fun g12 => ?_) (fun g12 => ?_)
    · rw [if_pos g12] at h
      exact zr_wk [some (.ref 161), some (.int x1), some (.int x2), some (.int w39.1), some (.int w39.2.1), some (.int w39.2.2.1), some (.int x6), some (.int w39.2.2.2.1), none] ⟨rfl, rfl, rfl, rfl, rfl, rfl, rfl, rfl, trivial⟩ (tX12_jams_J91 h hn hx)
    · rw [if_neg g12] at h
      refine zr_many 6 (pc' := 91) (L' := [some (.ref 161), some (.int x1), some (.int x2), some (.int r9), some (.int x6), some (.int w39.2.2.2.1), some (.int x6), some (.int w39.2.2.2.1), some (.int r9)]) (st' := []) (S1 := zS c s7) rfl ?_
      exact zr_wk [some (.ref 161), some (.int x1), some (.int x2), some (.int r9), some (.int x6), some (.int w39.2.2.2.1), some (.int x6), some (.int w39.2.2.2.1), none] ⟨rfl, rfl, rfl, rfl, rfl, rfl, rfl, rfl, trivial⟩ (tX12_jams_J91 h hn hx)
def fX12_jams_B26 (n : Nat) (x1 : Int32) (x2 : Int32) (w26 : Int32 × Int32 × Int32 × Int32 × zs) : Option ((Int32 × Int32 × Int32 × Int32 × zs) ⊕ (Int32 × Int32 × Int32 × zs)) := if (26 : Int32) ≤ w26.2.2.2.1 then some (Sum.inr (w26.1, w26.2.1, w26.2.2.1, w26.2.2.2.2)) else zp (zl (fX12_jams_B39 n x1 x2 w26.2.2.2.1) n (w26.1, w26.2.1, w26.2.2.1, (w26.2.2.2.1 + (1 : Int32)), w26.2.2.2.2)) (fun w13 => some (Sum.inl (w13.1, w13.2.1, w13.2.2.1, (w26.2.2.2.1 + (1 : Int32)), w13.2.2.2)))
theorem tX12_jams_B26 {n : Nat} {c : Nat × Nat} {x1 : Int32} {x2 : Int32} {w26 : Int32 × Int32 × Int32 × Int32 × zs} {o : _} {v : Option Value} {S' : zi_S} (h : fX12_jams_B26 n x1 x2 w26 = some o) (hn : ∀ w26, o = Sum.inl w26 → zr kX12_jams 1 11 26 [some (.ref 161), some (.int x1), some (.int x2), some (.int w26.1), some (.int w26.2.1), some (.int w26.2.2.1), some (.int w26.2.2.2.1), none, none] [] (zS c w26.2.2.2.2) v S') (hx : ∀ z, o = Sum.inr z → (fun z => zr kX12_jams 1 11 103 [some (.ref 161), some (.int x1), none, some (.int z.1), some (.int z.2.1), some (.int z.2.2.1), none, none, none] [] (zS c z.2.2.2) v S') z) : zr kX12_jams 1 11 26 [some (.ref 161), some (.int x1), some (.int x2), some (.int w26.1), some (.int w26.2.1), some (.int w26.2.2.1), some (.int w26.2.2.2.1), none, none] [] (zS c w26.2.2.2.2) v S' := by
  unfold fX12_jams_B26 at h
  refine zr_many 2 (pc' := 30) (L' := [some (.ref 161), some (.int x1), some (.int x2), some (.int w26.1), some (.int w26.2.1), some (.int w26.2.2.1), some (.int w26.2.2.2.1), none, none]) (st' := [.int (26 : Int32), .int w26.2.2.2.1]) (S1 := zS c w26.2.2.2.2) rfl ?_
  refine zq_if2 (b := (26 : Int32) ≤ w26.2.2.2.1) rfl Iff.rfl rfl (fun g4 => ?_) (fun g4 => ?_)
  · rw [if_pos g4] at h
    obtain rfl := Option.some.inj h
    exact zr_wk [some (.ref 161), some (.int x1), none, some (.int w26.1), some (.int w26.2.1), some (.int w26.2.2.1), none, none, none] ⟨rfl, rfl, rfl, rfl, rfl, trivial⟩ (hx (w26.1, w26.2.1, w26.2.2.1, w26.2.2.2.2) rfl)
  · rw [if_neg g4] at h
    refine zr_many 4 (pc' := 39) (L' := [some (.ref 161), some (.int x1), some (.int x2), some (.int w26.1), some (.int w26.2.1), some (.int w26.2.2.1), some (.int w26.2.2.2.1), some (.int (w26.2.2.2.1 + (1 : Int32))), none]) (st' := []) (S1 := zS c w26.2.2.2.2) rfl ?_
    obtain ⟨w13, g14, h⟩ := zp_inv h
    refine zr_wk [some (.ref 161), some (.int x1), some (.int x2), some (.int w26.1), some (.int w26.2.1), some (.int w26.2.2.1), some (.int w26.2.2.2.1), some (.int (w26.2.2.2.1 + (1 : Int32))), none] ⟨rfl, rfl, rfl, rfl, rfl, rfl, rfl, rfl, trivial⟩ (zl_cert (Z := fun w39 => zr kX12_jams 1 11 39 [some (.ref 161), some (.int x1), some (.int x2), some (.int w39.1), some (.int w39.2.1), some (.int w39.2.2.1), some (.int w26.2.2.2.1), some (.int w39.2.2.2.1), none] [] (zS c w39.2.2.2.2) _ _) (Y := (fun z => zr kX12_jams 1 11 97 [some (.ref 161), some (.int x1), some (.int x2), some (.int z.1), some (.int z.2.1), some (.int z.2.2.1), some (.int w26.2.2.2.1), none, none] [] (zS c z.2.2.2) _ _)) (fun w o h1 h2 h3 => tX12_jams_B39 h1 h2 h3) n _ _ g14 ?_)
    show zr kX12_jams 1 11 97 [some (.ref 161), some (.int x1), some (.int x2), some (.int w13.1), some (.int w13.2.1), some (.int w13.2.2.1), some (.int w26.2.2.2.1), none, none] [] (zS c w13.2.2.2) _ _
    refine zr_many 2 (pc' := 26) (L' := [some (.ref 161), some (.int x1), some (.int x2), some (.int w13.1), some (.int w13.2.1), some (.int w13.2.2.1), some (.int (w26.2.2.2.1 + (1 : Int32))), none, none]) (st' := []) (S1 := zS c w13.2.2.2) rfl ?_
    obtain rfl := Option.some.inj h
    exact zr_wk [some (.ref 161), some (.int x1), some (.int x2), some (.int w13.1), some (.int w13.2.1), some (.int w13.2.2.1), some (.int (w26.2.2.2.1 + (1 : Int32))), none, none] ⟨rfl, rfl, rfl, rfl, rfl, rfl, rfl, trivial⟩ (hn (w13.1, w13.2.1, w13.2.2.1, (w26.2.2.2.1 + (1 : Int32)), w13.2.2.2) rfl)
def fX12_jams (n : Nat) (s : zs) : Option (Int32 × zs) := zb (fX12_passing n (zsi s 161 0 (0 : Int32))) (fun r1 s2 => zp (zl (fX12_jams_B26 n ((zsi s 161 0 (0 : Int32)).1 161 6) r1) n ((-1 : Int32), (0 : Int32), (0 : Int32), (0 : Int32), s2)) (fun w15 => zt (zsi w15.2.2.2 161 6 ((zsi s 161 0 (0 : Int32)).1 161 6)) (fun s16 => zp (fX12_enters n (zsi s16 161 1 (0 : Int32)) w15.2.1.toInt64) (fun s19 => zp (fX12_enters n s19 w15.2.2.1.toInt64) (fun s22 => some (w15.1, s22))))))
theorem tX12_jams {n : Nat} {c : Nat × Nat} {s : zs} {r : Int32} {s' : zs} (h : fX12_jams n s = some (r, s')) : zc 12 2493 [.ref 161] (zS c s) (some (.int r)) (zS c s') := by
  refine zc_of (k := kX12_jams) (rt := 1) (L := [some (.ref 161), none, none, none, none, none, none, none, none]) zm_2493.1 rfl rfl (by decide) rfl rfl ?_
  unfold fX12_jams at h
  refine zr_many 2 (pc' := 2) (L' := [some (.ref 161), none, none, none, none, none, none, none, none]) (st' := [.int (0 : Int32), .ref 161]) (S1 := zS c s) rfl ?_
  refine zq_put (s' := (zsi s 161 0 (0 : Int32))) rfl (zh_161 _) rfl rfl rfl rfl zsi_ne rfl ?_
  refine zr_many 1 (pc' := 6) (L' := [some (.ref 161), none, none, none, none, none, none, none, none]) (st' := [.ref 161]) (S1 := zS c (zsi s 161 0 (0 : Int32))) rfl ?_
  refine zq_get rfl (zh_161 _) rfl rfl rfl ?_
  refine zr_many 2 (pc' := 11) (L' := [some (.ref 161), some (.int ((zsi s 161 0 (0 : Int32)).1 161 6)), none, none, none, none, none, none, none]) (st' := [.ref 161]) (S1 := zS c (zsi s 161 0 (0 : Int32))) rfl ?_
  obtain ⟨r1, s2, g3, h⟩ := zb_inv h
  refine zq_call1 rfl rfl (zh_161 _) rfl rfl rfl (tX12_passing g3) rfl ?_
  refine zr_many 9 (pc' := 26) (L' := [some (.ref 161), some (.int ((zsi s 161 0 (0 : Int32)).1 161 6)), some (.int r1), some (.int (-1 : Int32)), some (.int (0 : Int32)), some (.int (0 : Int32)), some (.int (0 : Int32)), none, none]) (st' := []) (S1 := zS c s2) rfl ?_
  obtain ⟨w15, g24, h⟩ := zp_inv h
  refine zr_wk [some (.ref 161), some (.int ((zsi s 161 0 (0 : Int32)).1 161 6)), some (.int r1), some (.int (-1 : Int32)), some (.int (0 : Int32)), some (.int (0 : Int32)), some (.int (0 : Int32)), none, none] ⟨rfl, rfl, rfl, rfl, rfl, rfl, rfl, trivial⟩ (zl_cert (Z := fun w26 => zr kX12_jams 1 11 26 [some (.ref 161), some (.int ((zsi s 161 0 (0 : Int32)).1 161 6)), some (.int r1), some (.int w26.1), some (.int w26.2.1), some (.int w26.2.2.1), some (.int w26.2.2.2.1), none, none] [] (zS c w26.2.2.2.2) _ _) (Y := (fun z => zr kX12_jams 1 11 103 [some (.ref 161), some (.int ((zsi s 161 0 (0 : Int32)).1 161 6)), none, some (.int z.1), some (.int z.2.1), some (.int z.2.2.1), none, none, none] [] (zS c z.2.2.2) _ _)) (fun w o h1 h2 h3 => tX12_jams_B26 h1 h2 h3) n _ _ g24 ?_)
  show zr kX12_jams 1 11 103 [some (.ref 161), some (.int ((zsi s 161 0 (0 : Int32)).1 161 6)), none, some (.int w15.1), some (.int w15.2.1), some (.int w15.2.2.1), none, none, none] [] (zS c w15.2.2.2) _ _
  refine zr_many 2 (pc' := 105) (L' := [some (.ref 161), some (.int ((zsi s 161 0 (0 : Int32)).1 161 6)), none, some (.int w15.1), some (.int w15.2.1), some (.int w15.2.2.1), none, none, none]) (st' := [.int ((zsi s 161 0 (0 : Int32)).1 161 6), .ref 161]) (S1 := zS c w15.2.2.2) rfl ?_
  refine zq_put (s' := (zsi w15.2.2.2 161 6 ((zsi s 161 0 (0 : Int32)).1 161 6))) rfl (zh_161 _) rfl rfl rfl rfl zsi_ne rfl ?_
  refine zr_many 2 (pc' := 110) (L' := [some (.ref 161), some (.int ((zsi s 161 0 (0 : Int32)).1 161 6)), none, some (.int w15.1), some (.int w15.2.1), some (.int w15.2.2.1), none, none, none]) (st' := [.int (0 : Int32), .ref 161]) (S1 := zS c (zsi w15.2.2.2 161 6 ((zsi s 161 0 (0 : Int32)).1 161 6))) rfl ?_
  obtain ⟨s16, e17, h⟩ := zt_in h
  rw [← e17]
  refine zq_put (s' := (zsi s16 161 1 (0 : Int32))) rfl (zh_161 _) rfl rfl rfl rfl zsi_ne rfl ?_
  refine zr_many 3 (pc' := 117) (L' := [some (.ref 161), some (.int ((zsi s 161 0 (0 : Int32)).1 161 6)), none, some (.int w15.1), some (.int w15.2.1), some (.int w15.2.2.1), none, none, none]) (st' := [.long w15.2.1.toInt64, .ref 161]) (S1 := zS c (zsi s16 161 1 (0 : Int32))) rfl ?_
  obtain ⟨s19, g20, h⟩ := zp_inv h
  refine zq_call0 rfl rfl (zh_161 _) rfl rfl rfl ((tX12_enters g20).up (by decide)) rfl ?_
  refine zr_many 3 (pc' := 124) (L' := [some (.ref 161), some (.int ((zsi s 161 0 (0 : Int32)).1 161 6)), none, some (.int w15.1), some (.int w15.2.1), some (.int w15.2.2.1), none, none, none]) (st' := [.long w15.2.2.1.toInt64, .ref 161]) (S1 := zS c s19) rfl ?_
  obtain ⟨s22, g23, h⟩ := zp_inv h
  refine zq_call0 rfl rfl (zh_161 _) rfl rfl rfl ((tX12_enters g23).up (by decide)) rfl ?_
  refine zr_many 1 (pc' := 128) (L' := [some (.ref 161), some (.int ((zsi s 161 0 (0 : Int32)).1 161 6)), none, some (.int w15.1), some (.int w15.2.1), some (.int w15.2.2.1), none, none, none]) (st' := [.int w15.1]) (S1 := zS c s22) rfl ?_
  obtain ⟨rfl, rfl⟩ := Prod.mk.inj (Option.some.inj h)
  exact zq_iret rfl
def fX12_heard_J36 (n : Nat) (s : zs) : Option (Int32 × zs) := some ((-1 : Int32), s)
theorem tX12_heard_J36 {n : Nat} {c : Nat × Nat} {s : zs} {r : Int32} {s' : zs} (h : fX12_heard_J36 n s = some (r, s')) : zr kX12_heard 1 1 36 [none, none, none] [] (zS c s) (some (.int r)) (zS c s') := by
  unfold fX12_heard_J36 at h
  refine zr_many 1 (pc' := 37) (L' := [none, none, none]) (st' := [.int (-1 : Int32)]) (S1 := zS c s) rfl ?_
  obtain ⟨rfl, rfl⟩ := Prod.mk.inj (Option.some.inj h)
  exact zq_iret rfl
def fX12_heard (n : Nat) (s : zs) (x1 : Int32) (x2 : Int32) : Option (Int32 × zs) := zp (fX12_in n (zsi s 161 0 (0 : Int32)) x1.toInt64 (0 : Int64) (25 : Int64)) (fun r1 => if r1 = 0 then fX12_heard_J36 n (zsi s 161 0 (0 : Int32)) else zp (fX12_in n (zsi s 161 0 (0 : Int32)) x2.toInt64 (0 : Int64) (1 : Int64)) (fun r5 => if r5 = 0 then fX12_heard_J36 n (zsi s 161 0 (0 : Int32)) else if ¬ ((zsi s 161 0 (0 : Int32)).1 161 45) = (12 : Int32) then zt (zsi s 161 0 (0 : Int32)) (fun s10 => cond (zi_in (s10.1 161 45) 12) (zt (zsi s10 186 (s10.1 161 45).toNatClampNeg x1) (fun s12 => cond (zi_in (s12.1 161 45) 12) (zt (zsi s12 187 (s12.1 161 45).toNatClampNeg x2) (fun s14 => some (((zsi s14 161 45 ((s14.1 161 45) + (1 : Int32))).1 161 45), (zsi s14 161 45 ((s14.1 161 45) + (1 : Int32)))))) none)) none) else fX12_heard_J36 n (zsi s 161 0 (0 : Int32))))
theorem tX12_heard {n : Nat} {c : Nat × Nat} {s : zs} {x1 : Int32} {x2 : Int32} {r : Int32} {s' : zs} (h : fX12_heard n s x1 x2 = some (r, s')) : zc 2 2494 [.ref 161, .int x1, .int x2] (zS c s) (some (.int r)) (zS c s') := by
  refine zc_of (k := kX12_heard) (rt := 1) (L := [some (.ref 161), some (.int x1), some (.int x2)]) zm_2494.1 rfl rfl (by decide) rfl rfl ?_
  unfold fX12_heard at h
  refine zr_many 2 (pc' := 2) (L' := [some (.ref 161), some (.int x1), some (.int x2)]) (st' := [.int (0 : Int32), .ref 161]) (S1 := zS c s) rfl ?_
  refine zq_put (s' := (zsi s 161 0 (0 : Int32))) rfl (zh_161 _) rfl rfl rfl rfl zsi_ne rfl ?_
  refine zr_many 4 (pc' := 11) (L' := [some (.ref 161), some (.int x1), some (.int x2)]) (st' := [.long (25 : Int64), .long (0 : Int64), .long x1.toInt64]) (S1 := zS c (zsi s 161 0 (0 : Int32))) rfl ?_
  obtain ⟨r1, g3, h⟩ := zp_inv h
  refine zq_scall1 rfl (by decide) rfl rfl (tX12_in g3) rfl ?_
  refine zq_if1 (b := r1 = 0) rfl Iff.rfl rfl (fun g4 => ?_) (fun g4 => ?_)
  · rw [if_pos g4] at h
    exact zr_wk [none, none, none] trivial (tX12_heard_J36 h)
  · rw [if_neg g4] at h
    refine zr_many 4 (pc' := 21) (L' := [some (.ref 161), some (.int x1), some (.int x2)]) (st' := [.long (1 : Int64), .long (0 : Int64), .long x2.toInt64]) (S1 := zS c (zsi s 161 0 (0 : Int32))) rfl ?_
    obtain ⟨r5, g7, h⟩ := zp_inv h
    refine zq_scall1 rfl (by decide) rfl rfl (tX12_in g7) rfl ?_
    refine zq_if1 (b := r5 = 0) rfl Iff.rfl rfl (fun g8 => ?_) (fun g8 => ?_)
    · rw [if_pos g8] at h
      exact zr_wk [none, none, none] trivial (tX12_heard_J36 h)
    · rw [if_neg g8] at h
      refine zr_many 1 (pc' := 28) (L' := [some (.ref 161), some (.int x1), some (.int x2)]) (st' := [.ref 161]) (S1 := zS c (zsi s 161 0 (0 : Int32))) rfl ?_
      refine zq_get rfl (zh_161 _) rfl rfl rfl ?_
      refine zr_many 1 (pc' := 33) (L' := [some (.ref 161), some (.int x1), some (.int x2)]) (st' := [.int (12 : Int32), .int ((zsi s 161 0 (0 : Int32)).1 161 45)]) (S1 := zS c (zsi s 161 0 (0 : Int32))) rfl ?_
      refine zq_if2 (b := ¬ ((zsi s 161 0 (0 : Int32)).1 161 45) = (12 : Int32)) rfl Iff.rfl rfl (fun g9 => ?_) (fun g9 => ?_)
      · rw [if_pos g9] at h
        refine zr_many 1 (pc' := 39) (L' := [some (.ref 161), some (.int x1), some (.int x2)]) (st' := [.ref 161]) (S1 := zS c (zsi s 161 0 (0 : Int32))) rfl ?_
        refine zq_get rfl (zh_161 _) rfl rfl rfl ?_
        refine zr_many 1 (pc' := 43) (L' := [some (.ref 161), some (.int x1), some (.int x2)]) (st' := [.ref 161, .ref 186]) (S1 := zS c (zsi s 161 0 (0 : Int32))) rfl ?_
        refine zq_get rfl (zh_161 _) rfl rfl rfl ?_
        refine zr_many 1 (pc' := 47) (L' := [some (.ref 161), some (.int x1), some (.int x2)]) (st' := [.int x1, .int ((zsi s 161 0 (0 : Int32)).1 161 45), .ref 186]) (S1 := zS c (zsi s 161 0 (0 : Int32))) rfl ?_
        obtain ⟨s10, e11, h⟩ := zt_in h
        rw [← e11]
        obtain ⟨g16, h⟩ := zi_cond_inv h
        refine zq_ist rfl zh_186 rfl g16 rfl ?_
        refine zr_many 1 (pc' := 49) (L' := [some (.ref 161), some (.int x1), some (.int x2)]) (st' := [.ref 161]) (S1 := zS c (zsi s10 186 (s10.1 161 45).toNatClampNeg x1)) rfl ?_
        refine zq_get rfl (zh_161 _) rfl rfl rfl ?_
        refine zr_many 1 (pc' := 53) (L' := [some (.ref 161), some (.int x1), some (.int x2)]) (st' := [.ref 161, .ref 187]) (S1 := zS c (zsi s10 186 (s10.1 161 45).toNatClampNeg x1)) rfl ?_
        refine zq_get rfl (zh_161 _) rfl rfl rfl ?_
        refine zr_many 1 (pc' := 57) (L' := [some (.ref 161), some (.int x1), some (.int x2)]) (st' := [.int x2, .int ((zsi s10 186 (s10.1 161 45).toNatClampNeg x1).1 161 45), .ref 187]) (S1 := zS c (zsi s10 186 (s10.1 161 45).toNatClampNeg x1)) rfl ?_
        obtain ⟨s12, e13, h⟩ := zt_in h
        rw [← e13]
        obtain ⟨g17, h⟩ := zi_cond_inv h
        refine zq_ist rfl zh_187 rfl g17 rfl ?_
        refine zr_many 2 (pc' := 60) (L' := [some (.ref 161), some (.int x1), some (.int x2)]) (st' := [.ref 161, .ref 161]) (S1 := zS c (zsi s12 187 (s12.1 161 45).toNatClampNeg x2)) rfl ?_
        refine zq_get rfl (zh_161 _) rfl rfl rfl ?_
        refine zr_many 2 (pc' := 65) (L' := [some (.ref 161), some (.int x1), some (.int x2)]) (st' := [.int (((zsi s12 187 (s12.1 161 45).toNatClampNeg x2).1 161 45) + (1 : Int32)), .ref 161]) (S1 := zS c (zsi s12 187 (s12.1 161 45).toNatClampNeg x2)) rfl ?_
        obtain ⟨s14, e15, h⟩ := zt_in h
        rw [← e15]
        refine zq_put (s' := (zsi s14 161 45 ((s14.1 161 45) + (1 : Int32)))) rfl (zh_161 _) rfl rfl rfl rfl zsi_ne rfl ?_
        refine zr_many 1 (pc' := 69) (L' := [some (.ref 161), some (.int x1), some (.int x2)]) (st' := [.ref 161]) (S1 := zS c (zsi s14 161 45 ((s14.1 161 45) + (1 : Int32)))) rfl ?_
        refine zq_get rfl (zh_161 _) rfl rfl rfl ?_
        obtain ⟨rfl, rfl⟩ := Prod.mk.inj (Option.some.inj h)
        exact zq_iret rfl
      · rw [if_neg g9] at h
        exact zr_wk [none, none, none] trivial (tX12_heard_J36 h)
def fX12_forget (n : Nat) (s : zs) : Option (Int32 × zs) := zt (zsi s 161 0 (0 : Int32)) (fun s1 => some ((s1.1 161 45), (zsi s1 161 45 (0 : Int32))))
theorem tX12_forget {n : Nat} {c : Nat × Nat} {s : zs} {r : Int32} {s' : zs} (h : fX12_forget n s = some (r, s')) : zc 1 2495 [.ref 161] (zS c s) (some (.int r)) (zS c s') := by
  refine zc_of (k := kX12_forget) (rt := 1) (L := [some (.ref 161), none]) zm_2495.1 rfl rfl (by decide) rfl rfl ?_
  unfold fX12_forget at h
  refine zr_many 2 (pc' := 2) (L' := [some (.ref 161), none]) (st' := [.int (0 : Int32), .ref 161]) (S1 := zS c s) rfl ?_
  refine zq_put (s' := (zsi s 161 0 (0 : Int32))) rfl (zh_161 _) rfl rfl rfl rfl zsi_ne rfl ?_
  refine zr_many 1 (pc' := 6) (L' := [some (.ref 161), none]) (st' := [.ref 161]) (S1 := zS c (zsi s 161 0 (0 : Int32))) rfl ?_
  refine zq_get rfl (zh_161 _) rfl rfl rfl ?_
  refine zr_many 3 (pc' := 12) (L' := [some (.ref 161), some (.int ((zsi s 161 0 (0 : Int32)).1 161 45))]) (st' := [.int (0 : Int32), .ref 161]) (S1 := zS c (zsi s 161 0 (0 : Int32))) rfl ?_
  obtain ⟨s1, e2, h⟩ := zt_in h
  rw [← e2]
  refine zq_put (s' := (zsi s1 161 45 (0 : Int32))) rfl (zh_161 _) rfl rfl rfl rfl zsi_ne rfl ?_
  refine zr_many 1 (pc' := 16) (L' := [some (.ref 161), some (.int (s1.1 161 45))]) (st' := [.int (s1.1 161 45)]) (S1 := zS c (zsi s1 161 45 (0 : Int32))) rfl ?_
  obtain ⟨rfl, rfl⟩ := Prod.mk.inj (Option.some.inj h)
  exact zq_iret rfl
def fX12_singersOf_J42 (n : Nat) (s : zs) (x1 : Int32) (x3 : Int32) (y0 : Int32) (y1 : Int32) : Option ((Int32 × Int32) ⊕ (Int32)) := some (Sum.inl ((y0 ||| y1), (x3 + (1 : Int32))))
theorem tX12_singersOf_J42 {n : Nat} {c : Nat × Nat} {s : zs} {x1 : Int32} {x3 : Int32} {y0 : Int32} {y1 : Int32} {o : _} {v : Option Value} {S' : zi_S} (h : fX12_singersOf_J42 n s x1 x3 y0 y1 = some o) (hn : ∀ w4, o = Sum.inl w4 → zr kX12_singersOf 1 1 4 [some (.ref 161), some (.int x1), some (.int w4.1), some (.int w4.2)] [] (zS c s) v S') (hx : ∀ z, o = Sum.inr z → (fun z => zr kX12_singersOf 1 1 50 [none, none, some (.int z), none] [] (zS c s) v S') z) : zr kX12_singersOf 1 1 42 [some (.ref 161), some (.int x1), none, some (.int x3)] [.int y1, .int y0] (zS c s) v S' := by
  unfold fX12_singersOf_J42 at h
  refine zr_many 4 (pc' := 4) (L' := [some (.ref 161), some (.int x1), some (.int (y0 ||| y1)), some (.int (x3 + (1 : Int32)))]) (st' := []) (S1 := zS c s) rfl ?_
  obtain rfl := Option.some.inj h
  exact zr_wk [some (.ref 161), some (.int x1), some (.int (y0 ||| y1)), some (.int (x3 + (1 : Int32)))] ⟨rfl, rfl, rfl, rfl, trivial⟩ (hn ((y0 ||| y1), (x3 + (1 : Int32))) rfl)
def fX12_singersOf_B4 (n : Nat) (s : zs) (x1 : Int32) (w4 : Int32 × Int32) : Option ((Int32 × Int32) ⊕ (Int32)) := if (s.1 161 4) ≤ w4.2 then some (Sum.inr w4.1) else cond (zi_in w4.2 8) (cond (zi_in w4.2 8) (zp (fX12_in n s x1.toInt64 ((s.1 165 w4.2.toNatClampNeg).toInt64) ((s.1 166 w4.2.toNatClampNeg).toInt64)) (fun r4 => if r4 = 0 then fX12_singersOf_J42 n s x1 w4.2 w4.1 (0 : Int32) else fX12_singersOf_J42 n s x1 w4.2 w4.1 ((1 : Int32) <<< (w4.2 &&& 31)))) none) none
theorem tX12_singersOf_B4 {n : Nat} {c : Nat × Nat} {s : zs} {x1 : Int32} {w4 : Int32 × Int32} {o : _} {v : Option Value} {S' : zi_S} (h : fX12_singersOf_B4 n s x1 w4 = some o) (hn : ∀ w4, o = Sum.inl w4 → zr kX12_singersOf 1 1 4 [some (.ref 161), some (.int x1), some (.int w4.1), some (.int w4.2)] [] (zS c s) v S') (hx : ∀ z, o = Sum.inr z → (fun z => zr kX12_singersOf 1 1 50 [none, none, some (.int z), none] [] (zS c s) v S') z) : zr kX12_singersOf 1 1 4 [some (.ref 161), some (.int x1), some (.int w4.1), some (.int w4.2)] [] (zS c s) v S' := by
  unfold fX12_singersOf_B4 at h
  refine zr_many 2 (pc' := 6) (L' := [some (.ref 161), some (.int x1), some (.int w4.1), some (.int w4.2)]) (st' := [.ref 161, .int w4.2]) (S1 := zS c s) rfl ?_
  refine zq_get rfl (zh_161 _) rfl rfl rfl ?_
  refine zq_if2 (b := (s.1 161 4) ≤ w4.2) rfl Iff.rfl rfl (fun g1 => ?_) (fun g1 => ?_)
  · rw [if_pos g1] at h
    obtain rfl := Option.some.inj h
    exact zr_wk [none, none, some (.int w4.1), none] ⟨rfl, trivial⟩ (hx w4.1 rfl)
  · rw [if_neg g1] at h
    refine zr_many 4 (pc' := 16) (L' := [some (.ref 161), some (.int x1), some (.int w4.1), some (.int w4.2)]) (st' := [.ref 161, .long x1.toInt64, .int w4.1]) (S1 := zS c s) rfl ?_
    refine zq_get rfl (zh_161 _) rfl rfl rfl ?_
    refine zr_many 1 (pc' := 20) (L' := [some (.ref 161), some (.int x1), some (.int w4.1), some (.int w4.2)]) (st' := [.int w4.2, .ref 165, .long x1.toInt64, .int w4.1]) (S1 := zS c s) rfl ?_
    obtain ⟨g2, h⟩ := zi_cond_inv h
    refine zq_ild rfl (zh_165 _) rfl g2 rfl ?_
    refine zr_many 2 (pc' := 23) (L' := [some (.ref 161), some (.int x1), some (.int w4.1), some (.int w4.2)]) (st' := [.ref 161, .long (s.1 165 w4.2.toNatClampNeg).toInt64, .long x1.toInt64, .int w4.1]) (S1 := zS c s) rfl ?_
    refine zq_get rfl (zh_161 _) rfl rfl rfl ?_
    refine zr_many 1 (pc' := 27) (L' := [some (.ref 161), some (.int x1), some (.int w4.1), some (.int w4.2)]) (st' := [.int w4.2, .ref 166, .long (s.1 165 w4.2.toNatClampNeg).toInt64, .long x1.toInt64, .int w4.1]) (S1 := zS c s) rfl ?_
    obtain ⟨g3, h⟩ := zi_cond_inv h
    refine zq_ild rfl (zh_166 _) rfl g3 rfl ?_
    refine zr_many 1 (pc' := 29) (L' := [some (.ref 161), some (.int x1), some (.int w4.1), some (.int w4.2)]) (st' := [.long (s.1 166 w4.2.toNatClampNeg).toInt64, .long (s.1 165 w4.2.toNatClampNeg).toInt64, .long x1.toInt64, .int w4.1]) (S1 := zS c s) rfl ?_
    obtain ⟨r4, g6, h⟩ := zp_inv h
    refine zq_scall1 rfl (by decide) rfl rfl (tX12_in g6) rfl ?_
    refine zq_if1 (b := r4 = 0) rfl Iff.rfl rfl (fun g7 => ?_) (fun g7 => ?_)
    · rw [if_pos g7] at h
      refine zr_many 1 (pc' := 42) (L' := [some (.ref 161), some (.int x1), some (.int w4.1), some (.int w4.2)]) (st' := [.int (0 : Int32), .int w4.1]) (S1 := zS c s) rfl ?_
      exact zr_wk [some (.ref 161), some (.int x1), none, some (.int w4.2)] ⟨rfl, rfl, rfl, trivial⟩ (tX12_singersOf_J42 h hn hx)
    · rw [if_neg g7] at h
      refine zr_many 4 (pc' := 42) (L' := [some (.ref 161), some (.int x1), some (.int w4.1), some (.int w4.2)]) (st' := [.int ((1 : Int32) <<< (w4.2 &&& 31)), .int w4.1]) (S1 := zS c s) rfl ?_
      exact zr_wk [some (.ref 161), some (.int x1), none, some (.int w4.2)] ⟨rfl, rfl, rfl, trivial⟩ (tX12_singersOf_J42 h hn hx)
def fX12_singersOf (n : Nat) (s : zs) (x1 : Int32) : Option Int32 := zp (zl (fX12_singersOf_B4 n s x1) n ((0 : Int32), (0 : Int32))) (fun w8 => some w8)
theorem tX12_singersOf {n : Nat} {c : Nat × Nat} {s : zs} {x1 : Int32} {r : Int32} (h : fX12_singersOf n s x1 = some r) : zc 2 2496 [.ref 161, .int x1] (zS c s) (some (.int r)) (zS c s) := by
  refine zc_of (k := kX12_singersOf) (rt := 1) (L := [some (.ref 161), some (.int x1), none, none]) zm_2496.1 rfl rfl (by decide) rfl rfl ?_
  unfold fX12_singersOf at h
  refine zr_many 4 (pc' := 4) (L' := [some (.ref 161), some (.int x1), some (.int (0 : Int32)), some (.int (0 : Int32))]) (st' := []) (S1 := zS c s) rfl ?_
  obtain ⟨w8, g9, h⟩ := zp_inv h
  refine zr_wk [some (.ref 161), some (.int x1), some (.int (0 : Int32)), some (.int (0 : Int32))] ⟨rfl, rfl, rfl, rfl, trivial⟩ (zl_cert (Z := fun w4 => zr kX12_singersOf 1 1 4 [some (.ref 161), some (.int x1), some (.int w4.1), some (.int w4.2)] [] (zS c s) _ _) (Y := (fun z => zr kX12_singersOf 1 1 50 [none, none, some (.int z), none] [] (zS c s) _ _)) (fun w o h1 h2 h3 => tX12_singersOf_B4 h1 h2 h3) n _ _ g9 ?_)
  show zr kX12_singersOf 1 1 50 [none, none, some (.int w8), none] [] (zS c s) _ _
  refine zr_many 1 (pc' := 51) (L' := [none, none, some (.int w8), none]) (st' := [.int w8]) (S1 := zS c s) rfl ?_
  obtain rfl := Option.some.inj h
  exact zq_iret rfl
