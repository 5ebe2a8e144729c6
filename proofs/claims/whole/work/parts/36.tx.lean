/-! ===== texts: what length, charAt and indexOf answer ===== -/
def zT (m : Nat) : Prop := ∃ j, j < 6 ∧ m = 1000000 + 2 * j
def ztx (m : Nat) : List Int32 := zi_txt.getD ((m - 1000000) / 2) []
theorem zT_ble {m : Nat} (h : zT m) : Nat.ble 1000000 m = true := by
  obtain ⟨j, _, rfl⟩ := h
  exact Nat.ble_eq_true_of_le (Nat.le_add_right _ _)
theorem zT_ble1 {m : Nat} (h : zT m) : Nat.ble 1000000 (m + 1) = true := by
  obtain ⟨j, _, rfl⟩ := h
  exact Nat.ble_eq_true_of_le (by omega)
theorem zro2_T (b : Nat) : ∀ j, j < 6 → zi_ro2 b (2 * j) = .inr (15, [.ref (b + 2 * j + 1), .int 0])
  | 0, _ => rfl
  | 1, _ => rfl
  | 2, _ => rfl
  | 3, _ => rfl
  | 4, _ => rfl
  | 5, _ => rfl
  | j + 6, h => by omega
theorem zro2_B (b : Nat) : ∀ j, j < 6 → zi_ro2 b (2 * j + 1) = .inl (4, (zi_txt.getD j []).length, .inl fun i => (zi_txt.getD j []).getD i 0)
  | 0, _ => rfl
  | 1, _ => rfl
  | 2, _ => rfl
  | 3, _ => rfl
  | 4, _ => rfl
  | 5, _ => rfl
  | j + 6, h => by omega
theorem zh_T {m : Nat} (h : zT m) (s : zs) : zh s m = .inr (15, [.ref (m + 1), .int 0]) := by
  have hb := zT_ble h
  obtain ⟨j, hj, rfl⟩ := h
  simp only [zh, zhc, hb, cond_true, zi_ro, Nat.add_sub_cancel_left]
  exact zro2_T _ j hj
theorem zh_B {m : Nat} (h : zT m) (s : zs) : zh s (m + 1) = .inl (4, (ztx m).length, .inl fun i => (ztx m).getD i 0) := by
  have hb := zT_ble1 h
  obtain ⟨j, hj, rfl⟩ := h
  rw [Nat.add_assoc] at hb
  simp only [zh, zhc, hb, cond_true, zi_ro, Nat.add_assoc, Nat.add_sub_cancel_left, ztx, Nat.mul_div_cancel_left j (by decide : 0 < 2)]
  exact zro2_B _ j hj
theorem zT_all {p : List Int32 → Prop} (h : ∀ j, j < 6 → p (zi_txt.getD j [])) {m : Nat} (hm : zT m) : p (ztx m) := by
  obtain ⟨j, hj, rfl⟩ := hm
  have e1 : (1000000 + 2 * j - 1000000) / 2 = j := by omega
  unfold ztx
  rw [e1]
  exact h j hj
theorem ztx_len {m : Nat} (h : zT m) : (ztx m).length < 8 := zT_all (p := fun l => l.length < 8) (by decide) h
theorem ztx_shr {m : Nat} (h : zT m) : Int32.ofNat (ztx m).length >>> ((0 : Int32) &&& 31) = Int32.ofNat (ztx m).length := zT_all (p := fun l => Int32.ofNat l.length >>> ((0 : Int32) &&& 31) = Int32.ofNat l.length) (by decide) h
theorem ztx_chr {m : Nat} (h : zT m) : ∀ k, k < (ztx m).length → (((ztx m).getD k 0 &&& 255).toUInt32 % 65536).toInt32 = (ztx m).getD k 0 := zT_all (p := fun l => ∀ k, k < l.length → ((l.getD k 0 &&& 255).toUInt32 % 65536).toInt32 = l.getD k 0) (by decide) h
theorem zT_0 : zT (1000000 + 0) := ⟨0, by decide, rfl⟩
theorem zT_2 : zT (1000000 + 2) := ⟨1, by decide, rfl⟩
theorem zT_4 : zT (1000000 + 4) := ⟨2, by decide, rfl⟩
theorem zT_6 : zT (1000000 + 6) := ⟨3, by decide, rfl⟩
theorem zT_8 : zT (1000000 + 8) := ⟨4, by decide, rfl⟩
theorem zT_10 : zT (1000000 + 10) := ⟨5, by decide, rfl⟩
theorem zt_u16 (u : UInt32) : (((u % 65536).toInt32).toUInt32 % 65536).toInt32 = (u % 65536).toInt32 := by
  have e : (u % 65536).toInt32.toUInt32 = u % 65536 := rfl
  rw [e]
  congr 1
  apply UInt32.toNat_inj.mp
  simp [UInt32.toNat_mod]
section ZQT
variable {k : List (Option zi_I)} {rt d pc pc' : Nat} {L : zi_L} {st r : List Value} {S S1 S' : zi_S} {v : Option Value} {c : Nat × Nat} {s : zs} {m : Nat}
theorem zq_getT {ix x y a : Nat} {z : List (Int32 × Nat)} {fs : List Value} {w : Value} (h1 : k[pc]? = some (some (.getfield ix, 3, x, y, z))) (hc : zh s a = .inr (x, fs)) (ha : Nat.ble 1000000 a = true) (hv : fs[y]? = some w) (hp : pc + 3 = pc') (h : zr k rt d pc' L (w :: r) (zS c s) v S') : zr k rt d pc L (.ref a :: r) (zS c s) v S' := by
  subst hp
  refine zr_nx h1 ?_ h
  simp only [zi_ex, zi_getf, hc, ha, Nat.beq_refl, Bool.or_true, Bool.and_self, cond_true, hv]
  rfl
theorem zq_alenT {a n : Nat} {f : Nat → Int32} (h1 : k[pc]? = some (some (.arraylength, 1, 0, 0, []))) (hc : zh s a = .inl (4, n, .inl f)) (ha : Nat.ble 1000000 a = true) (hp : pc + 1 = pc') (h : zr k rt d pc' L (.int (Int32.ofNat n) :: r) (zS c s) v S') : zr k rt d pc L (.ref a :: r) (zS c s) v S' := by
  subst hp
  refine zr_nx h1 ?_ h
  simp only [zi_ex, zi_alen, hc, ha, Nat.beq_refl, Bool.or_true, Bool.and_self, cond_true]
  rfl
theorem zq_bldT {a n : Nat} {i : Int32} {f : Nat → Int32} (h1 : k[pc]? = some (some (.baload, 1, 0, 0, []))) (hc : zh s a = .inl (4, n, .inl f)) (ha : Nat.ble 1000000 a = true) (hi : zi_in i n = true) (hp : pc + 1 = pc') (h : zr k rt d pc' L (.int (f i.toNatClampNeg) :: r) (zS c s) v S') : zr k rt d pc L (.int i :: .ref a :: r) (zS c s) v S' := by
  subst hp
  refine zr_nx h1 ?_ h
  simp only [zi_ex, zi_bald, hc, ha, hi, Nat.beq_refl, Bool.or_true, Bool.and_self, cond_true]
  rfl
theorem zq_callT {ix x y a co : Nat} {z : List (Int32 × Nat)} {fs as : List Value} {w : Value} (h1 : k[pc]? = some (some (.invokevirtual ix, 3, x, y, z))) (hpop : zi_pop (y + 1) st [] = some (.ref a :: as, r)) (hc : zh s a = .inr (co, fs)) (hx : Nat.beq co (x / 200) = true) (ha : Nat.ble 1000000 a = true) (hsm : zi_sm r = true) (hz : zc d x (.ref a :: as) (zS c s) (some w) S1) (hp : pc + 3 = pc') (h : zr k rt d pc' L (w :: r) S1 v S') : zr k rt d pc L st (zS c s) v S' := by
  subst hp
  refine zr_cl h1 ?_ hz h
  simp only [zi_ex, zi_inv, hpop, hc, hx, ha, hsm, Bool.or_true, Bool.and_self, cond_true]
theorem zq_scall0 {ix x y : Nat} {z : List (Int32 × Nat)} {as : List Value} (h1 : k[pc]? = some (some (.invokestatic ix, 3, x, y, z))) (hx : x < 9000) (hpop : zi_pop y st [] = some (as, r)) (hsm : zi_sm r = true) (hz : zc d x as S none S1) (hp : pc + 3 = pc') (h : zr k rt d pc' L r S1 v S') : zr k rt d pc L st S v S' := zq_calls h1 hx hpop hsm hz hp h
theorem zq_cret {x : Int32} (h1 : k[pc]? = some (some (.ireturn, 1, 0, 0, []))) (hx : (x.toUInt32 % 65536).toInt32 = x) : zr k 4 d pc L [.int x] S (some (.int x)) S := zr_rt h1 (by simp only [zi_ex, if_pos hx])
theorem zq_bret {x : Int32} (h1 : k[pc]? = some (some (.ireturn, 1, 0, 0, []))) (hx : x.toInt8.toInt32 = x) : zr k 5 d pc L [.int x] S (some (.int x)) S := zr_rt h1 (by simp only [zi_ex, if_pos hx])
theorem zc_coder (hm : zT m) : zc 1 3004 [.ref m] (zS c s) (some (.int 0)) (zS c s) := by
  refine zc_of (k := kJ0_coder_7d493) (rt := 5) (L := [some (.ref m)]) zm_3004.1 rfl rfl (by decide) rfl rfl ?_
  refine zr_many 3 (pc' := 7) rfl ?_
  refine zq_getT rfl (zh_T hm s) (zT_ble hm) rfl rfl ?_
  refine zr_many 1 (pc' := 14) rfl ?_
  exact zq_bret rfl (by decide)
theorem zc_isL (hm : zT m) : zc 1 3005 [.ref m] (zS c s) (some (.int 1)) (zS c s) := by
  refine zc_of (k := kJ0_isLatin1_aae02) (rt := 2) (L := [some (.ref m)]) zm_3005.1 rfl rfl (by decide) rfl rfl ?_
  refine zr_many 3 (pc' := 7) rfl ?_
  refine zq_getT rfl (zh_T hm s) (zT_ble hm) rfl rfl ?_
  refine zr_many 3 (pc' := 18) rfl ?_
  exact zq_zret rfl (by decide)
theorem zc_len (hm : zT m) : zc 2 3000 [.ref m] (zS c s) (some (.int (Int32.ofNat (ztx m).length))) (zS c s) := by
  refine zc_of (k := kJ0_length_8abf5) (rt := 1) (L := [some (.ref m)]) zm_3000.1 rfl rfl (by decide) rfl rfl ?_
  refine zr_many 1 (pc' := 1) rfl ?_
  refine zq_getT rfl (zh_T hm s) (zT_ble hm) rfl rfl ?_
  refine zq_alenT rfl (zh_B hm s) (zT_ble1 hm) rfl ?_
  refine zr_many 1 (pc' := 6) rfl ?_
  refine zq_callT rfl rfl (zh_T hm s) rfl (zT_ble hm) rfl (zc_coder hm) rfl ?_
  refine zr_many 1 (pc' := 10) (st' := [.int (Int32.ofNat (ztx m).length >>> ((0 : Int32) &&& 31))]) rfl ?_
  rw [ztx_shr hm]
  exact zq_iret rfl
theorem zc_chr1 (hm : zT m) {i : Int32} (h0 : 0 ≤ i) (h1 : i < Int32.ofNat (ztx m).length) (h2 : zi_in i (ztx m).length = true) : zc 2 3200 [.ref (m + 1), .int i] (zS c s) (some (.int ((ztx m).getD i.toNatClampNeg 0))) (zS c s) := by
  refine zc_of (k := kJ1_charAt_3b067) (rt := 4) (L := [some (.ref (m + 1)), some (.int i)]) zm_3200.1 rfl rfl (by decide) rfl rfl ?_
  refine zr_many 2 (pc' := 2) rfl ?_
  refine zq_alenT rfl (zh_B hm s) (zT_ble1 hm) rfl ?_
  refine zq_scall0 rfl (by decide) rfl rfl (zc_chk h0 h1) rfl ?_
  refine zr_many 2 (pc' := 8) rfl ?_
  refine zq_bldT rfl (zh_B hm s) (zT_ble1 hm) h2 rfl ?_
  refine zr_many 3 (pc' := 14) (st' := [.int (((ztx m).getD i.toNatClampNeg 0 &&& 255).toUInt32 % 65536).toInt32]) rfl ?_
  have hk : i.toNatClampNeg < (ztx m).length := Nat.not_le.mp fun q => zi_in_vp h2 (Or.inr q)
  rw [ztx_chr hm _ hk]
  refine zq_cret rfl ?_
  have := ztx_chr hm _ hk
  rw [← this]
  generalize ((ztx m).getD i.toNatClampNeg 0 &&& 255).toUInt32 = u
  exact zt_u16 u
theorem zc_chr (hm : zT m) {i : Int32} (h0 : 0 ≤ i) (h1 : i < Int32.ofNat (ztx m).length) (h2 : zi_in i (ztx m).length = true) : zc 3 3001 [.ref m, .int i] (zS c s) (some (.int ((ztx m).getD i.toNatClampNeg 0))) (zS c s) := by
  refine zc_of (k := kJ0_charAt_5068e) (rt := 4) (L := [some (.ref m), some (.int i)]) zm_3001.1 rfl rfl (by decide) rfl rfl ?_
  refine zr_many 1 (pc' := 1) rfl ?_
  refine zq_callT rfl rfl (zh_T hm s) rfl (zT_ble hm) rfl ((zc_isL hm).up (by decide)) rfl ?_
  refine zr_many 2 (pc' := 8) rfl ?_
  refine zq_getT rfl (zh_T hm s) (zT_ble hm) rfl rfl ?_
  refine zr_many 1 (pc' := 12) rfl ?_
  refine zq_scall1 rfl (by decide) rfl rfl (zc_chr1 hm h0 h1 h2) rfl ?_
  have hk : i.toNatClampNeg < (ztx m).length := Nat.not_le.mp fun q => zi_in_vp h2 (Or.inr q)
  refine zq_cret rfl ?_
  have := ztx_chr hm _ hk
  rw [← this]
  generalize ((ztx m).getD i.toNatClampNeg 0 &&& 255).toUInt32 = u
  exact zt_u16 u
theorem zt_in3 {i : Int32} {n : Nat} (hn : n < 8) (h : zi_in i n = true) : 0 ≤ i ∧ i < Int32.ofNat n := by
  simp only [zi_in, Bool.and_eq_true, Bool.not_eq_true', decide_eq_false_iff_not] at h
  have h1 := Nat.le_of_ble_eq_true h.2
  have h0 : 0 ≤ i := Int32.not_lt.mp h.1
  refine ⟨h0, ?_⟩
  rw [Int32.lt_iff_toInt_lt]
  rw [Int32.le_iff_toInt_le] at h0
  have e1 : (Int32.ofNat n).toInt = n := (show ∀ n, n < 8 → (Int32.ofNat n).toInt = n by decide) n hn
  have e2 : (0 : Int32).toInt = 0 := rfl
  rw [e1]
  have e3 : i.toNatClampNeg = i.toInt.toNat := rfl
  omega
theorem zc_chr' (hm : zT m) {i : Int32} (h2 : zi_in i (ztx m).length = true) : zc 3 3001 [.ref m, .int i] (zS c s) (some (.int ((ztx m).getD i.toNatClampNeg 0))) (zS c s) := zc_chr hm (zt_in3 (ztx_len hm) h2).1 (zt_in3 (ztx_len hm) h2).2 h2
end ZQT
def ztf : List Int32 → Int32 → Nat → Int32
  | [], _, _ => -1
  | a :: l, b, i => if a = b then Int32.ofNat i else ztf l b (i + 1)
def zti (l : List Int32) (x : Int32) : Int32 := if x < 0 then -1 else if 255 < x then -1 else ztf l x.toInt8.toInt32 0
section ZQI
variable {d : Nat} {c : Nat × Nat} {s : zs} {m : Nat}
theorem zt_cmp : ∀ a, a < 8 → ∀ b, b < 8 → (Int32.ofNat a ≤ Int32.ofNat b ↔ a ≤ b) := by decide
theorem zt_inx : ∀ a, a < 8 → ∀ b, b < 8 → a < b → zi_in (Int32.ofNat a) b = true ∧ (Int32.ofNat a).toNatClampNeg = a := by decide
theorem zc_ixl (hm : zT m) {x y b : Int32} : ∀ (l : List Int32) (k : Nat), (∀ i, l.getD i 0 = (ztx m).getD (k + i) 0) → k + l.length = (ztx m).length → zr kJ1_indexOfChar_4cfef 1 d 7 [some (.ref (m + 1)), some (.int x), some (.int y), some (.int (Int32.ofNat (ztx m).length)), some (.int b), some (.int (Int32.ofNat k))] [] (zS c s) (some (.int (ztf l b k))) (zS c s)
  | [], k, _, hk => by
    have hl := ztx_len hm
    refine zr_many 2 (pc' := 10) rfl ?_
    refine zq_if2 (b := Int32.ofNat (ztx m).length ≤ Int32.ofNat k) rfl Iff.rfl rfl (fun g => ?_) (fun g => absurd ((zt_cmp _ hl _ (by simp at hk; omega)).mpr (by simp at hk; omega)) g)
    refine zr_many 1 (pc' := 32) rfl ?_
    exact zq_iret rfl
  | a :: l, k, he, hk => by
    have hl := ztx_len hm
    simp only [List.length_cons] at hk
    have hin := zt_inx k (by omega) _ hl (by omega)
    refine zr_many 2 (pc' := 10) rfl ?_
    refine zq_if2 (b := Int32.ofNat (ztx m).length ≤ Int32.ofNat k) rfl Iff.rfl rfl (fun g => absurd ((zt_cmp _ hl _ (by omega)).mp g) (by omega)) (fun g => ?_)
    refine zr_many 2 (pc' := 16) rfl ?_
    refine zq_bldT rfl (zh_B hm s) (zT_ble1 hm) hin.1 rfl ?_
    rw [hin.2]
    have e : (ztx m).getD k 0 = a := (he 0).symm
    rw [e]
    refine zr_many 1 (pc' := 19) rfl ?_
    refine zq_if2 (b := ¬ a = b) rfl Iff.rfl rfl (fun g => ?_) (fun g => ?_)
    · rw [ztf, if_neg g]
      refine zr_many 2 (pc' := 7) rfl ?_
      have e2 : Int32.ofNat k + 1 = Int32.ofNat (k + 1) := by
        rw [Int32.ofNat_add]; rfl
      have e3 := zc_ixl (x := x) (y := y) (b := b) hm l (k + 1) (fun i => by have := he (i + 1); simpa [Nat.add_assoc, Nat.add_comm 1 i] using this) (by omega)
      rw [← e2] at e3
      exact e3
    · rw [ztf, if_pos (Decidable.not_not.mp g)]
      refine zr_many 1 (pc' := 24) rfl ?_
      exact zq_iret rfl
theorem zc_ixc (hm : zT m) {x : Int32} : zc 1 3203 [.ref (m + 1), .int x, .int 0, .int (Int32.ofNat (ztx m).length)] (zS c s) (some (.int (ztf (ztx m) x.toInt8.toInt32 0))) (zS c s) := by
  refine zc_of (k := kJ1_indexOfChar_4cfef) (rt := 1) (L := [some (.ref (m + 1)), some (.int x), some (.int 0), some (.int (Int32.ofNat (ztx m).length)), none, none]) zm_3203.1 rfl rfl (by decide) rfl rfl ?_
  refine zr_many 5 (pc' := 7) rfl ?_
  exact zc_ixl hm (ztx m) 0 (fun i => by rw [Nat.zero_add]) (Nat.zero_add _)
theorem zc_can {x : Int32} : zc 1 3201 [.int x] (zS c s) (some (.int (if x < 0 then 0 else if 255 < x then 0 else 1))) (zS c s) := by
  refine zc_of (k := kJ1_canEncode_9a6ad) (rt := 2) (L := [some (.int x)]) zm_3201.1 rfl rfl (by decide) rfl rfl ?_
  refine zr_many 1 (pc' := 1) rfl ?_
  refine zq_if1 (b := x < 0) rfl Iff.rfl rfl (fun g => ?_) (fun g => ?_)
  · rw [if_pos g]
    refine zr_many 1 (pc' := 16) rfl ?_
    exact zq_zret rfl (by decide)
  · rw [if_neg g]
    refine zr_many 2 (pc' := 8) rfl ?_
    refine zq_if2 (b := 255 < x) rfl Iff.rfl rfl (fun g => ?_) (fun g => ?_)
    · rw [if_pos g]
      refine zr_many 1 (pc' := 16) rfl ?_
      exact zq_zret rfl (by decide)
    · rw [if_neg g]
      refine zr_many 2 (pc' := 16) rfl ?_
      exact zq_zret rfl (by decide)
theorem zt_mn : ∀ a, a < 8 → (if Int32.ofNat a < Int32.ofNat a then Int32.ofNat a else Int32.ofNat a) = Int32.ofNat a := fun a _ => by split <;> rfl
theorem zc_ix1 (hm : zT m) (h0 : 0 < (ztx m).length) {x : Int32} : zc 2 3202 [.ref (m + 1), .int x, .int 0, .int (Int32.ofNat (ztx m).length)] (zS c s) (some (.int (zti (ztx m) x))) (zS c s) := by
  have hl := ztx_len hm
  refine zc_of (k := kJ1_indexOf_4cfef) (rt := 1) (L := [some (.ref (m + 1)), some (.int x), some (.int 0), some (.int (Int32.ofNat (ztx m).length))]) zm_3202.1 rfl rfl (by decide) rfl rfl ?_
  refine zr_many 1 (pc' := 1) rfl ?_
  refine zq_scall1 rfl (by decide) rfl rfl zc_can rfl ?_
  refine zq_if1 (b := ¬ (if x < 0 then (0 : Int32) else if 255 < x then 0 else 1) = 0) rfl Iff.rfl rfl (fun g => ?_) (fun g => ?_)
  · have e : zti (ztx m) x = ztf (ztx m) x.toInt8.toInt32 0 := by
      unfold zti
      split
      · rw [if_pos (by assumption)] at g; exact absurd rfl g
      · rw [if_neg (by assumption)] at g
        split
        · rw [if_pos (by assumption)] at g; exact absurd rfl g
        · rfl
    rw [e]
    refine zr_many 6 (pc' := 17) (st' := [.ref (m + 1), .int (Int32.ofNat (ztx m).length)]) (L' := [some (.ref (m + 1)), some (.int x), some (.int 0), some (.int (Int32.ofNat (ztx m).length))]) rfl ?_
    refine zq_alenT rfl (zh_B hm s) (zT_ble1 hm) rfl ?_
    refine zr_many 1 (pc' := 21) (st' := [.int (if Int32.ofNat (ztx m).length < Int32.ofNat (ztx m).length then Int32.ofNat (ztx m).length else Int32.ofNat (ztx m).length)]) rfl ?_
    rw [zt_mn _ hl]
    refine zr_many 3 (pc' := 24) rfl ?_
    refine zq_if2 (b := (0 : Int32) < Int32.ofNat (ztx m).length) rfl Iff.rfl rfl (fun _ => ?_) (fun q => absurd ?_ q)
    · refine zr_many 4 (pc' := 33) rfl ?_
      refine zq_scall1 rfl (by decide) rfl rfl (zc_ixc hm) rfl ?_
      exact zq_iret rfl
    · exact (show ∀ a, a < 8 → 0 < a → (0 : Int32) < Int32.ofNat a by decide) _ hl h0
  · have e : zti (ztx m) x = -1 := by
      unfold zti
      split
      · rfl
      · rw [if_neg (by assumption)] at g
        split
        · rfl
        · rw [if_neg (by assumption)] at g; exact absurd (by decide) g
    rw [e]
    refine zr_many 1 (pc' := 8) rfl ?_
    exact zq_iret rfl
theorem zc_ix2 (hm : zT m) (h0 : 0 < (ztx m).length) {x : Int32} : zc 3 3003 [.ref m, .int x, .int 0] (zS c s) (some (.int (zti (ztx m) x))) (zS c s) := by
  refine zc_of (k := kJ0_indexOf_7cf53) (rt := 1) (L := [some (.ref m), some (.int x), some (.int 0)]) zm_3003.1 rfl rfl (by decide) rfl rfl ?_
  refine zr_many 1 (pc' := 1) rfl ?_
  refine zq_callT rfl rfl (zh_T hm s) rfl (zT_ble hm) rfl ((zc_isL hm).up (by decide)) rfl ?_
  refine zr_many 2 (pc' := 8) rfl ?_
  refine zq_getT rfl (zh_T hm s) (zT_ble hm) rfl rfl ?_
  refine zr_many 3 (pc' := 14) rfl ?_
  refine zq_callT rfl rfl (zh_T hm s) rfl (zT_ble hm) rfl (zc_len hm) rfl ?_
  refine zq_scall1 rfl (by decide) rfl rfl (zc_ix1 hm h0) rfl ?_
  refine zr_many 1 (pc' := 36) rfl ?_
  exact zq_iret rfl
theorem zc_idx (hm : zT m) (h0 : 0 < (ztx m).length) {x : Int32} : zc 4 3002 [.ref m, .int x] (zS c s) (some (.int (zti (ztx m) x))) (zS c s) := by
  refine zc_of (k := kJ0_indexOf_0f7a4) (rt := 1) (L := [some (.ref m), some (.int x)]) zm_3002.1 rfl rfl (by decide) rfl rfl ?_
  refine zr_many 3 (pc' := 3) rfl ?_
  refine zq_callT rfl rfl (zh_T hm s) rfl (zT_ble hm) rfl (zc_ix2 hm h0) rfl ?_
  exact zq_iret rfl
end ZQI
