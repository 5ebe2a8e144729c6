/-! ===== new cells, arraycopy, max, min, Object's constructor, switches ===== -/
theorem zi_dv_v (ad : Nat → Nat) (t : FieldType) : zi_v ad (zi_dv t) = zi_dv t := by cases t <;> rfl
theorem zi_new_v (ad : Nat → Nat) (x : Nat) : (zi_new x).map (zi_v ad) = zi_new x := by
  unfold zi_new
  rw [List.map_map]
  exact List.map_congr_left fun k _ => zi_dv_v ad _
theorem zi_new_ok (n x : Nat) : ∀ v ∈ zi_new x, zi_ok n v := by
  intro v hv
  obtain ⟨k, -, rfl⟩ := List.mem_map.mp hv
  cases zi_ft x k <;> trivial
set_option maxRecDepth 20000 in
theorem zi_new_def : ∀ x, x < 13 → ∀ j, j < zi_fn x → defaultValue (zi_ft x j) = vp_V (zi_new x) j := by decide +kernel
theorem zi_arr_e (cy : Nat → ClassId) (ad : Nat → Nat) (t n : Nat) : zi_e cy ad (.inl (t, zi_arr t n)) = .inl (cy t, zi_arr t n) := by
  unfold zi_arr
  split <;> rfl
theorem zi_arr_ok (m t n : Nat) : zi_okC m (.inl (t, zi_arr t n)) := by
  unfold zi_arr
  split
  · trivial
  · intro i k h
    cases h
  · trivial
section ZW
variable {p : Program} {l : Launch} {e : Env} {R : Room} {s : State} {m : MethodId} {args : Array Value} {below : List Frame} {meth : Method} {c : Code} {Q : State → Prop} {D : va_G} {cy : Nat → ClassId} {A : Nat → Prop} {cc : ByteArray} {nL n0 k0 s0 o rt n i x y : Nat} {nm : String} {ad0 : Nat → Nat} {pc pc' : Nat} {L L' : zi_L} {st st' : List Value} {S S' : zi_S}
/-- a cell comes: the picture grows -/
theorem zi_grow {ad : Nat → Nat} {ls : Array Slot} {H H1 : Heap} {locs : List Loc} {r : List Value} {cl : zi_C} {w q : Nat} (hn0 : n0 ≤ S.2.1) (hk : k0 ≤ S.2.2.1) (hs : s0 ≤ S.2.2.2) (hn : S.2.1 < 1000000) (hag : zi_ag n0 ad0 ad) (hH : zi_Hp D cy A ad s.heap H locs S) (hL : zi_Lv ad ls nL S.2.1 L) (hst : ∀ v ∈ r, zi_ok S.2.1 v) (hcl : zi_okC S.2.1 cl) (hq : va_P D vwCl (zi_w cy ad S.1 S.2.1 ++ [(q, zi_e cy (va_up ad S.2.1 q) cl)]) H1) (hqD : va_D A (zi_w cy ad S.1 S.2.1 ++ [(q, zi_e cy (va_up ad S.2.1 q) cl)])) (hS : va_S A s.heap H1 locs)
    (kk : zi_Go p l e R s m args below meth c Q D cy A nL n0 ad0 k0 s0 pc' L (.ref S.2.1 :: r) (zi_put S.1 S.2.1 cl, S.2.1 + 1, S.2.2.1 + 1, S.2.2.2 + w)) : W p l e R s m args below meth c H1 locs (S.2.2.1 - k0 + 1) (S.2.2.2 - s0 + w) Q (F0 m pc' ls (.ref q :: r.map (zi_v ad))) := by
  have ha : zi_ag S.2.1 ad (va_up ad S.2.1 q) := fun k hk => by
    have : k ≠ S.2.1 := by omega
    simp [va_up, this]
  have e1 : va_up ad S.2.1 q S.2.1 = q := by simp [va_up]
  rw [zi_w_push ha e1 hH.2.2.2.1] at hq hqD
  have ha0 : zi_ag n0 ad0 (va_up ad S.2.1 q) := fun k hk => (ha k (by omega)).trans (hag k hk)
  have hH1 : zi_Hp D cy A (va_up ad S.2.1 q) s.heap H1 locs (zi_put S.1 S.2.1 cl, S.2.1 + 1, S.2.2.1 + 1, S.2.2.2 + w) := by
    refine ⟨hq, hqD, hS, fun k hk => ?_, by show S.2.1 + 1 ≤ 1000000; omega, fun k hk => ?_⟩
    rotate_left
    · show zi_put S.1 S.2.1 cl k = zi_ro k
      have e : k ≠ S.2.1 := by omega
      simp only [zi_put, va_up, if_neg e]
      exact hH.2.2.2.2.2 k hk
    show zi_okC (S.2.1 + 1) (zi_put S.1 S.2.1 cl k)
    by_cases h : k = S.2.1
    · subst h
      simp only [zi_put, va_up, if_true]
      exact hcl.mono (by omega)
    · simp only [zi_put, va_up, if_neg h]
      have hk' : k < S.2.1 + 1 := hk
      exact (hH.2.2.2.1 k (by omega)).mono (by omega)
  have k := kk _ ls H1 locs ha0 hH1 (hL.ag ha (Nat.le_succ _)) (zi_all_cons (Or.inl (Nat.lt_succ_self _)) fun v hv => (hst v hv).mono (Nat.le_succ _))
  rw [List.map_cons, zi_map_ag ha hst] at k
  have e2 : S.2.2.1 + 1 - k0 = S.2.2.1 - k0 + 1 := by omega
  have e3 : S.2.2.2 + w - s0 = S.2.2.2 - s0 + w := by omega
  have k : W p l e R s m args below meth c H1 locs (S.2.2.1 + 1 - k0) (S.2.2.2 + w - s0) Q (F0 m pc' ls (.ref (va_up ad S.2.1 q S.2.1) :: r.map (zi_v ad))) := k
  rw [e1, e2, e3] at k
  exact k
theorem zi_q_new {ix : Nat} (X : zi_X p s m args meth c R D cy A cc nL o nm rt ad0) (hd : decode cc pc = .ok (.new ix, 3)) (hg : ∃ r : vw_C, vwCl[x]? = some r ∧ r.2.2 = zi_fn x ∧ Cond.classLink (zi_cn o) ix r.1 ∈ zi_tb ∧ Cond.instantiable r.1 r.2.2 ∈ zi_tb ∧ Cond.initialized r.1 ∈ zi_tb) (hex : cond (Nat.blt x 13) (zi_alloc 3 pc L st S (.inr (x, zi_new x)) (zi_fn x)) none = some (.inl (pc', L', st', S'))) (hn0 : n0 ≤ S.2.1) (hk : k0 ≤ S.2.2.1) (hs : s0 ≤ S.2.2.2) (hRc : S'.2.2.1 - k0 ≤ R.cells) (hRs : S'.2.2.2 - s0 ≤ R.slots) (kk : zi_Go p l e R s m args below meth c Q D cy A nL n0 ad0 k0 s0 pc' L' st' S') : zi_Go p l e R s m args below meth c Q D cy A nL n0 ad0 k0 s0 pc L st S := by
  obtain ⟨hx13, hex⟩ := zi_cond_inv hex
  have hx13 := zi_blt hx13
  obtain ⟨hn, rfl, rfl, rfl, rfl⟩ := zi_alloc_inv hex
  obtain ⟨hx, hb, hml, hown, hts, hN, hK, hA, hcls, hnm, -⟩ := X
  obtain ⟨q, hq, hfn, h1, h2, h3⟩ := hg
  intro ad ls H locs hag hH hL hst
  have hRc : S.2.2.1 + 1 - k0 ≤ R.cells := hRc
  have hRs : S.2.2.2 + zi_fn x - s0 ≤ R.slots := hRs
  refine va_new (D := D) (cl := vwCl) (ci := x) (fs := zi_new x) (C := q.1) (T := q.2.1) (N := q.2.2) hx hb hts (hcls x q hq).1 (zi_ft x) (hcls x q hq).2.1 hown (hts _ h1) (hts _ h2) (hts _ h3) hK hH.1 hH.2.1 hH.2.2.1 hA hq (fun j hj => zi_new_def x hx13 j (by rw [← hfn]; exact hj)) (by omega) (by rw [hfn]; omega) hd (fun a H1 hP hD hS => ?_)
  have e1 : ∀ ad', zi_e cy ad' (.inr (x, zi_new x)) = .inr (x, zi_new x) := fun ad' => by simp only [zi_e]; rw [zi_new_v]
  rw [hfn]
  exact zi_grow (cl := .inr (x, zi_new x)) hn0 hk hs hn hag hH hL hst (zi_new_ok _ x) (by rw [e1]; exact hP) (by rw [e1]; exact hD) hS kk
theorem zi_q_newa {t : Nat} {at_ : ClassFile.ArrayType} {ty : FieldType} (hty : newarray.typeOf at_ = ty) (htt : (zi_tys cy)[t]? = some (cy t, ty)) (hne : ∀ C, ty ≠ .object C) (harr : ∀ (cA : ClassId) (N : Nat), vp_cell cA (zi_arr t N) = arrV cA N (fun _ => defaultValue ty)) (hcb : componentBytes ty ≤ 8) (X : zi_X p s m args meth c R D cy A cc nL o nm rt ad0) (hd : decode cc pc = .ok (.newarray at_, 2)) (hg : Cond.arrayClass (newarray.typeOf at_) ∈ zi_tb) (hex : zi_mka 2 pc L st S t = some (.inl (pc', L', st', S'))) (hn0 : n0 ≤ S.2.1) (hk : k0 ≤ S.2.2.1) (hs : s0 ≤ S.2.2.2) (hRc : S'.2.2.1 - k0 ≤ R.cells) (hRs : S'.2.2.2 - s0 ≤ R.slots) (kk : zi_Go p l e R s m args below meth c Q D cy A nL n0 ad0 k0 s0 pc' L' st' S') : zi_Go p l e R s m args below meth c Q D cy A nL n0 ad0 k0 s0 pc L st S := by
  obtain ⟨k, r, rfl, hin, hn, rfl, rfl, rfl, rfl⟩ := zi_mka_inv hex
  obtain ⟨hx, hb, hml, hown, hts, hN, hK, hA, hcls, hnm, -⟩ := X
  intro ad ls H locs hag hH hL hst
  have hRc : S.2.2.1 + 1 - k0 ≤ R.cells := hRc
  have hRs : S.2.2.2 + k.toNatClampNeg - s0 ≤ R.slots := hRs
  have hkl : k.toNatClampNeg < 100000 := Nat.not_le.mp fun q => hin (Or.inr q)
  have hby : k.toNatClampNeg * componentBytes ty ≤ 536870912 := Nat.le_trans (Nat.mul_le_mul (Nat.le_of_lt hkl) hcb) (by decide)
  refine va_newa (D := D) (cl := vwCl) (a0 := zi_arr t k.toNatClampNeg) hx hb (hts _ hg) hty hK hH.1 hH.2.1 hH.2.2.1 hA (fun cA => harr cA _) (fun q => hin (Or.inl q)) rfl hby (by omega) (by omega) hd (fun q cA H1 hK1 hP hD hS => ?_)
  have ec : cA = cy t := by
    have g1 := (hK1.2 4 (cA, ty) rfl).2
    have g2 := (hK.2 t _ htt).2
    have go : ∀ ty : FieldType, (∀ C, ty ≠ .object C) → va_RA s cA ty → va_RA s (cy t) ty → cA = cy t := by
      intro ty hne g1 g2
      cases ty with
      | object C => exact absurd rfl (hne C)
      | _ => exact Option.some.inj (g1.symm.trans g2)
    exact go ty hne g1 g2
  subst ec
  exact zi_grow hn0 hk hs hn hag hH hL (zi_all_tail hst) (zi_arr_ok _ _ _) (by rw [zi_arr_e]; exact hP) (by rw [zi_arr_e]; exact hD) hS kk
theorem zi_q_newq {ix : Nat} (X : zi_X p s m args meth c R D cy A cc nL o nm rt ad0) (hd : decode cc pc = .ok (.anewarray ix, 3)) (hg : Cond.classLink (zi_cn o) ix RX3 ∈ zi_tb ∧ Cond.arrayOver (.object RX3) ∈ zi_nw) (hex : zi_mka 3 pc L st S 3 = some (.inl (pc', L', st', S'))) (hn0 : n0 ≤ S.2.1) (hk : k0 ≤ S.2.2.1) (hs : s0 ≤ S.2.2.2) (hRc : S'.2.2.1 - k0 ≤ R.cells) (hRs : S'.2.2.2 - s0 ≤ R.slots) (kk : zi_Go p l e R s m args below meth c Q D cy A nL n0 ad0 k0 s0 pc' L' st' S') : zi_Go p l e R s m args below meth c Q D cy A nL n0 ad0 k0 s0 pc L st S := by
  obtain ⟨k, r, rfl, hin, hn, rfl, rfl, rfl, rfl⟩ := zi_mka_inv hex
  obtain ⟨hx, hb, hml, hown, hts, hN, hK, hA, hcls, hnm, -⟩ := X
  intro ad ls H locs hag hH hL hst
  have hRc : S.2.2.1 + 1 - k0 ≤ R.cells := hRc
  have hRs : S.2.2.2 + k.toNatClampNeg - s0 ≤ R.slots := hRs
  have hkl : k.toNatClampNeg < 100000 := Nat.not_le.mp fun q => hin (Or.inr q)
  refine va_newq (D := D) (cl := vwCl) hx hb hown (hts _ hg.1) (hN _ hg.2) hK hH.1 hH.2.1 hH.2.2.1 hA (fun q => hin (Or.inl q)) rfl (by omega) (by omega) (by omega) hd (fun q cA H1 hK1 hP hD hS => ?_)
  have ec : cA = cy 3 := by
    have g1 := (hK1.2 4 (cA, .object RX3) rfl).2
    have g2 := (hK.2 3 (cy 3, .object RX3) rfl).2
    obtain ⟨_, _, _, _, _, g1⟩ := g1
    obtain ⟨_, _, _, _, _, g2⟩ := g2
    exact Option.some.inj (g1.symm.trans g2)
  subst ec
  exact zi_grow hn0 hk hs hn hag hH hL (zi_all_tail hst) (zi_arr_ok _ 3 _) hP hD hS kk
theorem zi_q_cpy {ix : Nat} (X : zi_X p s m args meth c R D cy A cc nL o nm rt ad0) (hd : decode cc pc = .ok (.invokestatic ix, 3)) (hg : Cond.methodLink (zi_cn o) ix arraycopyName ∈ zi_tb ∧ Cond.native arraycopyName ∈ zi_tb ∧ Cond.static arraycopyName ∈ zi_tb ∧ Cond.initialized "java/lang/System" ∈ zi_tb) (hex : zi_cpy pc L st S = some (.inl (pc', L', st', S'))) (kk : zi_Go p l e R s m args below meth c Q D cy A nL n0 ad0 k0 s0 pc' L' st' S') : zi_Go p l e R s m args below meth c Q D cy A nL n0 ad0 k0 s0 pc L st S := by
  obtain ⟨n, dp, a, sp, b, n1, g, nz, f, rfl, hc, hc2, ha, hb2, q1, q2, q3, q4, q5, hsm, rfl, rfl, rfl⟩ := zi_cpy_inv hex
  obtain ⟨hx, hb, hml, hown, hts, hN, hK, hA, hcls, hnm, hret, hlk, hRf, hRl, hSF⟩ := X
  intro ad ls H locs hag hH hL hst
  have he : (zi_w cy ad S.1 S.2.1)[a]? = some (ad a, .inl (cy 0, n1, .inl g)) := by rw [zi_w_get ha, hc]; rfl
  have he2 : (zi_w cy ad S.1 S.2.1)[b]? = some (ad b, .inl (cy 0, nz, .inl f)) := by rw [zi_w_get hb2, hc2]; rfl
  have hsz := zi_sm_map (ad := ad) hsm
  have hnf : nativeFrameWords "java/lang/System" "arraycopy" 5 + 11 ≤ 56 := by decide +kernel
  refine va_copyi (D := D) (cl := vwCl) hx hb (hml.trans hL.1.symm) hown (hts _ hg.1) (hts _ hg.2.1) (hts _ hg.2.2.1) (hts _ hg.2.2.2) hK hH.1 hH.2.1 hH.2.2.1 b a 0 0 he2 he rfl rfl rfl q1 q2 q3 q4 q5 (fun _ _ => rfl) hRf (by omega) hd fun H1 locs1 hP hD hS => ?_
  exact kk ad ls H1 locs1 hag (zi_Hp.put (c := .inl (0, n1, .inl (va_cpy f g sp.toNatClampNeg dp.toNatClampNeg n.toNatClampNeg))) hH ha trivial hP hD hS) hL (zi_all_tail (zi_all_tail (zi_all_tail (zi_all_tail (zi_all_tail hst)))))
theorem zi_q_max {ix : Nat} (X : zi_X p s m args meth c R D cy A cc nL o nm rt ad0) (hd : decode cc pc = .ok (.invokestatic ix, 3)) (hg : Cond.methodLink (zi_cn o) ix Lib.Math.max.name ∈ zi_tb ∧ Cond.static Lib.Math.max.name ∈ zi_tb ∧ Cond.initialized "java/lang/Math" ∈ zi_tb ∧ Cond.code Lib.Math.max.name Lib.Math.max.code 2 (some .int) ∈ zi_tb) (hRc : S'.2.2.1 - k0 ≤ R.cells) (hRs : S'.2.2.2 - s0 ≤ R.slots) (hex : zi_m2 pc L st S (fun x y => if x < y then y else x) = some (.inl (pc', L', st', S'))) (kk : zi_Go p l e R s m args below meth c Q D cy A nL n0 ad0 k0 s0 pc' L' st' S') : zi_Go p l e R s m args below meth c Q D cy A nL n0 ad0 k0 s0 pc L st S := by
  obtain ⟨x, y, r, rfl, hsm, rfl, rfl, rfl, rfl⟩ := zi_m2_inv hex
  obtain ⟨hx, hb, hml, hown, hts, hN, hK, hA, hcls, hnm, hret, hlk, hRf, hRl, hSF⟩ := X
  intro ad ls H locs hag hH hL hst
  have hsz := zi_sm_map (ad := ad) hsm
  exact va_mmax hx hb (hml.trans hL.1.symm) hown (hts _ hg.1) (hts _ hg.2.1) (hts _ hg.2.2.1) (hts _ hg.2.2.2) hRf (by omega) hRc hRs hd (kk ad ls H locs hag hH hL (zi_all_cons trivial (zi_all_tail (zi_all_tail hst))))
theorem zi_q_min {ix : Nat} (X : zi_X p s m args meth c R D cy A cc nL o nm rt ad0) (hd : decode cc pc = .ok (.invokestatic ix, 3)) (hg : Cond.methodLink (zi_cn o) ix Lib.Math.min.name ∈ zi_tb ∧ Cond.static Lib.Math.min.name ∈ zi_tb ∧ Cond.initialized "java/lang/Math" ∈ zi_tb ∧ Cond.code Lib.Math.min.name Lib.Math.min.code 2 (some .int) ∈ zi_tb) (hRc : S'.2.2.1 - k0 ≤ R.cells) (hRs : S'.2.2.2 - s0 ≤ R.slots) (hex : zi_m2 pc L st S (fun x y => if y < x then y else x) = some (.inl (pc', L', st', S'))) (kk : zi_Go p l e R s m args below meth c Q D cy A nL n0 ad0 k0 s0 pc' L' st' S') : zi_Go p l e R s m args below meth c Q D cy A nL n0 ad0 k0 s0 pc L st S := by
  obtain ⟨x, y, r, rfl, hsm, rfl, rfl, rfl, rfl⟩ := zi_m2_inv hex
  obtain ⟨hx, hb, hml, hown, hts, hN, hK, hA, hcls, hnm, hret, hlk, hRf, hRl, hSF⟩ := X
  intro ad ls H locs hag hH hL hst
  have hsz := zi_sm_map (ad := ad) hsm
  exact va_mmin hx hb (hml.trans hL.1.symm) hown (hts _ hg.1) (hts _ hg.2.1) (hts _ hg.2.2.1) (hts _ hg.2.2.2) hRf (by omega) hRc hRs hd (kk ad ls H locs hag hH hL (zi_all_cons trivial (zi_all_tail (zi_all_tail hst))))
theorem zi_q_obj {ix : Nat} (X : zi_X p s m args meth c R D cy A cc nL o nm rt ad0) (hd : decode cc pc = .ok (.invokespecial ix, 3)) (hg : Cond.methodLink (zi_cn o) ix Lib.objectInit ∈ zi_tb ∧ Cond.instanceMethod Lib.objectInit ∈ zi_tb ∧ Cond.code Lib.objectInit ⟨#[0xb1]⟩ 1 none ∈ zi_tb) {a : Nat} {r : List Value} (hsm : zi_sm r = true) (kk : zi_Go p l e R s m args below meth c Q D cy A nL n0 ad0 k0 s0 (pc + 3) L r S) : zi_Go p l e R s m args below meth c Q D cy A nL n0 ad0 k0 s0 pc L (.ref a :: r) S := by
  obtain ⟨hx, hb, hml, hown, hts, hN, hK, hA, hcls, hnm, hret, hlk, hRf, hRl, hSF⟩ := X
  intro ad ls H locs hag hH hL hst
  have hsz := zi_sm_map (ad := ad) hsm
  refine W.objInit (g := F0 m pc ls (.ref (ad a) :: r.map (zi_v ad))) hx hb hown (hts _ hg.1) (hts _ hg.2.1) (hts _ hg.2.2) rfl (by rw [hml]; exact hL.1) rfl hd hRf ?_ (kk ad ls H locs hag hH hL (zi_all_tail hst))
  show 2 * 0 + _ + 12 ≤ _
  omega
end ZW
