/-! ===== the steps that touch the heap are the machine's ===== -/
/-- a text by a wide index: as Stand.ldcString of the library, for ldc_w -/
theorem zi_ldcwS {p : Program} {l : Launch} {e : Env} {R : Room} {s : State} {m : MethodId} {args : Array Value} {below : List Frame} {meth : Method} {c : Code} {H : Heap} {locs : List Loc} {cells slots : Nat} {Q : State → Prop} {cc : ByteArray} {pc : Nat} {ls : Array Slot} {rest : List Value} (hexec : p.tables.exec = Jvm.exec) (hb : c.code = cc) {own tx : String} {index q : Nat} (hown : s.vm.findClass own = some m.cls) (hZ : vk_R own index tx q s) (hdg : decode cc pc = .ok (.ldc_w index, 3))
    (k : W p l e R s m args below meth c H locs cells slots Q (F0 m (pc + 3) ls (.ref q :: rest))) : W p l e R s m args below meth c H locs cells slots Q (F0 m pc ls rest) := by
  intro T hT X
  obtain ⟨t, a1, b1⟩ := k T hT X
  refine ⟨t, ?_, b1⟩
  obtain ⟨k, cf, i, a', hk, hcf, hcp, -, hr, hev'⟩ := Cond.stringRef_spec hown hZ.1
  cases hZ.2.symm.trans hev'
  obtain ⟨k', hk', he⟩ := X.warmed.alike.2.2 _ _ hk
  have hr' : k'.resolved[index]? = some (some (.string q)) := by
    rcases X.warmed.entry hk hk' index with h | ⟨h, -⟩
    · rw [h]; exact hr
    · rw [hr] at h; cases h
  jvm_step X.here [hexec, hb, hdg, ldc_w.wp_string (e := e) (s := T) (f := F0 m pc ls rest) X.here.top hk' (by rw [he]; exact hcf) hcp hr']
  exact a1
section ZV
variable {p : Program} {l : Launch} {e : Env} {R : Room} {s : State} {m : MethodId} {args : Array Value} {below : List Frame} {meth : Method} {c : Code} {Q : State → Prop} {D : va_G} {cy : Nat → ClassId} {A : Nat → Prop} {cc : ByteArray} {nL n0 k0 s0 o rt n i x y : Nat} {nm : String} {ad0 : Nat → Nat} {pc pc' : Nat} {L L' : zi_L} {st st' : List Value} {S S' : zi_S}
theorem zi_q_getf {ix : Nat} (X : zi_X p s m args meth c R D cy A cc nL o nm rt ad0) (hd : decode cc pc = .ok (.getfield ix, 3)) (hg : zi_gG o ix x y) (hex : zi_getf pc L st S x y = some (.inl (pc', L', st', S'))) (kk : zi_Go p l e R s m args below meth c Q D cy A nL n0 ad0 k0 s0 pc' L' st' S') : zi_Go p l e R s m args below meth c Q D cy A nL n0 ad0 k0 s0 pc L st S := by
  obtain ⟨a, r, fs, v, rfl, hc, ha, hv, rfl, rfl, rfl, rfl⟩ := zi_getf_inv hex
  obtain ⟨hx, hb, hml, hown, hts, hN, hK, hA, hcls, hnm, hret, hlk, hRf, hRl, hSF⟩ := X
  intro ad ls H locs hag hH hL hst
  by_cases ha1 : 1000000 ≤ a
  · rw [hH.2.2.2.2.2 a ha1] at hc
    obtain ⟨j, hj, rfl, rfl, rfl⟩ := zi_ro_obj ha1 hc
    have hSF := hSF.ag hag
    rcases hg with ⟨q, hq, -⟩ | ⟨-, ⟨rfl, hl⟩ | ⟨rfl, hl⟩⟩
    · simp [vwCl] at hq
    · have hv : v = .ref (1000001 + 2 * j) := (Option.some.inj hv).symm
      subst hv
      exact vk_getf hx hb (hSF.1.1 j hj).2.2.1 hH.2.2.1 hown (hts _ hl) (fun _ h9 => h9) hd (kk ad ls H locs hag hH hL (zi_all_cons (Or.inr (show 1000000 ≤ 1000001 + 2 * j by omega)) (zi_all_tail hst)))
    · have hv : v = .int 0 := (Option.some.inj hv).symm
      subst hv
      exact vk_getf hx hb (hSF.1.1 j hj).2.1 hH.2.2.1 hown (hts _ hl) (fun _ h9 => h9) hd (kk ad ls H locs hag hH hL (zi_all_cons trivial (zi_all_tail hst)))
  · have ha : a < S'.2.1 := by omega
    have he : (zi_w cy ad S'.1 S'.2.1)[a]? = some (ad a, .inr (x, fs.map (zi_v ad))) := by rw [zi_w_get ha, hc]; rfl
    have hv' : (fs.map (zi_v ad))[y]? = some (zi_v ad v) := by rw [List.getElem?_map, hv]; rfl
    have hokC := hH.2.2.2.1 a ha
    rw [hc] at hokC
    have k := kk ad ls H locs hag hH hL (zi_all_cons (hokC v (List.mem_of_getElem? hv)) (zi_all_tail hst))
    obtain ⟨q, hq, hy, hlink⟩ : zi_gF o ix x y := by
      rcases hg with hg | ⟨rfl, -⟩
      · exact hg
      · obtain ⟨q, hq, -⟩ := hH.1 a _ he
        simp [vwCl] at hq
    rcases hlink with hlink | ⟨host, hlink⟩
    · exact va_get (D := D) (cl := vwCl) (ci := x) (C := q.1) (T := q.2.1) (N := q.2.2) hx hb hts (hcls x q hq).1 hown hK hH.1 a he hq y hy (hts _ hlink) (fun _ h9 => h9) hv' hd k
    · exact va_getN (D := D) (cl := vwCl) (ci := x) (C := q.1) (T := q.2.1) (N := q.2.2) (host := host) hx hb hts (hcls x q hq).1 hown hK hH.1 a he hq y hy (va_Nw.use rfl (hN _ hlink)) (fun _ h9 => h9) hv' hd k
theorem zi_q_putf {ix : Nat} (X : zi_X p s m args meth c R D cy A cc nL o nm rt ad0) (hd : decode cc pc = .ok (.putfield ix, 3)) (hg : zi_gP nm o ix x y) (hex : zi_putf pc L st S x y = some (.inl (pc', L', st', S'))) (kk : zi_Go p l e R s m args below meth c Q D cy A nL n0 ad0 k0 s0 pc' L' st' S') : zi_Go p l e R s m args below meth c Q D cy A nL n0 ad0 k0 s0 pc L st S := by
  obtain ⟨a, fs, v, rfl, hc, ha, hyl, hfv, rfl, rfl, rfl⟩ := zi_putf_inv hex
  obtain ⟨hx, hb, hml, hown, hts, hN, hK, hA, hcls, hnm, -⟩ := X
  intro ad ls H locs hag hH hL hst
  obtain ⟨q, hq, hy, hlink⟩ := hg
  have he : (zi_w cy ad S.1 S.2.1)[a]? = some (ad a, .inr (x, fs.map (zi_v ad))) := by rw [zi_w_get ha, hc]; rfl
  have hokC := hH.2.2.2.1 a ha
  rw [hc] at hokC
  have hnf := zi_fv_nf hfv ad
  have hty := (hcls x q hq).2.1 y hy
  have go : ∀ (H1 : Heap) (locs1 : List Loc), va_P D vwCl ((zi_w cy ad S.1 S.2.1).set a (ad a, .inr (x, (fs.map (zi_v ad)).set y (zi_v ad v)))) H1 → va_D A ((zi_w cy ad S.1 S.2.1).set a (ad a, .inr (x, (fs.map (zi_v ad)).set y (zi_v ad v)))) → va_S A s.heap H1 locs1 → W p l e R s m args below meth c H1 locs1 (S.2.2.1 - k0) (S.2.2.2 - s0) Q (F0 m (pc + 3) ls (st'.map (zi_v ad))) := by
    intro H1 locs1 hP hD hS
    rw [zi_set_map] at hP hD
    exact kk ad ls H1 locs1 hag (zi_Hp.put (c := .inr (x, fs.set y v)) hH ha (zi_okC_set hokC (zi_all_head hst)) hP hD hS) hL (zi_all_tail (zi_all_tail hst))
  rcases hlink with ⟨hf, hin, hdecl, hlink⟩ | ⟨hf, hlink | ⟨host, hlink⟩⟩
  · exact va_putF (D := D) (cl := vwCl) (ci := x) (C := q.1) (T := q.2.1) (N := q.2.2) hx hb hts (hcls x q hq).1 (zi_ft x) (hcls x q hq).2.1 (hcls x q hq).2.2 hown hK hH.1 hH.2.1 hH.2.2.1 a he hq y hy (hts _ hlink) (fun _ h9 => h9) hf (hnm.trans hin) hdecl hty hnf.1 hnf.2 (by rw [List.length_map]; exact hyl) hd go
  · exact va_put (D := D) (cl := vwCl) (ci := x) (C := q.1) (T := q.2.1) (N := q.2.2) hx hb hts (hcls x q hq).1 (zi_ft x) (hcls x q hq).2.1 (hcls x q hq).2.2 hown hK hH.1 hH.2.1 hH.2.2.1 a he hq y hy (hts _ hlink) (fun _ h9 => h9) hf hty hnf.1 hnf.2 (by rw [List.length_map]; exact hyl) hd go
  · exact va_putN (D := D) (cl := vwCl) (ci := x) (C := q.1) (T := q.2.1) (N := q.2.2) (host := host) hx hb hts (hcls x q hq).1 (zi_ft x) (hcls x q hq).2.1 (hcls x q hq).2.2 hown hK hH.1 hH.2.1 hH.2.2.1 a he hq y hy (va_Nw.use rfl (hN _ hlink)) (fun _ h9 => h9) hf hty hnf.1 hnf.2 (by rw [List.length_map]; exact hyl) hd go
theorem zi_q_iald (X : zi_X p s m args meth c R D cy A cc nL o nm rt ad0) (hd : decode cc pc = .ok (.iaload, 1)) (hex : zi_ald pc L st S 0 = some (.inl (pc', L', st', S'))) (kk : zi_Go p l e R s m args below meth c Q D cy A nL n0 ad0 k0 s0 pc' L' st' S') : zi_Go p l e R s m args below meth c Q D cy A nL n0 ad0 k0 s0 pc L st S := by
  obtain ⟨i, a, r, n, f, rfl, hc, ha, hin, rfl, rfl, rfl, rfl⟩ := zi_ald_inv hex
  obtain ⟨hx, hb, hml, hown, hts, hN, hK, hA, hcls, hnm, -⟩ := X
  intro ad ls H locs hag hH hL hst
  have he : (zi_w cy ad S'.1 S'.2.1)[a]? = some (ad a, .inl (cy 0, n, .inl f)) := by rw [zi_w_get ha, hc]; rfl
  exact va_iald hx hb hK hH.1 a 0 he rfl hin hd (kk ad ls H locs hag hH hL (zi_all_cons trivial (zi_all_tail (zi_all_tail hst))))
theorem zi_q_zald (X : zi_X p s m args meth c R D cy A cc nL o nm rt ad0) (hd : decode cc pc = .ok (.baload, 1)) (hex : zi_bald pc L st S = some (.inl (pc', L', st', S'))) (kk : zi_Go p l e R s m args below meth c Q D cy A nL n0 ad0 k0 s0 pc' L' st' S') : zi_Go p l e R s m args below meth c Q D cy A nL n0 ad0 k0 s0 pc L st S := by
  obtain ⟨i, a, r, t, n, f, rfl, hc, ht, hin, rfl, rfl, rfl, rfl⟩ := zi_bald_inv hex
  obtain ⟨hx, hb, hml, hown, hts, hN, hK, hA, hcls, hnm, hret, hlk, hRf, hRl, hSF⟩ := X
  intro ad ls H locs hag hH hL hst
  rcases ht with ⟨rfl, ha⟩ | ⟨ht, ha⟩
  · have he : (zi_w cy ad S'.1 S'.2.1)[a]? = some (ad a, .inl (cy 2, n, .inl f)) := by rw [zi_w_get ha, hc]; rfl
    exact va_zald hx hb hK hH.1 a 2 he rfl hin hd (kk ad ls H locs hag hH hL (zi_all_cons trivial (zi_all_tail (zi_all_tail hst))))
  · rw [hH.2.2.2.2.2 a ha] at hc
    obtain ⟨j, hj, rfl, rfl, rfl⟩ := zi_ro_arr ha ht hc
    have hSF := hSF.ag hag
    exact va_tb hx hb (hSF.1.1 j hj).2.2.2 hH.2.2.1 hin rfl hd (kk ad ls H locs hag hH hL (zi_all_cons trivial (zi_all_tail (zi_all_tail hst))))
theorem zi_q_lald (X : zi_X p s m args meth c R D cy A cc nL o nm rt ad0) (hd : decode cc pc = .ok (.laload, 1)) (hex : zi_lald pc L st S = some (.inl (pc', L', st', S'))) (kk : zi_Go p l e R s m args below meth c Q D cy A nL n0 ad0 k0 s0 pc' L' st' S') : zi_Go p l e R s m args below meth c Q D cy A nL n0 ad0 k0 s0 pc L st S := by
  obtain ⟨i, a, r, n, f, rfl, hc, ha, hin, rfl, rfl, rfl, rfl⟩ := zi_lald_inv hex
  obtain ⟨hx, hb, hml, hown, hts, hN, hK, hA, hcls, hnm, -⟩ := X
  intro ad ls H locs hag hH hL hst
  have he : (zi_w cy ad S'.1 S'.2.1)[a]? = some (ad a, .inl (cy 1, n, .inr (.inl f))) := by rw [zi_w_get ha, hc]; rfl
  exact va_lald hx hb hK hH.1 a 1 he rfl hin hd (kk ad ls H locs hag hH hL (zi_all_cons trivial (zi_all_tail (zi_all_tail hst))))
theorem zi_rf_ok {n : Nat} {ad : Nat → Nat} {q : Option Nat} (h : ∀ k, q = some k → k < n ∨ 1000000 ≤ k) : zi_ok n (va_rf q) := by
  cases q with
  | none => trivial
  | some k => exact h k rfl
theorem zi_rf_v (ad : Nat → Nat) (q : Option Nat) : zi_v ad (va_rf q) = va_rf (q.map ad) := by cases q <;> rfl
theorem zi_q_aald (X : zi_X p s m args meth c R D cy A cc nL o nm rt ad0) (hd : decode cc pc = .ok (.aaload, 1)) (hex : zi_aald pc L st S = some (.inl (pc', L', st', S'))) (kk : zi_Go p l e R s m args below meth c Q D cy A nL n0 ad0 k0 s0 pc' L' st' S') : zi_Go p l e R s m args below meth c Q D cy A nL n0 ad0 k0 s0 pc L st S := by
  obtain ⟨i, a, r, n, f, rfl, hc, ha, hin, rfl, rfl, rfl, rfl⟩ := zi_aald_inv hex
  obtain ⟨hx, hb, hml, hown, hts, hN, hK, hA, hcls, hnm, -⟩ := X
  intro ad ls H locs hag hH hL hst
  have he : (zi_w cy ad S'.1 S'.2.1)[a]? = some (ad a, .inl (cy 3, n, .inr (.inr (.inr (.inr fun i => (f i).map ad))))) := by rw [zi_w_get ha, hc]; rfl
  have hokC := hH.2.2.2.1 a ha
  rw [hc] at hokC
  have k := kk ad ls H locs hag hH hL (zi_all_cons (zi_rf_ok (ad := ad) (fun k hk => hokC _ k hk)) (zi_all_tail (zi_all_tail hst)))
  rw [List.map_cons, zi_rf_v] at k
  exact va_aldq hx hb hK hH.1 a 3 he rfl hin hd k
theorem zi_q_iast (X : zi_X p s m args meth c R D cy A cc nL o nm rt ad0) (hd : decode cc pc = .ok (.iastore, 1)) (hex : zi_ast pc L st S 0 (fun v => v) = some (.inl (pc', L', st', S'))) (kk : zi_Go p l e R s m args below meth c Q D cy A nL n0 ad0 k0 s0 pc' L' st' S') : zi_Go p l e R s m args below meth c Q D cy A nL n0 ad0 k0 s0 pc L st S := by
  obtain ⟨v, i, a, n, f, rfl, hc, ha, hin, rfl, rfl, rfl⟩ := zi_ast_inv hex
  obtain ⟨hx, hb, hml, hown, hts, hN, hK, hA, hcls, hnm, -⟩ := X
  intro ad ls H locs hag hH hL hst
  have he : (zi_w cy ad S.1 S.2.1)[a]? = some (ad a, .inl (cy 0, n, .inl f)) := by rw [zi_w_get ha, hc]; rfl
  refine va_iast hx hb hK hH.1 hH.2.1 hH.2.2.1 a 0 he rfl hin hd fun H1 locs1 hP hD hS => ?_
  exact kk ad ls H1 locs1 hag (zi_Hp.put (c := .inl (0, n, .inl (upd f i.toNatClampNeg v))) hH ha trivial hP hD hS) hL (zi_all_tail (zi_all_tail (zi_all_tail hst)))
theorem zi_q_zast (X : zi_X p s m args meth c R D cy A cc nL o nm rt ad0) (hd : decode cc pc = .ok (.bastore, 1)) (hex : zi_ast pc L st S 2 (fun v => vp_nar .boolean v) = some (.inl (pc', L', st', S'))) (kk : zi_Go p l e R s m args below meth c Q D cy A nL n0 ad0 k0 s0 pc' L' st' S') : zi_Go p l e R s m args below meth c Q D cy A nL n0 ad0 k0 s0 pc L st S := by
  obtain ⟨v, i, a, n, f, rfl, hc, ha, hin, rfl, rfl, rfl⟩ := zi_ast_inv hex
  obtain ⟨hx, hb, hml, hown, hts, hN, hK, hA, hcls, hnm, -⟩ := X
  intro ad ls H locs hag hH hL hst
  have he : (zi_w cy ad S.1 S.2.1)[a]? = some (ad a, .inl (cy 2, n, .inl f)) := by rw [zi_w_get ha, hc]; rfl
  refine va_zast hx hb hK hH.1 hH.2.1 hH.2.2.1 a 2 he rfl hin hd fun H1 locs1 hP hD hS => ?_
  exact kk ad ls H1 locs1 hag (zi_Hp.put (c := .inl (2, n, .inl (upd f i.toNatClampNeg (vp_nar .boolean v)))) hH ha trivial hP hD hS) hL (zi_all_tail (zi_all_tail (zi_all_tail hst)))
theorem zi_q_last (X : zi_X p s m args meth c R D cy A cc nL o nm rt ad0) (hd : decode cc pc = .ok (.lastore, 1)) (hex : zi_last pc L st S = some (.inl (pc', L', st', S'))) (kk : zi_Go p l e R s m args below meth c Q D cy A nL n0 ad0 k0 s0 pc' L' st' S') : zi_Go p l e R s m args below meth c Q D cy A nL n0 ad0 k0 s0 pc L st S := by
  obtain ⟨v, i, a, n, f, rfl, hc, ha, hin, rfl, rfl, rfl⟩ := zi_last_inv hex
  obtain ⟨hx, hb, hml, hown, hts, hN, hK, hA, hcls, hnm, -⟩ := X
  intro ad ls H locs hag hH hL hst
  have he : (zi_w cy ad S.1 S.2.1)[a]? = some (ad a, .inl (cy 1, n, .inr (.inl f))) := by rw [zi_w_get ha, hc]; rfl
  refine va_last hx hb hK hH.1 hH.2.1 hH.2.2.1 a 1 he rfl hin hd fun H1 locs1 hP hD hS => ?_
  exact kk ad ls H1 locs1 hag (zi_Hp.put (c := .inl (1, n, .inr (.inl (vp_updL f i.toNatClampNeg v)))) hH ha trivial hP hD hS) hL (zi_all_tail (zi_all_tail (zi_all_tail hst)))
theorem zi_up_map (ad : Nat → Nat) (f : Nat → Option Nat) (i v : Nat) : (fun j => (va_up f i (some v) j).map ad) = va_up (fun j => (f j).map ad) i (some (ad v)) := by
  funext j
  simp only [va_up]
  split <;> rfl
theorem zi_q_aast (X : zi_X p s m args meth c R D cy A cc nL o nm rt ad0) (hd : decode cc pc = .ok (.aastore, 1)) (hex : zi_aast pc L st S = some (.inl (pc', L', st', S'))) (kk : zi_Go p l e R s m args below meth c Q D cy A nL n0 ad0 k0 s0 pc' L' st' S') : zi_Go p l e R s m args below meth c Q D cy A nL n0 ad0 k0 s0 pc L st S := by
  obtain ⟨v, i, a, n, f, fs, rfl, hc, hc2, ha, hv, hin, rfl, rfl, rfl⟩ := zi_aast_inv hex
  obtain ⟨hx, hb, hml, hown, hts, hN, hK, hA, hcls, hnm, -⟩ := X
  intro ad ls H locs hag hH hL hst
  have he : (zi_w cy ad S.1 S.2.1)[a]? = some (ad a, .inl (cy 3, n, .inr (.inr (.inr (.inr fun i => (f i).map ad))))) := by rw [zi_w_get ha, hc]; rfl
  have he2 : (zi_w cy ad S.1 S.2.1)[v]? = some (ad v, .inr (3, fs.map (zi_v ad))) := by rw [zi_w_get hv, hc2]; rfl
  have hokC := hH.2.2.2.1 a ha
  rw [hc] at hokC
  refine va_astq hx hb hK hH.1 hH.2.1 hH.2.2.1 a 3 v 3 (r := (RX3, TX3, 8)) he rfl he2 rfl hin hd fun H1 locs1 hP hD hS => ?_
  rw [← zi_up_map] at hP hD
  exact kk ad ls H1 locs1 hag (zi_Hp.put (c := .inl (3, n, .inr (.inr (.inr (.inr (va_up f i.toNatClampNeg (some v))))))) hH ha (fun j k hk => by
    simp only [va_up] at hk
    split at hk
    · cases hk; exact Or.inl hv
    · exact hokC j k hk) hP hD hS) hL (zi_all_tail (zi_all_tail (zi_all_tail hst)))
theorem zi_e_inl (cy : Nat → ClassId) (ad : Nat → Nat) (t : Nat) (q : vp_A) : ∃ x : vp_A, zi_e cy ad (.inl (t, q)) = .inl (cy t, x) ∧ x.1 = q.1 := by
  obtain ⟨n, f | f | f | f | f⟩ := q <;> exact ⟨_, rfl, rfl⟩
theorem zi_q_alen (X : zi_X p s m args meth c R D cy A cc nL o nm rt ad0) (hd : decode cc pc = .ok (.arraylength, 1)) (hex : zi_alen pc L st S = some (.inl (pc', L', st', S'))) (kk : zi_Go p l e R s m args below meth c Q D cy A nL n0 ad0 k0 s0 pc' L' st' S') : zi_Go p l e R s m args below meth c Q D cy A nL n0 ad0 k0 s0 pc L st S := by
  obtain ⟨a, r, t, q, rfl, hc, hat, rfl, rfl, rfl, rfl⟩ := zi_alen_inv hex
  obtain ⟨hx, hb, hml, hown, hts, hN, hK, hA, hcls, hnm, hret, hlk, hRf, hRl, hSF⟩ := X
  intro ad ls H locs hag hH hL hst
  rcases hat with ⟨ht, ha⟩ | ⟨ht, ha⟩
  · obtain ⟨x, hx1, hx2⟩ := zi_e_inl cy ad t q
    have he : (zi_w cy ad S'.1 S'.2.1)[a]? = some (ad a, .inl (cy t, x)) := by rw [zi_w_get ha, hc, hx1]
    have hty : ∃ ty, (zi_tys cy)[t]? = some (cy t, ty) := by
      rcases (by omega : t = 0 ∨ t = 1 ∨ t = 2 ∨ t = 3) with rfl | rfl | rfl | rfl <;> exact ⟨_, rfl⟩
    obtain ⟨ty, hty⟩ := hty
    exact va_alen hx hb hK hH.1 a t he hty (congrArg Int32.ofNat hx2) hd (kk ad ls H locs hag hH hL (zi_all_cons trivial (zi_all_tail hst)))
  · rw [hH.2.2.2.2.2 a ha] at hc
    obtain ⟨n, f⟩ := q
    have hf : ∃ g, f = .inl g := by
      obtain ⟨k, rfl⟩ : ∃ k, a = 1000000 + k := ⟨a - 1000000, by omega⟩
      rw [zi_ro_2] at hc
      unfold zi_ro2 at hc
      split at hc
      · rename_i l hl
        cases hb2 : Nat.beq (k % 2) 0 with
        | true => rw [hb2] at hc; cases hc
        | false =>
          rw [hb2] at hc
          exact ⟨_, ((Prod.mk.inj (Prod.mk.inj (Sum.inl.inj hc)).2).2).symm⟩
      · exact ⟨_, ((Prod.mk.inj (Prod.mk.inj (Sum.inl.inj hc)).2).2).symm⟩
    obtain ⟨g, rfl⟩ := hf
    obtain ⟨j, hj, rfl, rfl, rfl⟩ := zi_ro_arr ha ht hc
    have hSF := hSF.ag hag
    exact va_tlen hx hb (hSF.1.1 j hj).2.2.2 hH.2.2.1 rfl hd (kk ad ls H locs hag hH hL (zi_all_cons trivial (zi_all_tail hst)))
theorem zi_q_ldcT {ix j : Nat} (X : zi_X p s m args meth c R D cy A cc nL o nm rt ad0) (hd : decode cc pc = .ok (.ldc ix, 2)) (hg : (o, ix, j) ∈ zi_TT) (kk : zi_Go p l e R s m args below meth c Q D cy A nL n0 ad0 k0 s0 (pc + 2) L (.ref (1000000 + 2 * j) :: st) S) : zi_Go p l e R s m args below meth c Q D cy A nL n0 ad0 k0 s0 pc L st S := by
  obtain ⟨hx, hb, hml, hown, hts, hN, hK, hA, hcls, hnm, hret, hlk, hRf, hRl, hSF⟩ := X
  intro ad ls H locs hag hH hL hst
  have hSF := (hSF.ag hag).2.2.1 _ hg
  have k := kk ad ls H locs hag hH hL (zi_all_cons (Or.inr (Nat.le_add_right _ _)) hst)
  exact va_ldcS hx hb hown hSF hd k
theorem zi_q_ldcwT {ix j : Nat} (X : zi_X p s m args meth c R D cy A cc nL o nm rt ad0) (hd : decode cc pc = .ok (.ldc_w ix, 3)) (hg : (o, ix, j) ∈ zi_TT) (kk : zi_Go p l e R s m args below meth c Q D cy A nL n0 ad0 k0 s0 (pc + 3) L (.ref (1000000 + 2 * j) :: st) S) : zi_Go p l e R s m args below meth c Q D cy A nL n0 ad0 k0 s0 pc L st S := by
  obtain ⟨hx, hb, hml, hown, hts, hN, hK, hA, hcls, hnm, hret, hlk, hRf, hRl, hSF⟩ := X
  intro ad ls H locs hag hH hL hst
  have hSF := (hSF.ag hag).2.2.1 _ hg
  have k := kk ad ls H locs hag hH hL (zi_all_cons (Or.inr (Nat.le_add_right _ _)) hst)
  exact zi_ldcwS hx hb hown hSF hd k
theorem zi_q_gets {ix : Nat} (X : zi_X p s m args meth c R D cy A cc nL o nm rt ad0) (hd : decode cc pc = .ok (.getstatic ix, 3)) (hg : Cond.fieldLink (zi_cn o) ix "java/lang/String" "COMPACT_STRINGS" "Z" ∈ zi_tb) (kk : zi_Go p l e R s m args below meth c Q D cy A nL n0 ad0 k0 s0 (pc + 3) L (.int 1 :: st) S) : zi_Go p l e R s m args below meth c Q D cy A nL n0 ad0 k0 s0 pc L st S := by
  obtain ⟨hx, hb, hml, hown, hts, hN, hK, hA, hcls, hnm, hret, hlk, hRf, hRl, hSF⟩ := X
  intro ad ls H locs hag hH hL hst
  exact va_gets hx hb hSF.2.1 hH.2.2.1 hown (hts _ hg) (fun _ h9 => h9) hd (kk ad ls H locs hag hH hL (zi_all_cons trivial hst))
end ZV
