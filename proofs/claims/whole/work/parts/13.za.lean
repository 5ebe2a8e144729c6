/-! ===== calls and returns are the machine's ===== -/
section ZAA
variable {p : Program} {l : Launch} {e : Env} {R : Room} {s : State} {m : MethodId} {args : Array Value} {below : List Frame} {meth : Method} {c : Code} {Q : State → Prop} {D : va_G} {cy : Nat → ClassId} {A : Nat → Prop} {cc : ByteArray} {nL n0 k0 s0 o rt d : Nat} {nm : String} {ad0 : Nat → Nat} {pc pc' : Nat} {L L' : zi_L} {st st' : List Value} {S S' : zi_S} {M : Nat → Option zi_MI} {v : Option Value}
theorem zi_preS {ad : Nat → Nat} {H : Heap} {locs : List Loc} {as : List Value} (hA : ∀ q, s.heap.size ≤ q → A q) (hK : va_K D vwCl (zi_tys cy) s) (hN : ∀ w ∈ zi_nw, va_Nw w s) (hSF : zi_SF ad A s s.heap) (hH : zi_Hp D cy A ad s.heap H locs S) : PreS s H (zi_Pre D cy ad as S H.size) (as.map (zi_v ad)) :=
  ⟨zi_blind, fun U hU hW => ⟨rfl, by rw [hU], by rw [hU]; exact hH.1, va_K.moved hW.alike hK, hH.2.1.weaken (fun _ _ _ _ => trivial), zi_nw_warm hW hN, by
    rw [hU]
    refine hSF.sub hH.2.2.1.2.1 (fun q hq => ?_) hW
    rcases hq with ⟨k, ee, hq⟩ | hq
    · exact hH.2.1.2 k _ hq
    · exact hA q (Nat.le_trans hH.2.2.1.1 hq)⟩⟩
theorem zi_c_V {ix x y x' : Nat} {as r : List Value} (X : zi_X p s m args meth c R D cy A cc nL o nm rt ad0) (hRf : d + 5 ≤ R.frames) (hRl : 64 * d + 320 ≤ R.locals) (hd : decode cc pc = .ok (.invokevirtual ix, 3)) (hg : zi_gV M o ix x y) (hex : zi_inv st S x y = some (.inr (.inr (x', as, r)))) (hM : zi_Met l M d x' as S v S') (hn0 : n0 ≤ S.2.1) (hk : k0 ≤ S.2.2.1) (hs : s0 ≤ S.2.2.2) (hRc : S'.2.2.1 - k0 ≤ R.cells) (hRs : S'.2.2.2 - s0 ≤ R.slots) (kk : zi_Go p l e R s m args below meth c Q D cy A nL n0 ad0 k0 s0 (pc + 3) L (v.toList ++ r) S') : zi_Go p l e R s m args below meth c Q D cy A nL n0 ad0 k0 s0 pc L st S := by
  obtain ⟨a, bs, ci, fs, rfl, rfl, hy, rfl, hc, rfl, ha, hsm⟩ := zi_inv_inv hex
  obtain ⟨hx, hb, hml, hown, hts, hN, hK, hA, hcls, hnm, hret, hlk, hRf0, hRl0, hSF⟩ := X
  obtain ⟨⟨DM, hDM, hny, hcl, hini, hpl, hcode, hmL, hlink⟩, hsel⟩ := hg
  obtain ⟨hinst, hsel, hq⟩ := hsel DM hDM
  obtain ⟨hle, hnum, hM⟩ := hM
  intro ad ls H locs hag hH hL hst
  have hokS : zi_wfS S := ⟨hH.2.2.2.1, hH.2.2.2.2.1, hH.2.2.2.2.2⟩
  have hst1 : ∀ w ∈ (Value.ref a :: bs), zi_ok S.2.1 w := fun w hw => hst w (by
    rcases List.mem_cons.mp hw with rfl | hw
    · simp
    · simp [hw])
  have hst2 : ∀ w ∈ r, zi_ok S.2.1 w := fun w hw => hst w (by simp [hw])
  have hMM := hM DM D cy ad H.size hDM hokS hst1
  have hrecv : ∃ cell : Cell, H[ad a]? = some cell ∧ cell.vm.isStatics = false ∧ s.vm.findClass (zi_cn (x' / 200)) = some cell.cls := by
    by_cases ha1 : 1000000 ≤ a
    · rw [hH.2.2.2.2.2 a ha1] at hc
      obtain ⟨j, hj, rfl, hx15, -⟩ := zi_ro_obj ha1 hc
      have h15 := vk_recv (hSF.ag hag).1 hj hH.2.2.1
      rw [hx15]
      exact h15
    · have ha : a < S.2.1 := by omega
      have he : (zi_w cy ad S.1 S.2.1)[a]? = some (ad a, .inr (x' / 200, fs.map (zi_v ad))) := by rw [zi_w_get ha, hc]; rfl
      rcases hq with ⟨q, hq, hq1⟩ | hx15
      · have hrecv := va_recv hK hH.1 hq he
        rw [hq1] at hrecv
        exact hrecv
      · obtain ⟨q, hq, -⟩ := hH.1 a _ he
        rw [hx15] at hq
        simp [vwCl] at hq
  have hpS := zi_preS (A := A) (as := .ref a :: bs) hA hK hN (hSF.ag hag) hH
  have hle1 := hle.2.1
  have hle2 := hle.2.2
  have hrm : (zi_R d (S'.2.2.1 - S.2.2.1) (S'.2.2.2 - S.2.2.2)).frames + 1 ≤ R.frames ∧ 8 + (DM.2.2.1 + 11) + (zi_R d (S'.2.2.1 - S.2.2.1) (S'.2.2.2 - S.2.2.2)).locals ≤ R.locals := zi_R_ok hRf hRl hmL
  have hsp : (bs.reverse ++ Value.ref a :: r).map (zi_v ad) = (bs.map (zi_v ad)).reverse ++ Value.ref (ad a) :: r.map (zi_v ad) := by simp [zi_v]
  refine zi_after (d := d) (DM := DM) (as := bs) rfl rfl hA hle hnum hn0 hk hs hag hH hL hst2 ((Value.ref a :: bs).map (zi_v ad)).toArray ?_ kk
  rcases hlink with hlink | ⟨host, hlink⟩
  · exact va_runV (As := bs.map (zi_v ad)) (rest := r.map (zi_v ad)) (Ts := zi_tb) ⟨hx, hb, hml, hown, hts⟩ hMM ⟨callB_of y hts (zi_goodIn hcode) rfl rfl rfl (hts _ hini) (hts _ hlink) hpl hrm, hts _ hinst, hts _ hsel⟩ ⟨hpS.1, hrecv, hpS.2⟩ rfl (by rw [List.length_map]; exact hy) hL.1 hsp (lv_room (zi_sm_map hsm)) hd ⟨by omega, by omega⟩
  · exact va_runVN (As := bs.map (zi_v ad)) (rest := r.map (zi_v ad)) (Ts := zi_tb) ⟨hx, hb, hml, hown, hts⟩ hMM ⟨va_cnB y hts (zi_goodIn hcode) rfl rfl rfl (hN _ hlink) (hts _ hini) hpl hrm, hts _ hinst, hts _ hsel⟩ ⟨hpS.1, hrecv, hpS.2⟩ rfl (by rw [List.length_map]; exact hy) hL.1 hsp (lv_room (zi_sm_map hsm)) hd ⟨by omega, by omega⟩
theorem zi_c_I {ix x y x' : Nat} {as r : List Value} (X : zi_X p s m args meth c R D cy A cc nL o nm rt ad0) (hRf : d + 5 ≤ R.frames) (hRl : 64 * d + 320 ≤ R.locals) (hd : decode cc pc = .ok (.invokespecial ix, 3)) (hg : zi_gI M o ix x y) (hex : zi_inv st S x y = some (.inr (.inr (x', as, r)))) (hM : zi_Met l M d x' as S v S') (hn0 : n0 ≤ S.2.1) (hk : k0 ≤ S.2.2.1) (hs : s0 ≤ S.2.2.2) (hRc : S'.2.2.1 - k0 ≤ R.cells) (hRs : S'.2.2.2 - s0 ≤ R.slots) (kk : zi_Go p l e R s m args below meth c Q D cy A nL n0 ad0 k0 s0 (pc + 3) L (v.toList ++ r) S') : zi_Go p l e R s m args below meth c Q D cy A nL n0 ad0 k0 s0 pc L st S := by
  obtain ⟨a, bs, ci, fs, rfl, rfl, hy, rfl, hc, rfl, ha, hsm⟩ := zi_inv_inv hex
  obtain ⟨hx, hb, hml, hown, hts, hN, hK, hA, hcls, hnm, hret, hlk, hRf0, hRl0, hSF⟩ := X
  obtain ⟨⟨DM, hDM, hny, hcl, hini, hpl, hcode, hmL, hlink⟩, hsel⟩ := hg
  obtain ⟨hinst, hin, hr0⟩ := hsel DM hDM
  obtain ⟨hle, hnum, hM⟩ := hM
  intro ad ls H locs hag hH hL hst
  have hokS : zi_wfS S := ⟨hH.2.2.2.1, hH.2.2.2.2.1, hH.2.2.2.2.2⟩
  have hst1 : ∀ w ∈ (Value.ref a :: bs), zi_ok S.2.1 w := fun w hw => hst w (by
    rcases List.mem_cons.mp hw with rfl | hw
    · simp
    · simp [hw])
  have hst2 : ∀ w ∈ r, zi_ok S.2.1 w := fun w hw => hst w (by simp [hw])
  have hMM := hM DM D cy ad H.size hDM hokS hst1
  rw [hr0] at hMM hcode
  have hpS := zi_preS (A := A) (as := .ref a :: bs) hA hK hN (hSF.ag hag) hH
  have hle1 := hle.2.1
  have hle2 := hle.2.2
  have hrm : (zi_R d (S'.2.2.1 - S.2.2.1) (S'.2.2.2 - S.2.2.2)).frames + 1 ≤ R.frames ∧ 8 + (DM.2.2.1 + 11) + (zi_R d (S'.2.2.1 - S.2.2.1) (S'.2.2.2 - S.2.2.2)).locals ≤ R.locals := zi_R_ok hRf hRl hmL
  have hsp : (bs.reverse ++ Value.ref a :: r).map (zi_v ad) = (bs.map (zi_v ad)).reverse ++ Value.ref (ad a) :: r.map (zi_v ad) := by simp [zi_v]
  refine zi_after (d := d) (DM := DM) (as := bs) rfl rfl hA hle hnum hn0 hk hs hag hH hL hst2 ((Value.ref a :: bs).map (zi_v ad)).toArray ?_ kk
  rcases hlink with hlink | ⟨host, hlink⟩
  · exact va_runI (As := bs.map (zi_v ad)) (rest := r.map (zi_v ad)) (Ts := zi_tb) ⟨hx, hb, hml, hown, hts⟩ hMM ⟨callB_of y hts (zi_goodIn hcode) rfl rfl rfl (hts _ hini) (hts _ hlink) hpl hrm, hin, hts _ hinst⟩ hpS rfl (by rw [List.length_map]; exact hy) hL.1 hsp (lv_room (zi_sm_map hsm)) hd ⟨by omega, by omega⟩
  · exact va_runIN (As := bs.map (zi_v ad)) (rest := r.map (zi_v ad)) (Ts := zi_tb) ⟨hx, hb, hml, hown, hts⟩ hMM ⟨va_cnB y hts (zi_goodIn hcode) rfl rfl rfl (hN _ hlink) (hts _ hini) hpl hrm, hin, hts _ hinst⟩ hpS rfl (by rw [List.length_map]; exact hy) hL.1 hsp (lv_room (zi_sm_map hsm)) hd ⟨by omega, by omega⟩
theorem zi_c_S {ix x y x' : Nat} {as r : List Value} (X : zi_X p s m args meth c R D cy A cc nL o nm rt ad0) (hRf : d + 5 ≤ R.frames) (hRl : 64 * d + 320 ≤ R.locals) (hd : decode cc pc = .ok (.invokestatic ix, 3)) (hg : zi_gS M o ix x y) (hex : zi_invs st x y = some (.inr (.inr (x', as, r)))) (hM : zi_Met l M d x' as S v S') (hn0 : n0 ≤ S.2.1) (hk : k0 ≤ S.2.2.1) (hs : s0 ≤ S.2.2.2) (hRc : S'.2.2.1 - k0 ≤ R.cells) (hRs : S'.2.2.2 - s0 ≤ R.slots) (kk : zi_Go p l e R s m args below meth c Q D cy A nL n0 ad0 k0 s0 (pc + 3) L (v.toList ++ r) S') : zi_Go p l e R s m args below meth c Q D cy A nL n0 ad0 k0 s0 pc L st S := by
  obtain ⟨rfl, hy, rfl, hsm⟩ := zi_invs_inv hex
  obtain ⟨hx, hb, hml, hown, hts, hN, hK, hA, hcls, hnm, hret, hlk, hRf0, hRl0, hSF⟩ := X
  obtain ⟨⟨DM, hDM, hny, hcl, hini, hpl, hcode, hmL, hlink⟩, hsel⟩ := hg
  have hstat := hsel DM hDM
  obtain ⟨hle, hnum, hM⟩ := hM
  intro ad ls H locs hag hH hL hst
  have hokS : zi_wfS S := ⟨hH.2.2.2.1, hH.2.2.2.2.1, hH.2.2.2.2.2⟩
  have hst1 : ∀ w ∈ as, zi_ok S.2.1 w := fun w hw => hst w (by simp [hw])
  have hst2 : ∀ w ∈ r, zi_ok S.2.1 w := fun w hw => hst w (by simp [hw])
  have hMM := hM DM D cy ad H.size hDM hokS hst1
  have hpS := zi_preS (A := A) (as := as) hA hK hN (hSF.ag hag) hH
  have hle1 := hle.2.1
  have hle2 := hle.2.2
  have hrm : (zi_R d (S'.2.2.1 - S.2.2.1) (S'.2.2.2 - S.2.2.2)).frames + 1 ≤ R.frames ∧ 8 + (DM.2.2.1 + 11) + (zi_R d (S'.2.2.1 - S.2.2.1) (S'.2.2.2 - S.2.2.2)).locals ≤ R.locals := zi_R_ok hRf hRl hmL
  have hsp : (as.reverse ++ r).map (zi_v ad) = (as.map (zi_v ad)).reverse ++ r.map (zi_v ad) := by simp
  refine zi_after (d := d) (DM := DM) (as := as) rfl rfl hA hle hnum hn0 hk hs hag hH hL hst2 (as.map (zi_v ad)).toArray ?_ kk
  rcases hlink with hlink | ⟨host, hlink⟩
  · exact va_runS (As := as.map (zi_v ad)) (rest := r.map (zi_v ad)) (Ts := zi_tb) ⟨hx, hb, hml, hown, hts⟩ hMM ⟨callB_of y hts (zi_goodIn hcode) rfl rfl rfl (hts _ hini) (hts _ hlink) hpl hrm, hts _ hstat⟩ hpS rfl (by rw [List.length_map]; exact hy) hL.1 hsp (lv_room (zi_sm_map hsm)) hd ⟨by omega, by omega⟩
  · exact va_runSN (As := as.map (zi_v ad)) (rest := r.map (zi_v ad)) (Ts := zi_tb) ⟨hx, hb, hml, hown, hts⟩ hMM ⟨va_cnB y hts (zi_goodIn hcode) rfl rfl rfl (hN _ hlink) (hts _ hini) hpl hrm, hts _ hstat, trivial⟩ hpS rfl (by rw [List.length_map]; exact hy) hL.1 hsp (lv_room (zi_sm_map hsm)) hd ⟨by omega, by omega⟩
end ZAA
theorem zi_inv_nr {st : List Value} {S : zi_S} {x y : Nat} {v : Option Value} : ¬ zi_inv st S x y = some (.inr (.inl v)) := by
  intro h
  unfold zi_inv at h
  split at h
  · split at h
    · obtain ⟨-, h⟩ := zi_cond_inv h
      cases h
    · cases h
  · cases h
theorem zi_invs_nr {st : List Value} {x y : Nat} {v : Option Value} : ¬ zi_invs st x y = some (.inr (.inl v)) := by
  intro h
  unfold zi_invs at h
  split at h
  · obtain ⟨-, h⟩ := zi_cond_inv h
    cases h
  · cases h
section ZAB
variable {p : Program} {l : Launch} {e : Env} {R : Room} {s : State} {m : MethodId} {args : Array Value} {below : List Frame} {meth : Method} {c : Code} {D : va_G} {cy : Nat → ClassId} {cc : ByteArray} {nL o rt d : Nat} {nm : String} {ad0 : Nat → Nat} {pc : Nat} {L : zi_L} {st : List Value} {S0 S : zi_S} {v : Option Value}
/-- a return -/
theorem zi_c_R {q : zi_I} (X : zi_X p s m args meth c R D cy (va_A (zi_w cy ad0 S0.1 S0.2.1) s.heap.size) cc nL o nm rt ad0) (hd : decode cc pc = .ok (q.1, q.2.1)) (hlen : q.2.1 = zi_ln q.1 q.2.1) (hex : zi_ex rt q pc L st S = some (.inr (.inl v))) :
    zi_num v ∧ zi_Go p l e R s m args below meth c (MQ below (zi_Post D cy ad0 S0 v S s.heap.size) args s (S.2.2.1 - S0.2.2.1) (S.2.2.2 - S0.2.2.2) (va_A (zi_w cy ad0 S0.1 S0.2.1) s.heap.size)) D cy (va_A (zi_w cy ad0 S0.1 S0.2.1) s.heap.size) nL S0.2.1 ad0 S0.2.2.1 S0.2.2.2 pc L st S := by
  obtain ⟨i, len, x, y, z⟩ := q
  obtain ⟨hx, hb, hml, hown, hts, hN, hK, hA, hcls, hnm, hret, hlk, hRf, hRl, hSF⟩ := id X
  dsimp only at hd hlen
  have fin : ∀ {ad : Nat → Nat} {H : Heap} {locs : List Loc}, zi_ag S0.2.1 ad0 ad → zi_Hp D cy (va_A (zi_w cy ad0 S0.1 S0.2.1) s.heap.size) ad s.heap H locs S → ∀ t : State, t.heap = H → s.WarmedH t.vm → zi_Post D cy ad0 S0 v S s.heap.size args s (.returned v) t := by
    intro ad H locs hag hH t ht _
    exact ⟨⟨⟨ad, hag, rfl, by rw [ht]; exact hH.1, hH.2.1⟩, hH.2.2.2⟩, hH.2.2.1.F ht⟩
  have key : i = .ireturn ∨ i = .lreturn ∨ i = .return_ := by
    rcases zi_ex_kind (rt := rt) (q := (i, len, x, y, z)) (pc := pc) (L := L) (st := st) (S := S) with h | ⟨ix, h1, h2⟩ | ⟨ix, h1, h0, h2⟩ | ⟨ix, h1, -, -, -, h2⟩ | ⟨h, -⟩
    · obtain ⟨w, hw, -⟩ := h _ hex
      cases hw
    · rw [h2] at hex
      exact absurd hex zi_inv_nr
    · rw [h2] at hex
      exact absurd hex zi_inv_nr
    · rw [h2] at hex
      exact absurd hex zi_invs_nr
    · exact h
  rcases key with rfl | rfl | rfl
  · have hlen : len = 1 := hlen
    subst hlen
    simp only [zi_ex] at hex
    split at hex
    · rename_i w
      cases hex
      refine ⟨trivial, ?_⟩
      intro ad ls H locs hag hH hL hst
      exact W.iret hx hb hret (fin hag hH) hH.2.2.1.2.2 hd hlk
    · rename_i w
      split at hex
      · rename_i hw
        cases hex
        refine ⟨trivial, ?_⟩
        intro ad ls H locs hag hH hL hst
        have hnar : narrow .boolean (.int w) = .int w := by
          rcases hw with rfl | rfl <;> rfl
        exact W.zret hx hb hret hnar (fin hag hH) hH.2.2.1.2.2 hd hlk
      · cases hex
    · rename_i w
      split at hex
      · rename_i hw
        cases hex
        refine ⟨trivial, ?_⟩
        intro ad ls H locs hag hH hL hst
        have hnar : narrow .char (.int w) = .int w := by
          have := pk_nc w
          rw [hw] at this
          exact this
        exact W.zret hx hb hret hnar (fin hag hH) hH.2.2.1.2.2 hd hlk
      · cases hex
    · rename_i w
      split at hex
      · rename_i hw
        cases hex
        refine ⟨trivial, ?_⟩
        intro ad ls H locs hag hH hL hst
        have hnar : narrow .byte (.int w) = .int w := by
          have := pk_nb w
          rw [hw] at this
          exact this
        exact W.zret hx hb hret hnar (fin hag hH) hH.2.2.1.2.2 hd hlk
      · cases hex
    · cases hex
  · have hlen : len = 1 := hlen
    subst hlen
    simp only [zi_ex] at hex
    split at hex
    · rename_i w
      cases hex
      refine ⟨trivial, ?_⟩
      intro ad ls H locs hag hH hL hst
      exact W.lret hx hb hret (fin hag hH) hH.2.2.1.2.2 hd hlk
    · cases hex
  · have hlen : len = 1 := hlen
    subst hlen
    simp only [zi_ex] at hex
    split at hex
    · cases hex
      refine ⟨trivial, ?_⟩
      intro ad ls H locs hag hH hL hst
      exact W.vret hx hb hret (fin hag hH) hH.2.2.1.2.2 hd hlk
    · cases hex
end ZAB
