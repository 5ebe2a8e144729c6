/-! ===== one step of the abstract machine is a step of the machine ===== -/
def zi_cn (o : Nat) : String := match o with
  | 0 => RX0
  | 1 => RX1
  | 2 => RX2
  | 3 => RX3
  | 4 => RX4
  | 5 => RX5
  | 6 => RX6
  | 7 => RX7
  | 8 => RX8
  | 9 => RX9
  | 10 => RX10
  | 11 => RX11
  | 12 => RX12
  | 13 => "LocksBySongLaw"
  | 15 => RJ0
  | 16 => RJ1
  | _ => RJ6
def zi_tb : List Cond := lw_tbl.filter goodWord
def zi_isN : Cond → Bool
  | .fieldLinkNest _ _ _ _ _ _ => true
  | .methodLinkNest _ _ _ _ => true
  | .arrayOver (.object _) => true
  | _ => false
def zi_nw : List Cond := lw_tbl.filter zi_isN
/-- a method: its name, bytes, locals, what it returns (0 none, 1 int, 2 boolean, 3 long), how many parameters -/
abbrev zi_MI : Type := MethodName × ByteArray × Nat × Nat × Nat
def zi_rt : Nat → Option FieldType
  | 0 => none
  | 1 => some .int
  | 2 => some .boolean
  | 4 => some .char
  | 5 => some .byte
  | _ => some .long
def zi_gF (o ix x y : Nat) : Prop := ∃ r : vw_C, vwCl[x]? = some r ∧ y < r.2.2 ∧ (Cond.fieldLink (zi_cn o) ix (r.2.1 y).1 (r.2.1 y).2.1 (r.2.1 y).2.2.1 ∈ zi_tb ∨ ∃ host, Cond.fieldLinkNest (zi_cn o) ix (r.2.1 y).1 (r.2.1 y).2.1 (r.2.1 y).2.2.1 host ∈ zi_nw)
def zi_gP (nm : String) (o ix x y : Nat) : Prop := ∃ r : vw_C, vwCl[x]? = some r ∧ y < r.2.2 ∧ (((r.2.1 y).2.2.2 = true ∧ nm = "<init>" ∧ (r.2.1 y).1 = zi_cn o ∧ Cond.fieldLink (zi_cn o) ix (r.2.1 y).1 (r.2.1 y).2.1 (r.2.1 y).2.2.1 ∈ zi_tb) ∨ (r.2.1 y).2.2.2 = false ∧ (Cond.fieldLink (zi_cn o) ix (r.2.1 y).1 (r.2.1 y).2.1 (r.2.1 y).2.2.1 ∈ zi_tb ∨ ∃ host, Cond.fieldLinkNest (zi_cn o) ix (r.2.1 y).1 (r.2.1 y).2.1 (r.2.1 y).2.2.1 host ∈ zi_nw))
/-- what the tables say of a method -/
def zi_gM (M : Nat → Option zi_MI) (o ix x y : Nat) : Prop := ∃ (d : zi_MI), M x = some d ∧ d.2.2.2.2 = y ∧ d.1.cls = zi_cn (x / 200) ∧ Cond.initialized d.1.cls ∈ zi_tb ∧ (d.1.cls ≠ "java/lang/invoke/MethodHandle" ∧ d.1.cls ≠ "java/lang/invoke/VarHandle" ∧ (parseMethodDescriptor d.1.desc).map (fun q => q.parameters.length) = some y) ∧ Cond.code d.1 d.2.1 d.2.2.1 (zi_rt d.2.2.2.1) ∈ zi_tb ∧ d.2.2.1 ≤ 40 ∧ (Cond.methodLink (zi_cn o) ix d.1 ∈ zi_tb ∨ ∃ host, Cond.methodLinkNest (zi_cn o) ix d.1 host ∈ zi_nw)
def zi_gV (M : Nat → Option zi_MI) (o ix x y : Nat) : Prop := zi_gM M o ix x y ∧ ∀ d, M x = some d → Cond.instanceMethod d.1 ∈ zi_tb ∧ Cond.selects (zi_cn (x / 200)) d.1 d.1 ∈ zi_tb ∧ ((∃ r : vw_C, vwCl[x / 200]? = some r ∧ r.1 = zi_cn (x / 200)) ∨ x / 200 = 15)
def zi_gI (M : Nat → Option zi_MI) (o ix x y : Nat) : Prop := zi_gM M o ix x y ∧ ∀ d, M x = some d → Cond.instanceMethod d.1 ∈ zi_tb ∧ d.1.name = "<init>" ∧ d.2.2.2.1 = 0
def zi_gS (M : Nat → Option zi_MI) (o ix x y : Nat) : Prop := zi_gM M o ix x y ∧ ∀ d, M x = some d → Cond.static d.1 ∈ zi_tb
/-- where the texts are loaded: class, entry, which text -/
def zi_TT : List (Nat × Nat × Nat) := [(7, 96, 0), (12, 227, 0), (12, 235, 1), (12, 237, 2), (12, 239, 3), (12, 357, 4), (12, 424, 5)]
def zi_tx (j : Nat) : String := match j with
  | 0 => "ntlwucm"
  | 1 => "<>="
  | 2 => "+-"
  | 3 => "*/"
  | 4 => "hludr"
  | _ => "du"
def zi_len : List Nat := [7, 3, 2, 2, 5, 2]
/-- what is known beside: the words of a throw that warmer tables keep, the statics that it reads -/
def zi_xw : List Cond := [.castable "java/util/NoSuchElementException" "java/util/NoSuchElementException", .declares (Bundle.init0 "java/lang/RuntimeException"), .declares (Bundle.init0 "java/lang/Exception"), .declares (Bundle.init0 Bundle.tN)]
theorem zi_xw_warm {s U : State} (hW : s.WarmedH U.vm) (h : ∀ w ∈ zi_xw, va_Nw w s) : ∀ w ∈ zi_xw, va_Nw w U := by
  intro w hw
  have h1 := h w hw
  simp only [zi_xw, List.mem_cons, List.not_mem_nil, or_false] at hw
  rcases hw with rfl | rfl | rfl | rfl
  · exact va_Nw.warmC hW h1
  · exact va_Nw.warmD hW h1
  · exact va_Nw.warmD hW h1
  · exact va_Nw.warmD hW h1
theorem zi_xw_same {s U : State} (hv : s.vm = U.vm) (h : ∀ w ∈ zi_xw, va_Nw w s) : ∀ w ∈ zi_xw, va_Nw w U := by
  intro w hw
  have h1 := h w hw
  simp only [zi_xw, List.mem_cons, List.not_mem_nil, or_false] at hw
  rcases hw with rfl | rfl | rfl | rfl <;> exact va_Nw.same rfl hv h1
def zi_XF (A : Nat → Prop) (U : State) (H : Heap) : Prop := va_Zq "jdk/internal/util/Preconditions" "SIOOBE_FORMATTER" "Ljava/util/function/BiFunction;" A U H ∧ vx_Zq Bundle.tN "UNASSIGNED_STACK" Bundle.steD A U H ∧ vx_Zq Bundle.tN "SUPPRESSED_SENTINEL" Bundle.listD A U H ∧ ∀ w ∈ zi_xw, va_Nw w U
theorem zi_XF.sub {A B : Nat → Prop} {u U : State} {H H1 : Heap} (h : zi_XF A u H) (hq : ∀ a : Nat, a < H.size → ¬ A a → H1[a]? = H[a]?) (hAB : ∀ q, B q → A q) (hW : u.WarmedH U.vm) : zi_XF B U H1 :=
  ⟨va_Zq.moved hW.alike (va_Zq.narrow (va_Zq.kept h.1 hq) hAB), vx_Zq.moved hW.alike ((h.2.1.kept hq).narrow hAB), vx_Zq.moved hW.alike ((h.2.2.1.kept hq).narrow hAB), zi_xw_warm hW h.2.2.2⟩
theorem zi_XF.same {A : Nat → Prop} {u U : State} {H : Heap} (h : zi_XF A u H) (hv : u.vm = U.vm) : zi_XF A U H :=
  ⟨va_Zq.moved (by rw [hv]; exact Vm.Alike.refl U.vm) h.1, vx_Zq.moved (by rw [hv]; exact Vm.Alike.refl U.vm) h.2.1, vx_Zq.moved (by rw [hv]; exact Vm.Alike.refl U.vm) h.2.2.1, zi_xw_same hv h.2.2.2⟩
/-- what is known of the texts: their cells, the flag of their form, where they are loaded -/
def zi_SF (ad : Nat → Nat) (A : Nat → Prop) (U : State) (H : Heap) : Prop := vk_S 6 zi_len zi_txt (fun j => ad (1000000 + 2 * j)) (fun j => ad (1000001 + 2 * j)) A U H ∧ va_Z "java/lang/String" "COMPACT_STRINGS" "Z" (.int 1) A U H ∧ (∀ q ∈ zi_TT, vk_R (zi_cn q.1) q.2.1 (zi_tx q.2.2) (ad (1000000 + 2 * q.2.2)) U) ∧ zi_XF A U H
theorem zi_SF.ag {n : Nat} {ad ad' : Nat → Nat} {A : Nat → Prop} {U : State} {H : Heap} (ha : zi_ag n ad ad') (h : zi_SF ad A U H) : zi_SF ad' A U H := by
  have e1 : (fun j => ad' (1000000 + 2 * j)) = fun j => ad (1000000 + 2 * j) := funext fun j => ha _ (Or.inr (by omega))
  have e2 : (fun j => ad' (1000001 + 2 * j)) = fun j => ad (1000001 + 2 * j) := funext fun j => ha _ (Or.inr (by omega))
  refine ⟨by rw [e1, e2]; exact h.1, h.2.1, fun q hq => ?_, h.2.2.2⟩
  rw [ha (1000000 + 2 * q.2.2) (Or.inr (by omega))]
  exact h.2.2.1 q hq
theorem zi_SF.sub {ad : Nat → Nat} {A B : Nat → Prop} {u U : State} {H H1 : Heap} (h : zi_SF ad A u H) (hq : ∀ a : Nat, a < H.size → ¬ A a → H1[a]? = H[a]?) (hAB : ∀ q, B q → A q) (hW : u.WarmedH U.vm) : zi_SF ad B U H1 :=
  ⟨((h.1.kept hq).narrow hAB).moved hW.alike, ((h.2.1.kept hq).narrow hAB).moved hW.alike, fun q hq => (h.2.2.1 q hq).warm hW, h.2.2.2.sub hq hAB hW⟩
theorem zi_SF.same {ad : Nat → Nat} {A : Nat → Prop} {u U : State} {H : Heap} (h : zi_SF ad A u H) (hv : u.vm = U.vm) : zi_SF ad A U H :=
  ⟨h.1.moved (by rw [hv]; exact Vm.Alike.refl U.vm), h.2.1.moved (by rw [hv]; exact Vm.Alike.refl U.vm), fun q hq => (h.2.2.1 q hq).same hv.symm, h.2.2.2.same hv⟩
def zi_gG (o ix x y : Nat) : Prop := zi_gF o ix x y ∨ (x = 15 ∧ ((y = 0 ∧ Cond.fieldLink (zi_cn o) ix "java/lang/String" "value" "[B" ∈ zi_tb) ∨ (y = 1 ∧ Cond.fieldLink (zi_cn o) ix "java/lang/String" "coder" "B" ∈ zi_tb)))
def zi_gC (o ix x y : Nat) : Prop := match y with
  | 0 => Cond.constant (zi_cn o) ix (Int32.ofNat x) ∈ zi_tb
  | _ => ∃ j, x = 2 * j ∧ (o, ix, j) ∈ zi_TT
def zi_tsw (pc : Nat) (lo : Int) (offs : List Int) (z : List (Int32 × Nat)) : Prop := z.length = offs.length ∧ ∀ k, k < offs.length → ∃ (e : Int32 × Nat) (off : Int), z[k]? = some e ∧ offs[k]? = some off ∧ e.1.toInt = lo + k ∧ (pc : Int) + off = e.2
def zi_lsw (pc : Nat) : List (Int × Int) → List (Int32 × Nat) → Prop
  | [], [] => True
  | a :: as, b :: bs => b.1.toInt = a.1 ∧ (pc : Int) + a.2 = b.2 ∧ zi_lsw pc as bs
  | _, _ => False
def zi_good (M : Nat → Option zi_MI) (nm : String) (o pc : Nat) (q : zi_I) : Prop := match q.1 with
  | .ldc ix => zi_gC o ix q.2.2.1 q.2.2.2.1
  | .ldc_w ix => zi_gC o ix q.2.2.1 q.2.2.2.1
  | .getstatic ix => q.2.2.1 = 1 ∧ Cond.fieldLink (zi_cn o) ix "java/lang/String" "COMPACT_STRINGS" "Z" ∈ zi_tb
  | .ldc2_w ix => Cond.constantLong (zi_cn o) ix (Int64.ofNat q.2.2.1) ∈ zi_tb
  | .goto off => (pc : Int) + off = q.2.2.1
  | .ifCond _ off => (pc : Int) + off = q.2.2.1
  | .if_icmp _ off => (pc : Int) + off = q.2.2.1
  | .tableswitch d lo hi offs => (pc : Int) + d = q.2.2.1 ∧ hi = lo + offs.size - 1 ∧ zi_tsw pc lo offs.toList q.2.2.2.2
  | .lookupswitch d ps => (pc : Int) + d = q.2.2.1 ∧ (ps.toList.zip (ps.toList.drop 1)).all (fun (a, next) => a.1 < next.1) = true ∧ zi_lsw pc ps.toList q.2.2.2.2
  | .getfield ix => zi_gG o ix q.2.2.1 q.2.2.2.1
  | .putfield ix => zi_gP nm o ix q.2.2.1 q.2.2.2.1
  | .newarray t => Cond.arrayClass (newarray.typeOf t) ∈ zi_tb
  | .anewarray ix => Cond.classLink (zi_cn o) ix RX3 ∈ zi_tb ∧ Cond.arrayOver (.object RX3) ∈ zi_nw
  | .new ix => ∃ r : vw_C, vwCl[q.2.2.1]? = some r ∧ r.2.2 = zi_fn q.2.2.1 ∧ Cond.classLink (zi_cn o) ix r.1 ∈ zi_tb ∧ Cond.instantiable r.1 r.2.2 ∈ zi_tb ∧ Cond.initialized r.1 ∈ zi_tb
  | .invokevirtual ix => zi_gV M o ix q.2.2.1 q.2.2.2.1
  | .invokespecial ix => if q.2.2.1 = 9000 then Cond.methodLink (zi_cn o) ix Lib.objectInit ∈ zi_tb ∧ Cond.instanceMethod Lib.objectInit ∈ zi_tb ∧ Cond.code Lib.objectInit ⟨#[0xb1]⟩ 1 none ∈ zi_tb else zi_gI M o ix q.2.2.1 q.2.2.2.1
  | .invokestatic ix => if q.2.2.1 = 9001 then Cond.methodLink (zi_cn o) ix Lib.Math.max.name ∈ zi_tb ∧ Cond.static Lib.Math.max.name ∈ zi_tb ∧ Cond.initialized "java/lang/Math" ∈ zi_tb ∧ Cond.code Lib.Math.max.name Lib.Math.max.code 2 (some .int) ∈ zi_tb
    else if q.2.2.1 = 9002 then Cond.methodLink (zi_cn o) ix Lib.Math.min.name ∈ zi_tb ∧ Cond.static Lib.Math.min.name ∈ zi_tb ∧ Cond.initialized "java/lang/Math" ∈ zi_tb ∧ Cond.code Lib.Math.min.name Lib.Math.min.code 2 (some .int) ∈ zi_tb
    else if q.2.2.1 = 9003 then Cond.methodLink (zi_cn o) ix arraycopyName ∈ zi_tb ∧ Cond.native arraycopyName ∈ zi_tb ∧ Cond.static arraycopyName ∈ zi_tb ∧ Cond.initialized "java/lang/System" ∈ zi_tb
    else zi_gS M o ix q.2.2.1 q.2.2.2.1
  | _ => True
def zi_tys (cy : Nat → ClassId) : List (ClassId × FieldType) := [(cy 0, .int), (cy 1, .long), (cy 2, .boolean), (cy 3, .object RX3)]
/-- what the tables say of the classes -/
def zi_cls : Prop := ∀ (ci : Nat) (r : vw_C), vwCl[ci]? = some r → (∀ w ∈ u_ws r.1 r.2.1 r.2.2, w ∈ zi_tb) ∧ (∀ k, k < r.2.2 → parseFieldDescriptor (r.2.1 k).2.2.1 = some (zi_ft ci k)) ∧ (∀ a, a < r.2.2 → ∀ b, b < r.2.2 → a ≠ b → (r.2.1 a).2.1 ≠ (r.2.1 b).2.1)
/-- what holds all along a method's body -/
def zi_X (p : Program) (s : State) (m : MethodId) (args : Array Value) (meth : Method) (c : Code) (R : Room) (D : va_G) (cy : Nat → ClassId) (A : Nat → Prop) (cc : ByteArray) (nL : Nat) (o : Nat) (nm : String) (rt : Nat) (ad0 : Nat → Nat) : Prop :=
  p.tables.exec = Jvm.exec ∧ c.code = cc ∧ c.maxLocals = nL ∧ s.vm.findClass (zi_cn o) = some m.cls ∧ (∀ w ∈ zi_tb, w.before args s = true) ∧ (∀ w ∈ zi_nw, va_Nw w s) ∧ va_K D vwCl (zi_tys cy) s ∧ (∀ q, s.heap.size ≤ q → A q) ∧ zi_cls ∧ meth.name = nm ∧ meth.sig.returnType = zi_rt rt ∧ meth.locks = false ∧ 1 ≤ R.frames ∧ 64 ≤ R.locals ∧ zi_SF ad0 A s s.heap
def zi_Hp (D : va_G) (cy : Nat → ClassId) (A : Nat → Prop) (ad : Nat → Nat) (H0 H : Heap) (locs : List Loc) (S : zi_S) : Prop := va_P D vwCl (zi_w cy ad S.1 S.2.1) H ∧ va_D A (zi_w cy ad S.1 S.2.1) ∧ va_S A H0 H locs ∧ (∀ k, k < S.2.1 → zi_okC S.2.1 (S.1 k)) ∧ S.2.1 ≤ 1000000 ∧ ∀ k, 1000000 ≤ k → S.1 k = zi_ro k
/-- from every heap, locals and stack that the picture fits, the machine comes to Q -/
def zi_Go (p : Program) (l : Launch) (e : Env) (R : Room) (s : State) (m : MethodId) (args : Array Value) (below : List Frame) (meth : Method) (c : Code) (Q : State → Prop) (D : va_G) (cy : Nat → ClassId) (A : Nat → Prop) (nL n0 : Nat) (ad0 : Nat → Nat) (k0 s0 : Nat) (pc : Nat) (L : zi_L) (st : List Value) (S : zi_S) : Prop :=
  ∀ (ad : Nat → Nat) (ls : Array Slot) (H : Heap) (locs : List Loc), zi_ag n0 ad0 ad → zi_Hp D cy A ad s.heap H locs S → zi_Lv ad ls nL S.2.1 L → (∀ v ∈ st, zi_ok S.2.1 v) → W p l e R s m args below meth c H locs (S.2.2.1 - k0) (S.2.2.2 - s0) Q (F0 m pc ls (st.map (zi_v ad)))
/-- an instruction's length -/
def zi_ln (i : ClassFile.Instr) (len : Nat) : Nat := match i with
  | .bipush _ => 2
  | .ldc _ => 2
  | .iload _ => 2
  | .lload _ => 2
  | .aload _ => 2
  | .istore _ => 2
  | .lstore _ => 2
  | .astore _ => 2
  | .newarray _ => 2
  | .sipush _ => 3
  | .getstatic _ => 3
  | .ldc_w _ => 3
  | .ldc2_w _ => 3
  | .iinc _ _ => 3
  | .goto _ => 3
  | .ifCond _ _ => 3
  | .if_icmp _ _ => 3
  | .getfield _ => 3
  | .putfield _ => 3
  | .anewarray _ => 3
  | .new _ => 3
  | .invokevirtual _ => 3
  | .invokespecial _ => 3
  | .invokestatic _ => 3
  | .tableswitch _ _ _ _ => len
  | .lookupswitch _ _ => len
  | _ => 1
theorem zi_nx_inv {a pc' : Nat} {b L' : zi_L} {c st' : List Value} {d S' : zi_S} (h : zi_nx a b c d = some (.inl (pc', L', st', S'))) : pc' = a ∧ L' = b ∧ st' = c ∧ S' = d := by
  cases h
  exact ⟨rfl, rfl, rfl, rfl⟩
theorem zi_cond_inv {α : Type} {b : Bool} {x : Option α} {y : α} (h : cond b x none = some y) : b = true ∧ x = some y := by
  cases b
  · cases h
  · exact ⟨rfl, h⟩
theorem zi_i1_inv {pc pc' : Nat} {L L' : zi_L} {st st' : List Value} {S S' : zi_S} {f : Int32 → Int32} (h : zi_i1 pc L st S f = some (.inl (pc', L', st', S'))) : ∃ x r, st = .int x :: r ∧ pc' = pc + 1 ∧ L' = L ∧ st' = .int (f x) :: r ∧ S' = S := by
  unfold zi_i1 at h
  split at h
  · exact ⟨_, _, rfl, zi_nx_inv h⟩
  · cases h
theorem zi_i2_inv {pc pc' : Nat} {L L' : zi_L} {st st' : List Value} {S S' : zi_S} {f : Int32 → Int32 → Int32} (h : zi_i2 pc L st S f = some (.inl (pc', L', st', S'))) : ∃ x y r, st = .int y :: .int x :: r ∧ pc' = pc + 1 ∧ L' = L ∧ st' = .int (f x y) :: r ∧ S' = S := by
  unfold zi_i2 at h
  split at h
  · exact ⟨_, _, _, rfl, zi_nx_inv h⟩
  · cases h
theorem zi_l2_inv {pc pc' : Nat} {L L' : zi_L} {st st' : List Value} {S S' : zi_S} {f : Int64 → Int64 → Int64} (h : zi_l2 pc L st S f = some (.inl (pc', L', st', S'))) : ∃ x y r, st = .long y :: .long x :: r ∧ pc' = pc + 1 ∧ L' = L ∧ st' = .long (f x y) :: r ∧ S' = S := by
  unfold zi_l2 at h
  split at h
  · exact ⟨_, _, _, rfl, zi_nx_inv h⟩
  · cases h
theorem zi_lod_inv {n pc pc' i : Nat} {L L' : zi_L} {st st' : List Value} {S S' : zi_S} {k : Value → Bool} (h : zi_lod n pc L st S i k = some (.inl (pc', L', st', S'))) : ∃ v, zi_ld L i = some v ∧ k v = true ∧ pc' = pc + n ∧ L' = L ∧ st' = v :: st ∧ S' = S := by
  unfold zi_lod at h
  split at h
  · rename_i v hv
    obtain ⟨h1, h2⟩ := zi_cond_inv h
    exact ⟨v, hv, h1, zi_nx_inv h2⟩
  · cases h
theorem zi_sto_inv {n pc pc' i : Nat} {L L' : zi_L} {st st' : List Value} {S S' : zi_S} {k : Value → Bool} (h : zi_sto n pc L st S i k = some (.inl (pc', L', st', S'))) : ∃ v, st = v :: st' ∧ k v = true ∧ zi_st1 L i v = some L' ∧ pc' = pc + n ∧ S' = S := by
  unfold zi_sto at h
  split at h
  · rename_i v r
    obtain ⟨h1, h2⟩ := zi_cond_inv h
    obtain ⟨L1, h3, h4⟩ := Option.bind_eq_some_iff.mp h2
    obtain ⟨rfl, rfl, rfl, rfl⟩ := zi_nx_inv h4
    exact ⟨v, rfl, h1, h3, rfl, rfl⟩
  · cases h
theorem zi_sto2_inv {n pc pc' i : Nat} {L L' : zi_L} {st st' : List Value} {S S' : zi_S} (h : zi_sto2 n pc L st S i = some (.inl (pc', L', st', S'))) : ∃ v, st = .long v :: st' ∧ zi_st2 L i (.long v) = some L' ∧ pc' = pc + n ∧ S' = S := by
  unfold zi_sto2 at h
  split at h
  · rename_i v r
    obtain ⟨L1, h3, h4⟩ := Option.bind_eq_some_iff.mp h
    obtain ⟨rfl, rfl, rfl, rfl⟩ := zi_nx_inv h4
    exact ⟨v, rfl, h3, rfl, rfl⟩
  · cases h
theorem zi_kI_inv {v : Value} (h : zi_kI v = true) : ∃ x, v = .int x := by cases v <;> first | exact ⟨_, rfl⟩ | cases h
theorem zi_kL_inv {v : Value} (h : zi_kL v = true) : ∃ x, v = .long x := by cases v <;> first | exact ⟨_, rfl⟩ | cases h
theorem zi_kR_inv {v : Value} (h : zi_kR v = true) : ∃ x, v = .ref x := by cases v <;> first | exact ⟨_, rfl⟩ | cases h
theorem zi_k1_cat {v : Value} (h : zi_k1 v = true) : v.category = 1 := by cases v <;> first | rfl | cases h
theorem zi_br_inv {pc tgt pc' : Nat} {L L' : zi_L} {r st' : List Value} {S S' : zi_S} {b : Prop} [Decidable b] (h : zi_br pc tgt L r S b = some (.inl (pc', L', st', S'))) : L' = L ∧ st' = r ∧ S' = S ∧ (b → pc' = tgt) ∧ (¬ b → pc' = pc + 3) := by
  unfold zi_br at h
  split at h
  · rename_i hb
    obtain ⟨rfl, rfl, rfl, rfl⟩ := zi_nx_inv h
    exact ⟨rfl, rfl, rfl, fun _ => rfl, fun q => absurd hb q⟩
  · rename_i hb
    obtain ⟨rfl, rfl, rfl, rfl⟩ := zi_nx_inv h
    exact ⟨rfl, rfl, rfl, fun q => absurd q hb, fun _ => rfl⟩
theorem zi_in_vp {i : Int32} {n : Nat} (h : zi_in i n = true) : vp_in i n := by
  unfold zi_in at h
  simp only [Bool.and_eq_true, Bool.not_eq_true', decide_eq_false_iff_not] at h
  intro q
  rcases q with q | q
  · exact h.1 q
  · exact absurd (Nat.le_of_ble_eq_true h.2) (by omega)
theorem zi_all_cons {n : Nat} {v : Value} {r : List Value} (h1 : zi_ok n v) (h2 : ∀ w ∈ r, zi_ok n w) : ∀ w ∈ v :: r, zi_ok n w := fun w h => by
  rcases List.mem_cons.mp h with rfl | h
  · exact h1
  · exact h2 w h
theorem zi_all_tail {n : Nat} {v : Value} {r : List Value} (h : ∀ w ∈ v :: r, zi_ok n w) : ∀ w ∈ r, zi_ok n w := fun w q => h w (List.mem_cons_of_mem _ q)
theorem zi_all_head {n : Nat} {v : Value} {r : List Value} (h : ∀ w ∈ v :: r, zi_ok n w) : zi_ok n v := h v List.mem_cons_self
