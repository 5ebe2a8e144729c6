/-! ===== the abstract machine: cells by their number, one step, a call ===== -/
abbrev zi_C : Type := (Nat × vp_A) ⊕ (Nat × List Value)
/-- the heap by the cells' numbers; how many cells; cells and slots of the room that are used -/
abbrev zi_S : Type := (Nat → zi_C) × Nat × Nat × Nat
abbrev zi_L : Type := List (Option Value)
abbrev zi_O : Type := (Nat × zi_L × List Value × zi_S) ⊕ (Option Value ⊕ (Nat × List Value × List Value))
/-- cells that are only read: the six texts (1000000 + 2 j) and their bytes (behind each) -/
def zi_txt : List (List Int32) := [[110, 116, 108, 119, 117, 99, 109], [60, 62, 61], [43, 45], [42, 47], [104, 108, 117, 100, 114], [100, 117]]
def zi_ro2 (b m : Nat) : zi_C := match zi_txt[m / 2]? with
  | some l => cond (Nat.beq (m % 2) 0) (.inr (15, [.ref (b + m + 1), .int 0])) (.inl (4, l.length, .inl fun i => l.getD i 0))
  | none => .inl (9, 0, .inl fun _ => 0)
def zi_ro (k : Nat) : zi_C := zi_ro2 1000000 (k - 1000000)
def zi_ld (ls : zi_L) (i : Nat) : Option Value := match ls[i]? with
  | some (some v) => some v
  | _ => none
def zi_kill (ls : zi_L) : Nat → zi_L
  | 0 => ls
  | i + 1 => match ls[i]? with
    | some (some (.long _)) => ls.set i none
    | some (some (.double _)) => ls.set i none
    | _ => ls
def zi_st1 (ls : zi_L) (i : Nat) (v : Value) : Option zi_L := cond (Nat.blt i ls.length) (some ((zi_kill ls i).set i (some v))) none
def zi_st2 (ls : zi_L) (i : Nat) (v : Value) : Option zi_L := cond (Nat.blt (i + 1) ls.length) (some (((zi_kill ls i).set i (some v)).set (i + 1) none)) none
def zi_ent : List Value → zi_L
  | [] => []
  | .long x :: vs => some (.long x) :: none :: zi_ent vs
  | .double x :: vs => some (.double x) :: none :: zi_ent vs
  | v :: vs => some v :: zi_ent vs
def zi_in (i : Int32) (n : Nat) : Bool := !(decide (i < 0)) && Nat.blt i.toNatClampNeg n
def zi_sw (v : Int32) : List (Int32 × Nat) → Nat → Nat
  | [], d => d
  | (k, t) :: r, d => if v = k then t else zi_sw v r d
/-- a field's type takes the value -/
def zi_fv : FieldType → Value → Bool
  | .int, .int _ => true
  | .long, .long _ => true
  | .object _, .ref _ => true
  | .array _, .ref _ => true
  | _, _ => false
def zi_dv : FieldType → Value
  | .int => .int 0
  | .long => .long 0
  | _ => .null
def zi_nx (pc : Nat) (ls : zi_L) (st : List Value) (S : zi_S) : Option zi_O := some (.inl (pc, ls, st, S))
def zi_i1 (pc : Nat) (ls : zi_L) (st : List Value) (S : zi_S) (f : Int32 → Int32) : Option zi_O := match st with
  | .int x :: r => zi_nx (pc + 1) ls (.int (f x) :: r) S
  | _ => none
def zi_i2 (pc : Nat) (ls : zi_L) (st : List Value) (S : zi_S) (f : Int32 → Int32 → Int32) : Option zi_O := match st with
  | .int y :: .int x :: r => zi_nx (pc + 1) ls (.int (f x y) :: r) S
  | _ => none
def zi_l2 (pc : Nat) (ls : zi_L) (st : List Value) (S : zi_S) (f : Int64 → Int64 → Int64) : Option zi_O := match st with
  | .long y :: .long x :: r => zi_nx (pc + 1) ls (.long (f x y) :: r) S
  | _ => none
def zi_lod (n pc : Nat) (ls : zi_L) (st : List Value) (S : zi_S) (i : Nat) (k : Value → Bool) : Option zi_O := match zi_ld ls i with
  | some v => cond (k v) (zi_nx (pc + n) ls (v :: st) S) none
  | none => none
def zi_sto (n pc : Nat) (ls : zi_L) (st : List Value) (S : zi_S) (i : Nat) (k : Value → Bool) : Option zi_O := match st with
  | v :: r => cond (k v) ((zi_st1 ls i v).bind fun ls' => zi_nx (pc + n) ls' r S) none
  | _ => none
def zi_sto2 (n pc : Nat) (ls : zi_L) (st : List Value) (S : zi_S) (i : Nat) : Option zi_O := match st with
  | .long v :: r => (zi_st2 ls i (.long v)).bind fun ls' => zi_nx (pc + n) ls' r S
  | _ => none
def zi_kI : Value → Bool
  | .int _ => true
  | _ => false
def zi_kL : Value → Bool
  | .long _ => true
  | _ => false
def zi_kR : Value → Bool
  | .ref _ => true
  | _ => false
def zi_k1 : Value → Bool
  | .int _ => true
  | .ref _ => true
  | .null => true
  | _ => false
def zi_br (pc tgt : Nat) (ls : zi_L) (r : List Value) (S : zi_S) (b : Prop) [Decidable b] : Option zi_O := if b then zi_nx tgt ls r S else zi_nx (pc + 3) ls r S
def zi_if1 (pc tgt : Nat) (ls : zi_L) (st : List Value) (S : zi_S) (q : ClassFile.Cond) : Option zi_O := match st with
  | .int x :: r => match q with
    | .eq => zi_br pc tgt ls r S (x = 0)
    | .ne => zi_br pc tgt ls r S (¬ x = 0)
    | .lt => zi_br pc tgt ls r S (x < 0)
    | .ge => zi_br pc tgt ls r S (0 ≤ x)
    | .gt => zi_br pc tgt ls r S (0 < x)
    | .le => zi_br pc tgt ls r S (x ≤ 0)
  | _ => none
def zi_if2 (pc tgt : Nat) (ls : zi_L) (st : List Value) (S : zi_S) (q : ClassFile.Cond) : Option zi_O := match st with
  | .int y :: .int x :: r => match q with
    | .eq => zi_br pc tgt ls r S (x = y)
    | .ne => zi_br pc tgt ls r S (¬ x = y)
    | .lt => zi_br pc tgt ls r S (x < y)
    | .ge => zi_br pc tgt ls r S (y ≤ x)
    | .gt => zi_br pc tgt ls r S (y < x)
    | .le => zi_br pc tgt ls r S (x ≤ y)
  | _ => none
/-- the rest of the operand stack is small -/
def zi_sm (r : List Value) : Bool := Nat.ble (r.map fun v => v.category).sum 8
def zi_put (h : Nat → zi_C) (k : Nat) (c : zi_C) : Nat → zi_C := va_up h k c
/-- the n topmost, in the order of the arguments, ahead of those that are there -/
def zi_pop : Nat → List Value → List Value → Option (List Value × List Value)
  | 0, st, as => some (as, st)
  | n + 1, v :: st, as => zi_pop n st (v :: as)
  | _ + 1, [], _ => none
def zi_ft (ci k : Nat) : FieldType := match ci with
  | 0 => tyX0 k
  | 1 => tyX1 k
  | 2 => tyX2 k
  | 3 => tyX3 k
  | 4 => tyX4 k
  | 5 => tyX5 k
  | 6 => tyX6 k
  | 7 => tyX7 k
  | 8 => tyX8 k
  | 9 => tyX9 k
  | 10 => tyX10 k
  | 11 => tyX11 k
  | _ => tyX12 k
def zi_fn (ci : Nat) : Nat := match ci with
  | 0 => 11
  | 1 => 3
  | 2 => 3
  | 3 => 8
  | 4 => 6
  | 5 => 2
  | 6 => 3
  | 7 => 6
  | 8 => 4
  | 9 => 5
  | 10 => 5
  | 11 => 15
  | _ => 53
def zi_new (ci : Nat) : List Value := (List.range (zi_fn ci)).map fun k => zi_dv (zi_ft ci k)
/-- an array's kind: 0 int, 1 long, 2 boolean, 3 Moment -/
def zi_arr (t n : Nat) : vp_A := match t with
  | 1 => (n, .inr (.inl fun _ => 0))
  | 3 => (n, .inr (.inr (.inr (.inr fun _ => none))))
  | _ => (n, .inl fun _ => 0)
def zi_alloc (n pc : Nat) (ls : zi_L) (r : List Value) (S : zi_S) (c : zi_C) (w : Nat) : Option zi_O :=
  cond (Nat.blt S.2.1 1000000) (zi_nx (pc + n) ls (.ref S.2.1 :: r) (zi_put S.1 S.2.1 c, S.2.1 + 1, S.2.2.1 + 1, S.2.2.2 + w)) none
def zi_mka (n pc : Nat) (ls : zi_L) (st : List Value) (S : zi_S) (t : Nat) : Option zi_O := match st with
  | .int k :: r => cond (zi_in k 100000) (zi_alloc n pc ls r S (.inl (t, zi_arr t k.toNatClampNeg)) k.toNatClampNeg) none
  | _ => none
def zi_getf (pc : Nat) (ls : zi_L) (st : List Value) (S : zi_S) (x y : Nat) : Option zi_O := match st with
  | .ref a :: r => match S.1 a with
    | .inr (ci, fs) => cond (Nat.beq ci x && (Nat.blt a S.2.1 || Nat.ble 1000000 a)) (match fs[y]? with
      | some v => zi_nx (pc + 3) ls (v :: r) S
      | none => none) none
    | _ => none
  | _ => none
def zi_putf (pc : Nat) (ls : zi_L) (st : List Value) (S : zi_S) (x y : Nat) : Option zi_O := match st with
  | v :: .ref a :: r => match S.1 a with
    | .inr (ci, fs) => cond (Nat.beq ci x && (Nat.blt a S.2.1 && (Nat.blt y fs.length && zi_fv (zi_ft x y) v))) (zi_nx (pc + 3) ls r (zi_put S.1 a (.inr (ci, fs.set y v)), S.2)) none
    | _ => none
  | _ => none
def zi_ald (pc : Nat) (ls : zi_L) (st : List Value) (S : zi_S) (t : Nat) : Option zi_O := match st with
  | .int i :: .ref a :: r => match S.1 a with
    | .inl (t', n, .inl f) => cond (Nat.beq t' t && (Nat.blt a S.2.1 && zi_in i n)) (zi_nx (pc + 1) ls (.int (f i.toNatClampNeg) :: r) S) none
    | _ => none
  | _ => none
def zi_bald (pc : Nat) (ls : zi_L) (st : List Value) (S : zi_S) : Option zi_O := match st with
  | .int i :: .ref a :: r => match S.1 a with
    | .inl (t', n, .inl f) => cond (((Nat.beq t' 2 && Nat.blt a S.2.1) || (Nat.beq t' 4 && Nat.ble 1000000 a)) && zi_in i n) (zi_nx (pc + 1) ls (.int (f i.toNatClampNeg) :: r) S) none
    | _ => none
  | _ => none
def zi_lald (pc : Nat) (ls : zi_L) (st : List Value) (S : zi_S) : Option zi_O := match st with
  | .int i :: .ref a :: r => match S.1 a with
    | .inl (t', n, .inr (.inl f)) => cond (Nat.beq t' 1 && (Nat.blt a S.2.1 && zi_in i n)) (zi_nx (pc + 1) ls (.long (f i.toNatClampNeg) :: r) S) none
    | _ => none
  | _ => none
def zi_aald (pc : Nat) (ls : zi_L) (st : List Value) (S : zi_S) : Option zi_O := match st with
  | .int i :: .ref a :: r => match S.1 a with
    | .inl (t', n, .inr (.inr (.inr (.inr f)))) => cond (Nat.beq t' 3 && (Nat.blt a S.2.1 && zi_in i n)) (zi_nx (pc + 1) ls (va_rf (f i.toNatClampNeg) :: r) S) none
    | _ => none
  | _ => none
def zi_ast (pc : Nat) (ls : zi_L) (st : List Value) (S : zi_S) (t : Nat) (g : Int32 → Int32) : Option zi_O := match st with
  | .int v :: .int i :: .ref a :: r => match S.1 a with
    | .inl (t', n, .inl f) => cond (Nat.beq t' t && (Nat.blt a S.2.1 && zi_in i n)) (zi_nx (pc + 1) ls r (zi_put S.1 a (.inl (t', n, .inl (upd f i.toNatClampNeg (g v)))), S.2)) none
    | _ => none
  | _ => none
def zi_last (pc : Nat) (ls : zi_L) (st : List Value) (S : zi_S) : Option zi_O := match st with
  | .long v :: .int i :: .ref a :: r => match S.1 a with
    | .inl (t', n, .inr (.inl f)) => cond (Nat.beq t' 1 && (Nat.blt a S.2.1 && zi_in i n)) (zi_nx (pc + 1) ls r (zi_put S.1 a (.inl (t', n, .inr (.inl (vp_updL f i.toNatClampNeg v)))), S.2)) none
    | _ => none
  | _ => none
def zi_aast (pc : Nat) (ls : zi_L) (st : List Value) (S : zi_S) : Option zi_O := match st with
  | .ref v :: .int i :: .ref a :: r => match S.1 a, S.1 v with
    | .inl (t', n, .inr (.inr (.inr (.inr f)))), .inr (ci, _) => cond (Nat.beq t' 3 && (Nat.blt a S.2.1 && (Nat.blt v S.2.1 && (Nat.beq ci 3 && zi_in i n)))) (zi_nx (pc + 1) ls r (zi_put S.1 a (.inl (t', n, .inr (.inr (.inr (.inr (va_up f i.toNatClampNeg (some v))))))), S.2)) none
    | _, _ => none
  | _ => none
def zi_alen (pc : Nat) (ls : zi_L) (st : List Value) (S : zi_S) : Option zi_O := match st with
  | .ref a :: r => match S.1 a with
    | .inl (t', q) => cond ((Nat.blt t' 4 && Nat.blt a S.2.1) || (Nat.beq t' 4 && Nat.ble 1000000 a)) (zi_nx (pc + 1) ls (.int (Int32.ofNat q.1) :: r) S) none
    | _ => none
  | _ => none
/-- System.arraycopy between int arrays -/
def zi_cpy (pc : Nat) (ls : zi_L) (st : List Value) (S : zi_S) : Option zi_O := match st with
  | .int n :: .int dp :: .ref a :: .int sp :: .ref b :: r => match S.1 a, S.1 b with
    | .inl (t1, n1, .inl g), .inl (t0, n0, .inl f) => cond (Nat.beq t1 0 && (Nat.beq t0 0 && (Nat.blt a S.2.1 && (Nat.blt b S.2.1 && (zi_in sp 100000 && (zi_in dp 100000 && (zi_in n 100000 && (Nat.ble (sp.toNatClampNeg + n.toNatClampNeg) n0 && (Nat.ble (dp.toNatClampNeg + n.toNatClampNeg) n1 && zi_sm r)))))))))
        (zi_nx (pc + 3) ls r (zi_put S.1 a (.inl (t1, n1, .inl (va_cpy f g sp.toNatClampNeg dp.toNatClampNeg n.toNatClampNeg))), S.2)) none
    | _, _ => none
  | _ => none
/-- a call of method x with y arguments besides its object (k: has one) -/
def zi_inv (st : List Value) (S : zi_S) (x y : Nat) : Option zi_O := match zi_pop (y + 1) st [] with
  | some (.ref a :: as, r) => match S.1 a with
    | .inr (ci, _) => cond (Nat.beq ci (x / 200) && ((Nat.blt a S.2.1 || Nat.ble 1000000 a) && zi_sm r)) (some (.inr (.inr (x, .ref a :: as, r)))) none
    | _ => none
  | _ => none
def zi_invs (st : List Value) (x y : Nat) : Option zi_O := match zi_pop y st [] with
  | some (as, r) => cond (zi_sm r) (some (.inr (.inr (x, as, r)))) none
  | _ => none
def zi_m2 (pc : Nat) (ls : zi_L) (st : List Value) (S : zi_S) (f : Int32 → Int32 → Int32) : Option zi_O := match st with
  | .int y :: .int x :: r => cond (zi_sm r) (zi_nx (pc + 3) ls (.int (f x y) :: r) S) none
  | _ => none
/-- a constant: an int, or a text -/
def zi_cst (x y : Nat) : Value := match y with
  | 0 => .int (Int32.ofNat x)
  | _ => .ref (1000000 + x)
/-- method number 200 * (its class) + its place -/
abbrev zi_I : Type := ClassFile.Instr × Nat × Nat × Nat × List (Int32 × Nat)
/-- one instruction; x y z: what its operand is resolved to; ret: 0 none, 1 int, 2 boolean, 3 long -/
def zi_ex (ret : Nat) (q : zi_I) (pc : Nat) (ls : zi_L) (st : List Value) (S : zi_S) : Option zi_O := match q.1 with
  | .iconst n => zi_nx (pc + 1) ls (.int (Int32.ofInt n) :: st) S
  | .bipush n => zi_nx (pc + 2) ls (.int (Int8.ofInt n).toInt32 :: st) S
  | .sipush n => zi_nx (pc + 3) ls (.int (Int16.ofInt n).toInt32 :: st) S
  | .lconst n => zi_nx (pc + 1) ls (.long (Int64.ofNat n) :: st) S
  | .ldc _ => zi_nx (pc + 2) ls (zi_cst q.2.2.1 q.2.2.2.1 :: st) S
  | .ldc_w _ => zi_nx (pc + 3) ls (zi_cst q.2.2.1 q.2.2.2.1 :: st) S
  | .getstatic _ => zi_nx (pc + 3) ls (.int (Int32.ofNat q.2.2.1) :: st) S
  | .ldc2_w _ => zi_nx (pc + 3) ls (.long (Int64.ofNat q.2.2.1) :: st) S
  | .iload_n n => zi_lod 1 pc ls st S n zi_kI
  | .iload n => zi_lod 2 pc ls st S n zi_kI
  | .lload_n n => zi_lod 1 pc ls st S n zi_kL
  | .lload n => zi_lod 2 pc ls st S n zi_kL
  | .aload_n n => zi_lod 1 pc ls st S n zi_kR
  | .aload n => zi_lod 2 pc ls st S n zi_kR
  | .istore_n n => zi_sto 1 pc ls st S n zi_kI
  | .istore n => zi_sto 2 pc ls st S n zi_kI
  | .astore_n n => zi_sto 1 pc ls st S n zi_kR
  | .astore n => zi_sto 2 pc ls st S n zi_kR
  | .lstore_n n => zi_sto2 1 pc ls st S n
  | .lstore n => zi_sto2 2 pc ls st S n
  | .iinc i n => match zi_ld ls i with
    | some (.int x) => (zi_st1 ls i (.int (x + Int32.ofInt n))).bind fun ls' => zi_nx (pc + 3) ls' st S
    | _ => none
  | .iadd => zi_i2 pc ls st S (fun x y => x + y)
  | .isub => zi_i2 pc ls st S (fun x y => x - y)
  | .imul => zi_i2 pc ls st S (fun x y => x * y)
  | .iand => zi_i2 pc ls st S (fun x y => x &&& y)
  | .ior => zi_i2 pc ls st S (fun x y => x ||| y)
  | .ixor => zi_i2 pc ls st S (fun x y => x ^^^ y)
  | .ishl => zi_i2 pc ls st S (fun x y => x <<< (y &&& 31))
  | .ishr => zi_i2 pc ls st S (fun x y => x >>> (y &&& 31))
  | .iushr => zi_i2 pc ls st S (fun x y => (x.toUInt32 >>> (y.toUInt32 &&& Int32.toUInt32 31)).toInt32)
  | .idiv => match st with
    | .int y :: .int x :: r => if y = 0 then none else zi_nx (pc + 1) ls (.int (x / y) :: r) S
    | _ => none
  | .irem => match st with
    | .int y :: .int x :: r => if y = 0 then none else zi_nx (pc + 1) ls (.int (x - x / y * y) :: r) S
    | _ => none
  | .ineg => zi_i1 pc ls st S (fun x => -x)
  | .i2b => zi_i1 pc ls st S (fun x => x.toInt8.toInt32)
  | .i2s => zi_i1 pc ls st S (fun x => x.toInt16.toInt32)
  | .i2c => zi_i1 pc ls st S (fun x => (x.toUInt32 % 65536).toInt32)
  | .i2l => match st with
    | .int x :: r => zi_nx (pc + 1) ls (.long x.toInt64 :: r) S
    | _ => none
  | .ladd => zi_l2 pc ls st S (fun x y => x + y)
  | .lsub => zi_l2 pc ls st S (fun x y => x - y)
  | .lmul => zi_l2 pc ls st S (fun x y => x * y)
  | .ldiv => match st with
    | .long y :: .long x :: r => if y = 0 then none else zi_nx (pc + 1) ls (.long (x / y) :: r) S
    | _ => none
  | .lrem => match st with
    | .long y :: .long x :: r => if y = 0 then none else zi_nx (pc + 1) ls (.long (x - x / y * y) :: r) S
    | _ => none
  | .lcmp => match st with
    | .long y :: .long x :: r => zi_nx (pc + 1) ls (.int (lg_cmp x y) :: r) S
    | _ => none
  | .dup => match st with
    | v :: r => cond (zi_k1 v) (zi_nx (pc + 1) ls (v :: v :: r) S) none
    | _ => none
  | .dup2 => match st with
    | v :: w :: r => cond (zi_k1 v && zi_k1 w) (zi_nx (pc + 1) ls (v :: w :: v :: w :: r) S) none
    | _ => none
  | .pop => match st with
    | v :: r => cond (zi_k1 v) (zi_nx (pc + 1) ls r S) none
    | _ => none
  | .goto _ => zi_nx q.2.2.1 ls st S
  | .ifCond k _ => zi_if1 pc q.2.2.1 ls st S k
  | .if_icmp k _ => zi_if2 pc q.2.2.1 ls st S k
  | .tableswitch _ _ _ _ => match st with
    | .int v :: r => zi_nx (zi_sw v q.2.2.2.2 q.2.2.1) ls r S
    | _ => none
  | .lookupswitch _ _ => match st with
    | .int v :: r => zi_nx (zi_sw v q.2.2.2.2 q.2.2.1) ls r S
    | _ => none
  | .getfield _ => zi_getf pc ls st S q.2.2.1 q.2.2.2.1
  | .putfield _ => zi_putf pc ls st S q.2.2.1 q.2.2.2.1
  | .iaload => zi_ald pc ls st S 0
  | .baload => zi_bald pc ls st S
  | .laload => zi_lald pc ls st S
  | .aaload => zi_aald pc ls st S
  | .iastore => zi_ast pc ls st S 0 (fun v => v)
  | .bastore => zi_ast pc ls st S 2 (fun v => vp_nar .boolean v)
  | .lastore => zi_last pc ls st S
  | .aastore => zi_aast pc ls st S
  | .arraylength => zi_alen pc ls st S
  | .newarray .int => zi_mka 2 pc ls st S 0
  | .newarray .long => zi_mka 2 pc ls st S 1
  | .newarray .boolean => zi_mka 2 pc ls st S 2
  | .anewarray _ => zi_mka 3 pc ls st S 3
  | .new _ => cond (Nat.blt q.2.2.1 13) (zi_alloc 3 pc ls st S (.inr (q.2.2.1, zi_new q.2.2.1)) (zi_fn q.2.2.1)) none
  | .invokevirtual _ => zi_inv st S q.2.2.1 q.2.2.2.1
  | .invokespecial _ => cond (Nat.beq q.2.2.1 9000) (match st with
    | .ref _ :: r => cond (zi_sm r) (zi_nx (pc + 3) ls r S) none
    | _ => none) (zi_inv st S q.2.2.1 q.2.2.2.1)
  | .invokestatic _ => match q.2.2.1 with
    | 9001 => zi_m2 pc ls st S (fun x y => if x < y then y else x)
    | 9002 => zi_m2 pc ls st S (fun x y => if y < x then y else x)
    | 9003 => zi_cpy pc ls st S
    | n => zi_invs st n q.2.2.2.1
  | .ireturn => match ret, st with
    | 1, [.int v] => some (.inr (.inl (some (.int v))))
    | 2, [.int v] => if v = 0 ∨ v = 1 then some (.inr (.inl (some (.int v)))) else none
    | 4, [.int v] => if (v.toUInt32 % 65536).toInt32 = v then some (.inr (.inl (some (.int v)))) else none
    | 5, [.int v] => if v.toInt8.toInt32 = v then some (.inr (.inl (some (.int v)))) else none
    | _, _ => none
  | .lreturn => match ret, st with
    | 3, [.long v] => some (.inr (.inl (some (.long v))))
    | _, _ => none
  | .return_ => match ret, st with
    | 0, [] => some (.inr (.inl none))
    | _, _ => none
  | _ => none
