/-! ===== the state of class, reference and law behind the constructors ===== -/
/-- what the cells hold: by cell and place; ints (booleans), longs -/
abbrev zs : Type := (Nat → Nat → Int32) × (Nat → Nat → Int64)
def zhd (k : Nat) (f : Nat → Int32) (g : Nat → Int64) : zi_C := match k with
  | 0 => .inr (11, [.ref 1, .ref 3, .ref 5, .ref 17, .ref 23, .ref 29, .ref 35, .ref 38, .ref 41, .ref 43, .ref 45, .ref 49, .ref 141, .ref 142, .int (f 14)])
  | 1 => .inr (8, [.ref 2, .int (f 1), .int (f 2), .int (f 3)])
  | 2 => .inl (0, 80, .inl f)
  | 3 => .inr (5, [.ref 4, .int (f 1)])
  | 4 => .inl (1, 16, .inr (.inl g))
  | 5 => .inr (0, [.ref 6, .ref 11, .ref 12, .ref 13, .ref 14, .ref 15, .ref 16, .int (f 7), .int (f 8), .int (f 9), .int (f 10)])
  | 6 => .inr (7, [.ref 7, .ref 8, .ref 9, .ref 10, .int (f 4), .int (f 5)])
  | 7 => .inl (0, 40, .inl f)
  | 8 => .inl (0, 40, .inl f)
  | 9 => .inl (0, 41, .inl f)
  | 10 => .inl (0, 7, .inl f)
  | 11 => .inl (0, 32, .inl f)
  | 12 => .inl (0, 8, .inl f)
  | 13 => .inl (0, 8, .inl f)
  | 14 => .inl (0, 8, .inl f)
  | 15 => .inl (0, 8, .inl f)
  | 16 => .inl (0, 4, .inl f)
  | 17 => .inr (3, [.int (f 0), .int (f 1), .int (f 2), .ref 18, .ref 19, .ref 20, .ref 21, .ref 22])
  | 18 => .inl (0, 8, .inl f)
  | 19 => .inl (0, 8, .inl f)
  | 20 => .inl (0, 8, .inl f)
  | 21 => .inl (0, 4, .inl f)
  | 22 => .inl (0, 4, .inl f)
  | 23 => .inr (3, [.int (f 0), .int (f 1), .int (f 2), .ref 24, .ref 25, .ref 26, .ref 27, .ref 28])
  | 24 => .inl (0, 8, .inl f)
  | 25 => .inl (0, 8, .inl f)
  | 26 => .inl (0, 8, .inl f)
  | 27 => .inl (0, 4, .inl f)
  | 28 => .inl (0, 4, .inl f)
  | 29 => .inr (3, [.int (f 0), .int (f 1), .int (f 2), .ref 30, .ref 31, .ref 32, .ref 33, .ref 34])
  | 30 => .inl (0, 8, .inl f)
  | 31 => .inl (0, 8, .inl f)
  | 32 => .inl (0, 8, .inl f)
  | 33 => .inl (0, 4, .inl f)
  | 34 => .inl (0, 4, .inl f)
  | 35 => .inr (1, [.ref 5, .ref 36, .ref 37])
  | 36 => .inl (0, 16, .inl f)
  | 37 => .inl (0, 4, .inl f)
  | 38 => .inr (9, [.ref 5, .ref 35, .ref 39, .ref 40, .int (f 4)])
  | 39 => .inl (0, 4, .inl f)
  | 40 => .inl (0, 4, .inl f)
  | 41 => .inr (2, [.ref 5, .ref 35, .ref 42])
  | 42 => .inl (2, 256, .inl f)
  | 43 => .inr (4, [.ref 5, .ref 44, .int (f 2), .int (f 3), .int (f 4), .int (f 5)])
  | 44 => .inl (0, 26, .inl f)
  | 45 => .inr (10, [.ref 46, .ref 47, .ref 48, .int (f 3), .int (f 4)])
  | 46 => .inl (0, 14, .inl f)
  | 47 => .inl (0, 14, .inl f)
  | 48 => .inl (0, 450, .inl f)
  | 49 => .inr (6, [.ref 50, .int (f 1), .int (f 2)])
  | 50 => .inl (3, 15, .inr (.inr (.inr (.inr (fun i => if i < 15 then some (51 + 6 * i) else none)))))
  | 51 => .inr (3, [.int (f 0), .int (f 1), .int (f 2), .ref 52, .ref 53, .ref 54, .ref 55, .ref 56])
  | 52 => .inl (0, 8, .inl f)
  | 53 => .inl (0, 8, .inl f)
  | 54 => .inl (0, 8, .inl f)
  | 55 => .inl (0, 4, .inl f)
  | 56 => .inl (0, 4, .inl f)
  | 57 => .inr (3, [.int (f 0), .int (f 1), .int (f 2), .ref 58, .ref 59, .ref 60, .ref 61, .ref 62])
  | 58 => .inl (0, 8, .inl f)
  | 59 => .inl (0, 8, .inl f)
  | 60 => .inl (0, 8, .inl f)
  | 61 => .inl (0, 4, .inl f)
  | 62 => .inl (0, 4, .inl f)
  | 63 => .inr (3, [.int (f 0), .int (f 1), .int (f 2), .ref 64, .ref 65, .ref 66, .ref 67, .ref 68])
  | 64 => .inl (0, 8, .inl f)
  | 65 => .inl (0, 8, .inl f)
  | 66 => .inl (0, 8, .inl f)
  | 67 => .inl (0, 4, .inl f)
  | 68 => .inl (0, 4, .inl f)
  | 69 => .inr (3, [.int (f 0), .int (f 1), .int (f 2), .ref 70, .ref 71, .ref 72, .ref 73, .ref 74])
  | 70 => .inl (0, 8, .inl f)
  | 71 => .inl (0, 8, .inl f)
  | 72 => .inl (0, 8, .inl f)
  | 73 => .inl (0, 4, .inl f)
  | 74 => .inl (0, 4, .inl f)
  | 75 => .inr (3, [.int (f 0), .int (f 1), .int (f 2), .ref 76, .ref 77, .ref 78, .ref 79, .ref 80])
  | 76 => .inl (0, 8, .inl f)
  | 77 => .inl (0, 8, .inl f)
  | 78 => .inl (0, 8, .inl f)
  | 79 => .inl (0, 4, .inl f)
  | 80 => .inl (0, 4, .inl f)
  | 81 => .inr (3, [.int (f 0), .int (f 1), .int (f 2), .ref 82, .ref 83, .ref 84, .ref 85, .ref 86])
  | 82 => .inl (0, 8, .inl f)
  | 83 => .inl (0, 8, .inl f)
  | 84 => .inl (0, 8, .inl f)
  | 85 => .inl (0, 4, .inl f)
  | 86 => .inl (0, 4, .inl f)
  | 87 => .inr (3, [.int (f 0), .int (f 1), .int (f 2), .ref 88, .ref 89, .ref 90, .ref 91, .ref 92])
  | 88 => .inl (0, 8, .inl f)
  | 89 => .inl (0, 8, .inl f)
  | 90 => .inl (0, 8, .inl f)
  | 91 => .inl (0, 4, .inl f)
  | 92 => .inl (0, 4, .inl f)
  | 93 => .inr (3, [.int (f 0), .int (f 1), .int (f 2), .ref 94, .ref 95, .ref 96, .ref 97, .ref 98])
  | 94 => .inl (0, 8, .inl f)
  | 95 => .inl (0, 8, .inl f)
  | 96 => .inl (0, 8, .inl f)
  | 97 => .inl (0, 4, .inl f)
  | 98 => .inl (0, 4, .inl f)
  | 99 => .inr (3, [.int (f 0), .int (f 1), .int (f 2), .ref 100, .ref 101, .ref 102, .ref 103, .ref 104])
  | 100 => .inl (0, 8, .inl f)
  | 101 => .inl (0, 8, .inl f)
  | 102 => .inl (0, 8, .inl f)
  | 103 => .inl (0, 4, .inl f)
  | 104 => .inl (0, 4, .inl f)
  | 105 => .inr (3, [.int (f 0), .int (f 1), .int (f 2), .ref 106, .ref 107, .ref 108, .ref 109, .ref 110])
  | 106 => .inl (0, 8, .inl f)
  | 107 => .inl (0, 8, .inl f)
  | 108 => .inl (0, 8, .inl f)
  | 109 => .inl (0, 4, .inl f)
  | 110 => .inl (0, 4, .inl f)
  | 111 => .inr (3, [.int (f 0), .int (f 1), .int (f 2), .ref 112, .ref 113, .ref 114, .ref 115, .ref 116])
  | 112 => .inl (0, 8, .inl f)
  | 113 => .inl (0, 8, .inl f)
  | 114 => .inl (0, 8, .inl f)
  | 115 => .inl (0, 4, .inl f)
  | 116 => .inl (0, 4, .inl f)
  | 117 => .inr (3, [.int (f 0), .int (f 1), .int (f 2), .ref 118, .ref 119, .ref 120, .ref 121, .ref 122])
  | 118 => .inl (0, 8, .inl f)
  | 119 => .inl (0, 8, .inl f)
  | 120 => .inl (0, 8, .inl f)
  | 121 => .inl (0, 4, .inl f)
  | 122 => .inl (0, 4, .inl f)
  | 123 => .inr (3, [.int (f 0), .int (f 1), .int (f 2), .ref 124, .ref 125, .ref 126, .ref 127, .ref 128])
  | 124 => .inl (0, 8, .inl f)
  | 125 => .inl (0, 8, .inl f)
  | 126 => .inl (0, 8, .inl f)
  | 127 => .inl (0, 4, .inl f)
  | 128 => .inl (0, 4, .inl f)
  | 129 => .inr (3, [.int (f 0), .int (f 1), .int (f 2), .ref 130, .ref 131, .ref 132, .ref 133, .ref 134])
  | 130 => .inl (0, 8, .inl f)
  | 131 => .inl (0, 8, .inl f)
  | 132 => .inl (0, 8, .inl f)
  | 133 => .inl (0, 4, .inl f)
  | 134 => .inl (0, 4, .inl f)
  | 135 => .inr (3, [.int (f 0), .int (f 1), .int (f 2), .ref 136, .ref 137, .ref 138, .ref 139, .ref 140])
  | 136 => .inl (0, 8, .inl f)
  | 137 => .inl (0, 8, .inl f)
  | 138 => .inl (0, 8, .inl f)
  | 139 => .inl (0, 4, .inl f)
  | 140 => .inl (0, 4, .inl f)
  | 141 => .inl (3, 3, .inr (.inr (.inr (.inr (fun i => if i < 3 then some (143 + 6 * i) else none)))))
  | 142 => .inl (0, 60, .inl f)
  | 143 => .inr (3, [.int (f 0), .int (f 1), .int (f 2), .ref 144, .ref 145, .ref 146, .ref 147, .ref 148])
  | 144 => .inl (0, 8, .inl f)
  | 145 => .inl (0, 8, .inl f)
  | 146 => .inl (0, 8, .inl f)
  | 147 => .inl (0, 4, .inl f)
  | 148 => .inl (0, 4, .inl f)
  | 149 => .inr (3, [.int (f 0), .int (f 1), .int (f 2), .ref 150, .ref 151, .ref 152, .ref 153, .ref 154])
  | 150 => .inl (0, 8, .inl f)
  | 151 => .inl (0, 8, .inl f)
  | 152 => .inl (0, 8, .inl f)
  | 153 => .inl (0, 4, .inl f)
  | 154 => .inl (0, 4, .inl f)
  | 155 => .inr (3, [.int (f 0), .int (f 1), .int (f 2), .ref 156, .ref 157, .ref 158, .ref 159, .ref 160])
  | 156 => .inl (0, 8, .inl f)
  | 157 => .inl (0, 8, .inl f)
  | 158 => .inl (0, 8, .inl f)
  | 159 => .inl (0, 4, .inl f)
  | 160 => .inl (0, 4, .inl f)
  | 161 => .inr (12, [.int (f 0), .int (f 1), .ref 162, .int (f 3), .int (f 4), .int (f 5), .int (f 6), .int (f 7), .ref 163, .ref 164, .ref 165, .ref 166, .ref 167, .ref 168, .ref 169, .ref 170, .ref 171, .int (f 17), .int (f 18), .int (f 19), .int (f 20), .ref 172, .int (f 22), .ref 173, .ref 174, .int (f 25), .int (f 26), .ref 175, .ref 176, .ref 177, .ref 178, .int (f 31), .ref 179, .ref 180, .ref 181, .ref 182, .int (f 36), .int (f 37), .int (f 38), .int (f 39), .ref 183, .ref 184, .int (f 42), .int (f 43), .ref 185, .int (f 45), .ref 186, .ref 187, .long (g 48), .long (g 49), .ref 188, .ref 189, .ref 190])
  | 162 => .inl (1, 24, .inr (.inl g))
  | 163 => .inl (0, 32, .inl f)
  | 164 => .inl (0, 8, .inl f)
  | 165 => .inl (0, 8, .inl f)
  | 166 => .inl (0, 8, .inl f)
  | 167 => .inl (0, 8, .inl f)
  | 168 => .inl (0, 4, .inl f)
  | 169 => .inl (0, 42, .inl f)
  | 170 => .inl (0, 42, .inl f)
  | 171 => .inl (0, 80, .inl f)
  | 172 => .inl (0, 40, .inl f)
  | 173 => .inl (0, 80, .inl f)
  | 174 => .inl (0, 80, .inl f)
  | 175 => .inl (0, 80, .inl f)
  | 176 => .inl (0, 7, .inl f)
  | 177 => .inl (0, 4, .inl f)
  | 178 => .inl (0, 4, .inl f)
  | 179 => .inl (0, 672, .inl f)
  | 180 => .inl (0, 60, .inl f)
  | 181 => .inl (0, 60, .inl f)
  | 182 => .inl (0, 60, .inl f)
  | 183 => .inl (0, 14, .inl f)
  | 184 => .inl (0, 14, .inl f)
  | 185 => .inl (0, 450, .inl f)
  | 186 => .inl (0, 12, .inl f)
  | 187 => .inl (0, 12, .inl f)
  | 188 => .inl (2, 3, .inl f)
  | 189 => .inl (0, 3, .inl f)
  | 190 => .inl (0, 126, .inl f)
  | 191 => .inl (1, 1, .inr (.inl g))
  | _ => .inl (0, 0, .inl f)
def zhc (k : Nat) (f : Nat → Int32) (g : Nat → Int64) : zi_C := cond (Nat.ble 1000000 k) (zi_ro k) (zhd k f g)
def zh (s : zs) (k : Nat) : zi_C := zhc k (s.1 k) (s.2 k)
abbrev zS (c : Nat × Nat) (s : zs) : zi_S := (zh s, 192, c.1, c.2)
def zsi (s : zs) (k i : Nat) (v : Int32) : zs := (va_up s.1 k (upd (s.1 k) i v), s.2)
def zsl (s : zs) (k i : Nat) (v : Int64) : zs := (s.1, va_up s.2 k (vp_updL (s.2 k) i v))
def zsf (s : zs) (k : Nat) (f : Nat → Int32) : zs := (va_up s.1 k f, s.2)
def zM (m : Nat) : Prop := m ∈ [17, 23, 29, 51, 57, 63, 69, 75, 81, 87, 93, 99, 105, 111, 117, 123, 129, 135, 143, 149, 155]
theorem zh_0 (s : zs) : zh s 0 = .inr (11, [.ref 1, .ref 3, .ref 5, .ref 17, .ref 23, .ref 29, .ref 35, .ref 38, .ref 41, .ref 43, .ref 45, .ref 49, .ref 141, .ref 142, .int ((s.1 0) 14)]) := rfl
theorem zh_1 (s : zs) : zh s 1 = .inr (8, [.ref 2, .int ((s.1 1) 1), .int ((s.1 1) 2), .int ((s.1 1) 3)]) := rfl
theorem zh_2 (s : zs) : zh s 2 = .inl (0, 80, .inl (s.1 2)) := rfl
theorem zh_3 (s : zs) : zh s 3 = .inr (5, [.ref 4, .int ((s.1 3) 1)]) := rfl
theorem zh_4 (s : zs) : zh s 4 = .inl (1, 16, .inr (.inl (s.2 4))) := rfl
theorem zh_5 (s : zs) : zh s 5 = .inr (0, [.ref 6, .ref 11, .ref 12, .ref 13, .ref 14, .ref 15, .ref 16, .int ((s.1 5) 7), .int ((s.1 5) 8), .int ((s.1 5) 9), .int ((s.1 5) 10)]) := rfl
theorem zh_6 (s : zs) : zh s 6 = .inr (7, [.ref 7, .ref 8, .ref 9, .ref 10, .int ((s.1 6) 4), .int ((s.1 6) 5)]) := rfl
theorem zh_7 (s : zs) : zh s 7 = .inl (0, 40, .inl (s.1 7)) := rfl
theorem zh_8 (s : zs) : zh s 8 = .inl (0, 40, .inl (s.1 8)) := rfl
theorem zh_9 (s : zs) : zh s 9 = .inl (0, 41, .inl (s.1 9)) := rfl
theorem zh_10 (s : zs) : zh s 10 = .inl (0, 7, .inl (s.1 10)) := rfl
theorem zh_11 (s : zs) : zh s 11 = .inl (0, 32, .inl (s.1 11)) := rfl
theorem zh_12 (s : zs) : zh s 12 = .inl (0, 8, .inl (s.1 12)) := rfl
theorem zh_13 (s : zs) : zh s 13 = .inl (0, 8, .inl (s.1 13)) := rfl
theorem zh_14 (s : zs) : zh s 14 = .inl (0, 8, .inl (s.1 14)) := rfl
theorem zh_15 (s : zs) : zh s 15 = .inl (0, 8, .inl (s.1 15)) := rfl
theorem zh_16 (s : zs) : zh s 16 = .inl (0, 4, .inl (s.1 16)) := rfl
theorem zh_17 (s : zs) : zh s 17 = .inr (3, [.int ((s.1 17) 0), .int ((s.1 17) 1), .int ((s.1 17) 2), .ref 18, .ref 19, .ref 20, .ref 21, .ref 22]) := rfl
theorem zh_18 (s : zs) : zh s 18 = .inl (0, 8, .inl (s.1 18)) := rfl
theorem zh_19 (s : zs) : zh s 19 = .inl (0, 8, .inl (s.1 19)) := rfl
theorem zh_20 (s : zs) : zh s 20 = .inl (0, 8, .inl (s.1 20)) := rfl
theorem zh_21 (s : zs) : zh s 21 = .inl (0, 4, .inl (s.1 21)) := rfl
theorem zh_22 (s : zs) : zh s 22 = .inl (0, 4, .inl (s.1 22)) := rfl
theorem zh_23 (s : zs) : zh s 23 = .inr (3, [.int ((s.1 23) 0), .int ((s.1 23) 1), .int ((s.1 23) 2), .ref 24, .ref 25, .ref 26, .ref 27, .ref 28]) := rfl
theorem zh_24 (s : zs) : zh s 24 = .inl (0, 8, .inl (s.1 24)) := rfl
theorem zh_25 (s : zs) : zh s 25 = .inl (0, 8, .inl (s.1 25)) := rfl
theorem zh_26 (s : zs) : zh s 26 = .inl (0, 8, .inl (s.1 26)) := rfl
theorem zh_27 (s : zs) : zh s 27 = .inl (0, 4, .inl (s.1 27)) := rfl
theorem zh_28 (s : zs) : zh s 28 = .inl (0, 4, .inl (s.1 28)) := rfl
theorem zh_29 (s : zs) : zh s 29 = .inr (3, [.int ((s.1 29) 0), .int ((s.1 29) 1), .int ((s.1 29) 2), .ref 30, .ref 31, .ref 32, .ref 33, .ref 34]) := rfl
theorem zh_30 (s : zs) : zh s 30 = .inl (0, 8, .inl (s.1 30)) := rfl
theorem zh_31 (s : zs) : zh s 31 = .inl (0, 8, .inl (s.1 31)) := rfl
theorem zh_32 (s : zs) : zh s 32 = .inl (0, 8, .inl (s.1 32)) := rfl
theorem zh_33 (s : zs) : zh s 33 = .inl (0, 4, .inl (s.1 33)) := rfl
theorem zh_34 (s : zs) : zh s 34 = .inl (0, 4, .inl (s.1 34)) := rfl
theorem zh_35 (s : zs) : zh s 35 = .inr (1, [.ref 5, .ref 36, .ref 37]) := rfl
theorem zh_36 (s : zs) : zh s 36 = .inl (0, 16, .inl (s.1 36)) := rfl
theorem zh_37 (s : zs) : zh s 37 = .inl (0, 4, .inl (s.1 37)) := rfl
theorem zh_38 (s : zs) : zh s 38 = .inr (9, [.ref 5, .ref 35, .ref 39, .ref 40, .int ((s.1 38) 4)]) := rfl
theorem zh_39 (s : zs) : zh s 39 = .inl (0, 4, .inl (s.1 39)) := rfl
theorem zh_40 (s : zs) : zh s 40 = .inl (0, 4, .inl (s.1 40)) := rfl
theorem zh_41 (s : zs) : zh s 41 = .inr (2, [.ref 5, .ref 35, .ref 42]) := rfl
theorem zh_42 (s : zs) : zh s 42 = .inl (2, 256, .inl (s.1 42)) := rfl
theorem zh_43 (s : zs) : zh s 43 = .inr (4, [.ref 5, .ref 44, .int ((s.1 43) 2), .int ((s.1 43) 3), .int ((s.1 43) 4), .int ((s.1 43) 5)]) := rfl
theorem zh_44 (s : zs) : zh s 44 = .inl (0, 26, .inl (s.1 44)) := rfl
theorem zh_45 (s : zs) : zh s 45 = .inr (10, [.ref 46, .ref 47, .ref 48, .int ((s.1 45) 3), .int ((s.1 45) 4)]) := rfl
theorem zh_46 (s : zs) : zh s 46 = .inl (0, 14, .inl (s.1 46)) := rfl
theorem zh_47 (s : zs) : zh s 47 = .inl (0, 14, .inl (s.1 47)) := rfl
theorem zh_48 (s : zs) : zh s 48 = .inl (0, 450, .inl (s.1 48)) := rfl
theorem zh_49 (s : zs) : zh s 49 = .inr (6, [.ref 50, .int ((s.1 49) 1), .int ((s.1 49) 2)]) := rfl
theorem zh_50 (s : zs) : zh s 50 = .inl (3, 15, .inr (.inr (.inr (.inr (fun i => if i < 15 then some (51 + 6 * i) else none))))) := rfl
theorem zh_51 (s : zs) : zh s 51 = .inr (3, [.int ((s.1 51) 0), .int ((s.1 51) 1), .int ((s.1 51) 2), .ref 52, .ref 53, .ref 54, .ref 55, .ref 56]) := rfl
theorem zh_52 (s : zs) : zh s 52 = .inl (0, 8, .inl (s.1 52)) := rfl
theorem zh_53 (s : zs) : zh s 53 = .inl (0, 8, .inl (s.1 53)) := rfl
theorem zh_54 (s : zs) : zh s 54 = .inl (0, 8, .inl (s.1 54)) := rfl
theorem zh_55 (s : zs) : zh s 55 = .inl (0, 4, .inl (s.1 55)) := rfl
theorem zh_56 (s : zs) : zh s 56 = .inl (0, 4, .inl (s.1 56)) := rfl
theorem zh_57 (s : zs) : zh s 57 = .inr (3, [.int ((s.1 57) 0), .int ((s.1 57) 1), .int ((s.1 57) 2), .ref 58, .ref 59, .ref 60, .ref 61, .ref 62]) := rfl
theorem zh_58 (s : zs) : zh s 58 = .inl (0, 8, .inl (s.1 58)) := rfl
theorem zh_59 (s : zs) : zh s 59 = .inl (0, 8, .inl (s.1 59)) := rfl
theorem zh_60 (s : zs) : zh s 60 = .inl (0, 8, .inl (s.1 60)) := rfl
theorem zh_61 (s : zs) : zh s 61 = .inl (0, 4, .inl (s.1 61)) := rfl
theorem zh_62 (s : zs) : zh s 62 = .inl (0, 4, .inl (s.1 62)) := rfl
theorem zh_63 (s : zs) : zh s 63 = .inr (3, [.int ((s.1 63) 0), .int ((s.1 63) 1), .int ((s.1 63) 2), .ref 64, .ref 65, .ref 66, .ref 67, .ref 68]) := rfl
theorem zh_64 (s : zs) : zh s 64 = .inl (0, 8, .inl (s.1 64)) := rfl
theorem zh_65 (s : zs) : zh s 65 = .inl (0, 8, .inl (s.1 65)) := rfl
theorem zh_66 (s : zs) : zh s 66 = .inl (0, 8, .inl (s.1 66)) := rfl
theorem zh_67 (s : zs) : zh s 67 = .inl (0, 4, .inl (s.1 67)) := rfl
theorem zh_68 (s : zs) : zh s 68 = .inl (0, 4, .inl (s.1 68)) := rfl
theorem zh_69 (s : zs) : zh s 69 = .inr (3, [.int ((s.1 69) 0), .int ((s.1 69) 1), .int ((s.1 69) 2), .ref 70, .ref 71, .ref 72, .ref 73, .ref 74]) := rfl
theorem zh_70 (s : zs) : zh s 70 = .inl (0, 8, .inl (s.1 70)) := rfl
theorem zh_71 (s : zs) : zh s 71 = .inl (0, 8, .inl (s.1 71)) := rfl
theorem zh_72 (s : zs) : zh s 72 = .inl (0, 8, .inl (s.1 72)) := rfl
theorem zh_73 (s : zs) : zh s 73 = .inl (0, 4, .inl (s.1 73)) := rfl
theorem zh_74 (s : zs) : zh s 74 = .inl (0, 4, .inl (s.1 74)) := rfl
theorem zh_75 (s : zs) : zh s 75 = .inr (3, [.int ((s.1 75) 0), .int ((s.1 75) 1), .int ((s.1 75) 2), .ref 76, .ref 77, .ref 78, .ref 79, .ref 80]) := rfl
theorem zh_76 (s : zs) : zh s 76 = .inl (0, 8, .inl (s.1 76)) := rfl
theorem zh_77 (s : zs) : zh s 77 = .inl (0, 8, .inl (s.1 77)) := rfl
theorem zh_78 (s : zs) : zh s 78 = .inl (0, 8, .inl (s.1 78)) := rfl
theorem zh_79 (s : zs) : zh s 79 = .inl (0, 4, .inl (s.1 79)) := rfl
theorem zh_80 (s : zs) : zh s 80 = .inl (0, 4, .inl (s.1 80)) := rfl
theorem zh_81 (s : zs) : zh s 81 = .inr (3, [.int ((s.1 81) 0), .int ((s.1 81) 1), .int ((s.1 81) 2), .ref 82, .ref 83, .ref 84, .ref 85, .ref 86]) := rfl
theorem zh_82 (s : zs) : zh s 82 = .inl (0, 8, .inl (s.1 82)) := rfl
theorem zh_83 (s : zs) : zh s 83 = .inl (0, 8, .inl (s.1 83)) := rfl
theorem zh_84 (s : zs) : zh s 84 = .inl (0, 8, .inl (s.1 84)) := rfl
theorem zh_85 (s : zs) : zh s 85 = .inl (0, 4, .inl (s.1 85)) := rfl
theorem zh_86 (s : zs) : zh s 86 = .inl (0, 4, .inl (s.1 86)) := rfl
theorem zh_87 (s : zs) : zh s 87 = .inr (3, [.int ((s.1 87) 0), .int ((s.1 87) 1), .int ((s.1 87) 2), .ref 88, .ref 89, .ref 90, .ref 91, .ref 92]) := rfl
theorem zh_88 (s : zs) : zh s 88 = .inl (0, 8, .inl (s.1 88)) := rfl
theorem zh_89 (s : zs) : zh s 89 = .inl (0, 8, .inl (s.1 89)) := rfl
theorem zh_90 (s : zs) : zh s 90 = .inl (0, 8, .inl (s.1 90)) := rfl
theorem zh_91 (s : zs) : zh s 91 = .inl (0, 4, .inl (s.1 91)) := rfl
theorem zh_92 (s : zs) : zh s 92 = .inl (0, 4, .inl (s.1 92)) := rfl
theorem zh_93 (s : zs) : zh s 93 = .inr (3, [.int ((s.1 93) 0), .int ((s.1 93) 1), .int ((s.1 93) 2), .ref 94, .ref 95, .ref 96, .ref 97, .ref 98]) := rfl
theorem zh_94 (s : zs) : zh s 94 = .inl (0, 8, .inl (s.1 94)) := rfl
theorem zh_95 (s : zs) : zh s 95 = .inl (0, 8, .inl (s.1 95)) := rfl
theorem zh_96 (s : zs) : zh s 96 = .inl (0, 8, .inl (s.1 96)) := rfl
theorem zh_97 (s : zs) : zh s 97 = .inl (0, 4, .inl (s.1 97)) := rfl
theorem zh_98 (s : zs) : zh s 98 = .inl (0, 4, .inl (s.1 98)) := rfl
theorem zh_99 (s : zs) : zh s 99 = .inr (3, [.int ((s.1 99) 0), .int ((s.1 99) 1), .int ((s.1 99) 2), .ref 100, .ref 101, .ref 102, .ref 103, .ref 104]) := rfl
theorem zh_100 (s : zs) : zh s 100 = .inl (0, 8, .inl (s.1 100)) := rfl
theorem zh_101 (s : zs) : zh s 101 = .inl (0, 8, .inl (s.1 101)) := rfl
theorem zh_102 (s : zs) : zh s 102 = .inl (0, 8, .inl (s.1 102)) := rfl
theorem zh_103 (s : zs) : zh s 103 = .inl (0, 4, .inl (s.1 103)) := rfl
theorem zh_104 (s : zs) : zh s 104 = .inl (0, 4, .inl (s.1 104)) := rfl
theorem zh_105 (s : zs) : zh s 105 = .inr (3, [.int ((s.1 105) 0), .int ((s.1 105) 1), .int ((s.1 105) 2), .ref 106, .ref 107, .ref 108, .ref 109, .ref 110]) := rfl
theorem zh_106 (s : zs) : zh s 106 = .inl (0, 8, .inl (s.1 106)) := rfl
theorem zh_107 (s : zs) : zh s 107 = .inl (0, 8, .inl (s.1 107)) := rfl
theorem zh_108 (s : zs) : zh s 108 = .inl (0, 8, .inl (s.1 108)) := rfl
theorem zh_109 (s : zs) : zh s 109 = .inl (0, 4, .inl (s.1 109)) := rfl
theorem zh_110 (s : zs) : zh s 110 = .inl (0, 4, .inl (s.1 110)) := rfl
theorem zh_111 (s : zs) : zh s 111 = .inr (3, [.int ((s.1 111) 0), .int ((s.1 111) 1), .int ((s.1 111) 2), .ref 112, .ref 113, .ref 114, .ref 115, .ref 116]) := rfl
theorem zh_112 (s : zs) : zh s 112 = .inl (0, 8, .inl (s.1 112)) := rfl
theorem zh_113 (s : zs) : zh s 113 = .inl (0, 8, .inl (s.1 113)) := rfl
theorem zh_114 (s : zs) : zh s 114 = .inl (0, 8, .inl (s.1 114)) := rfl
theorem zh_115 (s : zs) : zh s 115 = .inl (0, 4, .inl (s.1 115)) := rfl
theorem zh_116 (s : zs) : zh s 116 = .inl (0, 4, .inl (s.1 116)) := rfl
theorem zh_117 (s : zs) : zh s 117 = .inr (3, [.int ((s.1 117) 0), .int ((s.1 117) 1), .int ((s.1 117) 2), .ref 118, .ref 119, .ref 120, .ref 121, .ref 122]) := rfl
theorem zh_118 (s : zs) : zh s 118 = .inl (0, 8, .inl (s.1 118)) := rfl
theorem zh_119 (s : zs) : zh s 119 = .inl (0, 8, .inl (s.1 119)) := rfl
theorem zh_120 (s : zs) : zh s 120 = .inl (0, 8, .inl (s.1 120)) := rfl
theorem zh_121 (s : zs) : zh s 121 = .inl (0, 4, .inl (s.1 121)) := rfl
theorem zh_122 (s : zs) : zh s 122 = .inl (0, 4, .inl (s.1 122)) := rfl
theorem zh_123 (s : zs) : zh s 123 = .inr (3, [.int ((s.1 123) 0), .int ((s.1 123) 1), .int ((s.1 123) 2), .ref 124, .ref 125, .ref 126, .ref 127, .ref 128]) := rfl
theorem zh_124 (s : zs) : zh s 124 = .inl (0, 8, .inl (s.1 124)) := rfl
theorem zh_125 (s : zs) : zh s 125 = .inl (0, 8, .inl (s.1 125)) := rfl
theorem zh_126 (s : zs) : zh s 126 = .inl (0, 8, .inl (s.1 126)) := rfl
theorem zh_127 (s : zs) : zh s 127 = .inl (0, 4, .inl (s.1 127)) := rfl
theorem zh_128 (s : zs) : zh s 128 = .inl (0, 4, .inl (s.1 128)) := rfl
theorem zh_129 (s : zs) : zh s 129 = .inr (3, [.int ((s.1 129) 0), .int ((s.1 129) 1), .int ((s.1 129) 2), .ref 130, .ref 131, .ref 132, .ref 133, .ref 134]) := rfl
theorem zh_130 (s : zs) : zh s 130 = .inl (0, 8, .inl (s.1 130)) := rfl
theorem zh_131 (s : zs) : zh s 131 = .inl (0, 8, .inl (s.1 131)) := rfl
theorem zh_132 (s : zs) : zh s 132 = .inl (0, 8, .inl (s.1 132)) := rfl
theorem zh_133 (s : zs) : zh s 133 = .inl (0, 4, .inl (s.1 133)) := rfl
theorem zh_134 (s : zs) : zh s 134 = .inl (0, 4, .inl (s.1 134)) := rfl
theorem zh_135 (s : zs) : zh s 135 = .inr (3, [.int ((s.1 135) 0), .int ((s.1 135) 1), .int ((s.1 135) 2), .ref 136, .ref 137, .ref 138, .ref 139, .ref 140]) := rfl
theorem zh_136 (s : zs) : zh s 136 = .inl (0, 8, .inl (s.1 136)) := rfl
theorem zh_137 (s : zs) : zh s 137 = .inl (0, 8, .inl (s.1 137)) := rfl
theorem zh_138 (s : zs) : zh s 138 = .inl (0, 8, .inl (s.1 138)) := rfl
theorem zh_139 (s : zs) : zh s 139 = .inl (0, 4, .inl (s.1 139)) := rfl
theorem zh_140 (s : zs) : zh s 140 = .inl (0, 4, .inl (s.1 140)) := rfl
theorem zh_141 (s : zs) : zh s 141 = .inl (3, 3, .inr (.inr (.inr (.inr (fun i => if i < 3 then some (143 + 6 * i) else none))))) := rfl
theorem zh_142 (s : zs) : zh s 142 = .inl (0, 60, .inl (s.1 142)) := rfl
theorem zh_143 (s : zs) : zh s 143 = .inr (3, [.int ((s.1 143) 0), .int ((s.1 143) 1), .int ((s.1 143) 2), .ref 144, .ref 145, .ref 146, .ref 147, .ref 148]) := rfl
theorem zh_144 (s : zs) : zh s 144 = .inl (0, 8, .inl (s.1 144)) := rfl
theorem zh_145 (s : zs) : zh s 145 = .inl (0, 8, .inl (s.1 145)) := rfl
theorem zh_146 (s : zs) : zh s 146 = .inl (0, 8, .inl (s.1 146)) := rfl
theorem zh_147 (s : zs) : zh s 147 = .inl (0, 4, .inl (s.1 147)) := rfl
theorem zh_148 (s : zs) : zh s 148 = .inl (0, 4, .inl (s.1 148)) := rfl
theorem zh_149 (s : zs) : zh s 149 = .inr (3, [.int ((s.1 149) 0), .int ((s.1 149) 1), .int ((s.1 149) 2), .ref 150, .ref 151, .ref 152, .ref 153, .ref 154]) := rfl
theorem zh_150 (s : zs) : zh s 150 = .inl (0, 8, .inl (s.1 150)) := rfl
theorem zh_151 (s : zs) : zh s 151 = .inl (0, 8, .inl (s.1 151)) := rfl
theorem zh_152 (s : zs) : zh s 152 = .inl (0, 8, .inl (s.1 152)) := rfl
theorem zh_153 (s : zs) : zh s 153 = .inl (0, 4, .inl (s.1 153)) := rfl
theorem zh_154 (s : zs) : zh s 154 = .inl (0, 4, .inl (s.1 154)) := rfl
theorem zh_155 (s : zs) : zh s 155 = .inr (3, [.int ((s.1 155) 0), .int ((s.1 155) 1), .int ((s.1 155) 2), .ref 156, .ref 157, .ref 158, .ref 159, .ref 160]) := rfl
theorem zh_156 (s : zs) : zh s 156 = .inl (0, 8, .inl (s.1 156)) := rfl
theorem zh_157 (s : zs) : zh s 157 = .inl (0, 8, .inl (s.1 157)) := rfl
theorem zh_158 (s : zs) : zh s 158 = .inl (0, 8, .inl (s.1 158)) := rfl
theorem zh_159 (s : zs) : zh s 159 = .inl (0, 4, .inl (s.1 159)) := rfl
theorem zh_160 (s : zs) : zh s 160 = .inl (0, 4, .inl (s.1 160)) := rfl
theorem zh_161 (s : zs) : zh s 161 = .inr (12, [.int ((s.1 161) 0), .int ((s.1 161) 1), .ref 162, .int ((s.1 161) 3), .int ((s.1 161) 4), .int ((s.1 161) 5), .int ((s.1 161) 6), .int ((s.1 161) 7), .ref 163, .ref 164, .ref 165, .ref 166, .ref 167, .ref 168, .ref 169, .ref 170, .ref 171, .int ((s.1 161) 17), .int ((s.1 161) 18), .int ((s.1 161) 19), .int ((s.1 161) 20), .ref 172, .int ((s.1 161) 22), .ref 173, .ref 174, .int ((s.1 161) 25), .int ((s.1 161) 26), .ref 175, .ref 176, .ref 177, .ref 178, .int ((s.1 161) 31), .ref 179, .ref 180, .ref 181, .ref 182, .int ((s.1 161) 36), .int ((s.1 161) 37), .int ((s.1 161) 38), .int ((s.1 161) 39), .ref 183, .ref 184, .int ((s.1 161) 42), .int ((s.1 161) 43), .ref 185, .int ((s.1 161) 45), .ref 186, .ref 187, .long ((s.2 161) 48), .long ((s.2 161) 49), .ref 188, .ref 189, .ref 190]) := rfl
theorem zh_162 (s : zs) : zh s 162 = .inl (1, 24, .inr (.inl (s.2 162))) := rfl
theorem zh_163 (s : zs) : zh s 163 = .inl (0, 32, .inl (s.1 163)) := rfl
theorem zh_164 (s : zs) : zh s 164 = .inl (0, 8, .inl (s.1 164)) := rfl
theorem zh_165 (s : zs) : zh s 165 = .inl (0, 8, .inl (s.1 165)) := rfl
theorem zh_166 (s : zs) : zh s 166 = .inl (0, 8, .inl (s.1 166)) := rfl
theorem zh_167 (s : zs) : zh s 167 = .inl (0, 8, .inl (s.1 167)) := rfl
theorem zh_168 (s : zs) : zh s 168 = .inl (0, 4, .inl (s.1 168)) := rfl
theorem zh_169 (s : zs) : zh s 169 = .inl (0, 42, .inl (s.1 169)) := rfl
theorem zh_170 (s : zs) : zh s 170 = .inl (0, 42, .inl (s.1 170)) := rfl
theorem zh_171 (s : zs) : zh s 171 = .inl (0, 80, .inl (s.1 171)) := rfl
theorem zh_172 (s : zs) : zh s 172 = .inl (0, 40, .inl (s.1 172)) := rfl
theorem zh_173 (s : zs) : zh s 173 = .inl (0, 80, .inl (s.1 173)) := rfl
theorem zh_174 (s : zs) : zh s 174 = .inl (0, 80, .inl (s.1 174)) := rfl
theorem zh_175 (s : zs) : zh s 175 = .inl (0, 80, .inl (s.1 175)) := rfl
theorem zh_176 (s : zs) : zh s 176 = .inl (0, 7, .inl (s.1 176)) := rfl
theorem zh_177 (s : zs) : zh s 177 = .inl (0, 4, .inl (s.1 177)) := rfl
theorem zh_178 (s : zs) : zh s 178 = .inl (0, 4, .inl (s.1 178)) := rfl
theorem zh_179 (s : zs) : zh s 179 = .inl (0, 672, .inl (s.1 179)) := rfl
theorem zh_180 (s : zs) : zh s 180 = .inl (0, 60, .inl (s.1 180)) := rfl
theorem zh_181 (s : zs) : zh s 181 = .inl (0, 60, .inl (s.1 181)) := rfl
theorem zh_182 (s : zs) : zh s 182 = .inl (0, 60, .inl (s.1 182)) := rfl
theorem zh_183 (s : zs) : zh s 183 = .inl (0, 14, .inl (s.1 183)) := rfl
theorem zh_184 (s : zs) : zh s 184 = .inl (0, 14, .inl (s.1 184)) := rfl
theorem zh_185 (s : zs) : zh s 185 = .inl (0, 450, .inl (s.1 185)) := rfl
theorem zh_186 (s : zs) : zh s 186 = .inl (0, 12, .inl (s.1 186)) := rfl
theorem zh_187 (s : zs) : zh s 187 = .inl (0, 12, .inl (s.1 187)) := rfl
theorem zh_188 (s : zs) : zh s 188 = .inl (2, 3, .inl (s.1 188)) := rfl
theorem zh_189 (s : zs) : zh s 189 = .inl (0, 3, .inl (s.1 189)) := rfl
theorem zh_190 (s : zs) : zh s 190 = .inl (0, 126, .inl (s.1 190)) := rfl
theorem zh_191 (s : zs) : zh s 191 = .inl (1, 1, .inr (.inl (s.2 191))) := rfl
theorem zM_at {m : Nat} (h : zM m) (f : Nat → Int32) (g : Nat → Int64) : zhc m f g = .inr (3, [.int (f 0), .int (f 1), .int (f 2), .ref (m + 1), .ref (m + 2), .ref (m + 3), .ref (m + 4), .ref (m + 5)]) ∧ zhc (m + 1) f g = .inl (0, 8, .inl f) ∧ zhc (m + 2) f g = .inl (0, 8, .inl f) ∧ zhc (m + 3) f g = .inl (0, 8, .inl f) ∧ zhc (m + 4) f g = .inl (0, 4, .inl f) ∧ zhc (m + 5) f g = .inl (0, 4, .inl f) ∧ m + 5 < 192 := by
  simp only [zM, List.mem_cons, List.not_mem_nil, or_false] at h
  rcases h with rfl | rfl | rfl | rfl | rfl | rfl | rfl | rfl | rfl | rfl | rfl | rfl | rfl | rfl | rfl | rfl | rfl | rfl | rfl | rfl | rfl <;> exact ⟨rfl, rfl, rfl, rfl, rfl, rfl, by decide⟩
theorem zhM_0 {m : Nat} (h : zM m) (s : zs) : zh s m = .inr (3, [.int (s.1 m 0), .int (s.1 m 1), .int (s.1 m 2), .ref (m + 1), .ref (m + 2), .ref (m + 3), .ref (m + 4), .ref (m + 5)]) := (zM_at h (s.1 m) (s.2 m)).1
theorem zhM_1 {m : Nat} (h : zM m) (s : zs) : zh s (m + 1) = .inl (0, 8, .inl (s.1 (m + 1))) := (zM_at h (s.1 (m + 1)) (s.2 (m + 1))).2.1
theorem zhM_2 {m : Nat} (h : zM m) (s : zs) : zh s (m + 2) = .inl (0, 8, .inl (s.1 (m + 2))) := (zM_at h (s.1 (m + 2)) (s.2 (m + 2))).2.2.1
theorem zhM_3 {m : Nat} (h : zM m) (s : zs) : zh s (m + 3) = .inl (0, 8, .inl (s.1 (m + 3))) := (zM_at h (s.1 (m + 3)) (s.2 (m + 3))).2.2.2.1
theorem zhM_4 {m : Nat} (h : zM m) (s : zs) : zh s (m + 4) = .inl (0, 4, .inl (s.1 (m + 4))) := (zM_at h (s.1 (m + 4)) (s.2 (m + 4))).2.2.2.2.1
theorem zhM_5 {m : Nat} (h : zM m) (s : zs) : zh s (m + 5) = .inl (0, 4, .inl (s.1 (m + 5))) := (zM_at h (s.1 (m + 5)) (s.2 (m + 5))).2.2.2.2.2.1
theorem zM_lt {m j : Nat} (h : zM m) (hj : j ≤ 5) : Nat.blt (m + j) 192 = true := Nat.ble_eq_true_of_le (by have := (zM_at h (fun _ => 0) (fun _ => 0)).2.2.2.2.2.2; omega)
