/-! the equations of the run, an instruction each (program: wip/whole/gen_pcs.py) -/
theorem d_X9_part_0 : decode (mB M_X9_part) 0 = .ok (.aload_n 0, 1) := by decide +kernel
theorem r_X9_part_0 {x1 x2 : Value} {a : Nat} {st : List Value} {h : AH} : Run M_X9_part 0 [.ref a, x1, x2] st h = Run M_X9_part 1 [.ref a, x1, x2] (.ref a :: st) h := R_aload_n d_X9_part_0 rfl
theorem d_X9_part_1 : decode (mB M_X9_part) 1 = .ok (.iload_n 1, 1) := by decide +kernel
theorem r_X9_part_1 {x0 x2 : Value} {a : Int32} {st : List Value} {h : AH} : Run M_X9_part 1 [x0, .int a, x2] st h = Run M_X9_part 2 [x0, .int a, x2] (.int a :: st) h := R_iload_n d_X9_part_1 rfl
theorem d_X9_part_2 : decode (mB M_X9_part) 2 = .ok (.invokevirtual 191, 3) := by decide +kernel
theorem r_X9_part_2 {x0 x1 x2 : Value} {p0 : Int32} {a : Nat} {h : AH} : Run M_X9_part 2 [x0, x1, x2] (.int p0 :: .ref a :: []) h = if refO h 9 (some (.ref a)) = true then (if (Call M_X9_isPart h [.ref a, .int p0]).isSome = true then Run M_X9_part 5 [x0, x1, x2] (rL (Call M_X9_isPart h [.ref a, .int p0]) ++ []) (cH (Call M_X9_isPart h [.ref a, .int p0])) else none) else none := R_virt d_X9_part_2 rfl rfl rfl rfl rfl (Nat.le_of_ble_eq_true rfl)
theorem d_X9_part_5 : decode (mB M_X9_part) 5 = .ok (.ifCond .ne 6, 3) := by decide +kernel
theorem r_X9_part_5 {x0 x1 x2 : Value} {x : Int32} {st : List Value} {h : AH} : Run M_X9_part 5 [x0, x1, x2] (.int x :: st) h = if x = nI 0 then Run M_X9_part 8 [x0, x1, x2] st h else Run M_X9_part 11 [x0, x1, x2] st h := R_if_ne d_X9_part_5 (by decide)
theorem d_X9_part_8 : decode (mB M_X9_part) 8 = .ok (.ldc 195, 2) := by decide +kernel
theorem r_X9_part_8 {x0 x1 x2 : Value} {st : List Value} {h : AH} : Run M_X9_part 8 [x0, x1, x2] st h = Run M_X9_part 10 [x0, x1, x2] (.int (-1000000001) :: st) h := R_ldc d_X9_part_8 (by decide)
theorem d_X9_part_10 : decode (mB M_X9_part) 10 = .ok (.ireturn, 1) := by decide +kernel
theorem r_X9_part_10 {x0 x1 x2 : Value} {v : Int32} {h : AH} : Run M_X9_part 10 [x0, x1, x2] [.int v] h = some (h, some (.int v)) := R_ireturn d_X9_part_10 rfl rfl
theorem d_X9_part_11 : decode (mB M_X9_part) 11 = .ok (.iload_n 2, 1) := by decide +kernel
theorem r_X9_part_11 {x0 x1 : Value} {a : Int32} {st : List Value} {h : AH} : Run M_X9_part 11 [x0, x1, .int a] st h = Run M_X9_part 12 [x0, x1, .int a] (.int a :: st) h := R_iload_n d_X9_part_11 rfl
theorem d_X9_part_12 : decode (mB M_X9_part) 12 = .ok (.ifCond .ne 12, 3) := by decide +kernel
theorem r_X9_part_12 {x0 x1 x2 : Value} {x : Int32} {st : List Value} {h : AH} : Run M_X9_part 12 [x0, x1, x2] (.int x :: st) h = if x = nI 0 then Run M_X9_part 15 [x0, x1, x2] st h else Run M_X9_part 24 [x0, x1, x2] st h := R_if_ne d_X9_part_12 (by decide)
theorem d_X9_part_15 : decode (mB M_X9_part) 15 = .ok (.aload_n 0, 1) := by decide +kernel
theorem r_X9_part_15 {x1 x2 : Value} {a : Nat} {st : List Value} {h : AH} : Run M_X9_part 15 [.ref a, x1, x2] st h = Run M_X9_part 16 [.ref a, x1, x2] (.ref a :: st) h := R_aload_n d_X9_part_15 rfl
theorem d_X9_part_16 : decode (mB M_X9_part) 16 = .ok (.getfield 20, 3) := by decide +kernel
theorem r_X9_part_16 {x0 x1 x2 : Value} {a : Nat} {st : List Value} {h : AH} : Run M_X9_part 16 [x0, x1, x2] (.ref a :: st) h = if (gF h a 9 4).isSome = true then Run M_X9_part 19 [x0, x1, x2] ((gF h a 9 4).getD .null :: st) h else none := R_getfield d_X9_part_16 rfl
theorem d_X9_part_19 : decode (mB M_X9_part) 19 = .ok (.iload_n 1, 1) := by decide +kernel
theorem r_X9_part_19 {x0 x2 : Value} {a : Int32} {st : List Value} {h : AH} : Run M_X9_part 19 [x0, .int a, x2] st h = Run M_X9_part 20 [x0, .int a, x2] (.int a :: st) h := R_iload_n d_X9_part_19 rfl
theorem d_X9_part_20 : decode (mB M_X9_part) 20 = .ok (.iaload, 1) := by decide +kernel
theorem r_X9_part_20 {x0 x1 x2 : Value} {a : Nat} {i : Int32} {st : List Value} {h : AH} : Run M_X9_part 20 [x0, x1, x2] (.int i :: .ref a :: st) h = if (gI 0 h a i).isSome = true then Run M_X9_part 21 [x0, x1, x2] (.int ((gI 0 h a i).getD 0) :: st) h else none := R_iaload d_X9_part_20
theorem d_X9_part_21 : decode (mB M_X9_part) 21 = .ok (.goto 47, 3) := by decide +kernel
theorem r_X9_part_21 {x0 x1 x2 : Value} {st : List Value} {h : AH} : Run M_X9_part 21 [x0, x1, x2] st h = Run M_X9_part 68 [x0, x1, x2] st h := R_goto d_X9_part_21 (by decide)
theorem d_X9_part_24 : decode (mB M_X9_part) 24 = .ok (.iload_n 2, 1) := by decide +kernel
theorem r_X9_part_24 {x0 x1 : Value} {a : Int32} {st : List Value} {h : AH} : Run M_X9_part 24 [x0, x1, .int a] st h = Run M_X9_part 25 [x0, x1, .int a] (.int a :: st) h := R_iload_n d_X9_part_24 rfl
theorem d_X9_part_25 : decode (mB M_X9_part) 25 = .ok (.iconst 1, 1) := by decide +kernel
theorem r_X9_part_25 {x0 x1 x2 : Value} {st : List Value} {h : AH} : Run M_X9_part 25 [x0, x1, x2] st h = Run M_X9_part 26 [x0, x1, x2] (.int (nI 1) :: st) h := R_iconst d_X9_part_25 (by decide)
theorem d_X9_part_26 : decode (mB M_X9_part) 26 = .ok (.if_icmp .ne 12, 3) := by decide +kernel
theorem r_X9_part_26 {x0 x1 x2 : Value} {x y : Int32} {st : List Value} {h : AH} : Run M_X9_part 26 [x0, x1, x2] (.int y :: .int x :: st) h = if x = y then Run M_X9_part 29 [x0, x1, x2] st h else Run M_X9_part 38 [x0, x1, x2] st h := R_icmp_ne d_X9_part_26 (by decide)
theorem d_X9_part_29 : decode (mB M_X9_part) 29 = .ok (.aload_n 0, 1) := by decide +kernel
theorem r_X9_part_29 {x1 x2 : Value} {a : Nat} {st : List Value} {h : AH} : Run M_X9_part 29 [.ref a, x1, x2] st h = Run M_X9_part 30 [.ref a, x1, x2] (.ref a :: st) h := R_aload_n d_X9_part_29 rfl
theorem d_X9_part_30 : decode (mB M_X9_part) 30 = .ok (.getfield 23, 3) := by decide +kernel
theorem r_X9_part_30 {x0 x1 x2 : Value} {a : Nat} {st : List Value} {h : AH} : Run M_X9_part 30 [x0, x1, x2] (.ref a :: st) h = if (gF h a 9 5).isSome = true then Run M_X9_part 33 [x0, x1, x2] ((gF h a 9 5).getD .null :: st) h else none := R_getfield d_X9_part_30 rfl
theorem d_X9_part_33 : decode (mB M_X9_part) 33 = .ok (.iload_n 1, 1) := by decide +kernel
theorem r_X9_part_33 {x0 x2 : Value} {a : Int32} {st : List Value} {h : AH} : Run M_X9_part 33 [x0, .int a, x2] st h = Run M_X9_part 34 [x0, .int a, x2] (.int a :: st) h := R_iload_n d_X9_part_33 rfl
theorem d_X9_part_34 : decode (mB M_X9_part) 34 = .ok (.iaload, 1) := by decide +kernel
theorem r_X9_part_34 {x0 x1 x2 : Value} {a : Nat} {i : Int32} {st : List Value} {h : AH} : Run M_X9_part 34 [x0, x1, x2] (.int i :: .ref a :: st) h = if (gI 0 h a i).isSome = true then Run M_X9_part 35 [x0, x1, x2] (.int ((gI 0 h a i).getD 0) :: st) h else none := R_iaload d_X9_part_34
theorem d_X9_part_35 : decode (mB M_X9_part) 35 = .ok (.goto 33, 3) := by decide +kernel
theorem r_X9_part_35 {x0 x1 x2 : Value} {st : List Value} {h : AH} : Run M_X9_part 35 [x0, x1, x2] st h = Run M_X9_part 68 [x0, x1, x2] st h := R_goto d_X9_part_35 (by decide)
theorem d_X9_part_38 : decode (mB M_X9_part) 38 = .ok (.iload_n 2, 1) := by decide +kernel
theorem r_X9_part_38 {x0 x1 : Value} {a : Int32} {st : List Value} {h : AH} : Run M_X9_part 38 [x0, x1, .int a] st h = Run M_X9_part 39 [x0, x1, .int a] (.int a :: st) h := R_iload_n d_X9_part_38 rfl
theorem d_X9_part_39 : decode (mB M_X9_part) 39 = .ok (.iconst 2, 1) := by decide +kernel
theorem r_X9_part_39 {x0 x1 x2 : Value} {st : List Value} {h : AH} : Run M_X9_part 39 [x0, x1, x2] st h = Run M_X9_part 40 [x0, x1, x2] (.int (nI 2) :: st) h := R_iconst d_X9_part_39 (by decide)
theorem d_X9_part_40 : decode (mB M_X9_part) 40 = .ok (.if_icmp .ne 12, 3) := by decide +kernel
theorem r_X9_part_40 {x0 x1 x2 : Value} {x y : Int32} {st : List Value} {h : AH} : Run M_X9_part 40 [x0, x1, x2] (.int y :: .int x :: st) h = if x = y then Run M_X9_part 43 [x0, x1, x2] st h else Run M_X9_part 52 [x0, x1, x2] st h := R_icmp_ne d_X9_part_40 (by decide)
theorem d_X9_part_43 : decode (mB M_X9_part) 43 = .ok (.aload_n 0, 1) := by decide +kernel
theorem r_X9_part_43 {x1 x2 : Value} {a : Nat} {st : List Value} {h : AH} : Run M_X9_part 43 [.ref a, x1, x2] st h = Run M_X9_part 44 [.ref a, x1, x2] (.ref a :: st) h := R_aload_n d_X9_part_43 rfl
theorem d_X9_part_44 : decode (mB M_X9_part) 44 = .ok (.getfield 26, 3) := by decide +kernel
theorem r_X9_part_44 {x0 x1 x2 : Value} {a : Nat} {st : List Value} {h : AH} : Run M_X9_part 44 [x0, x1, x2] (.ref a :: st) h = if (gF h a 9 6).isSome = true then Run M_X9_part 47 [x0, x1, x2] ((gF h a 9 6).getD .null :: st) h else none := R_getfield d_X9_part_44 rfl
theorem d_X9_part_47 : decode (mB M_X9_part) 47 = .ok (.iload_n 1, 1) := by decide +kernel
theorem r_X9_part_47 {x0 x2 : Value} {a : Int32} {st : List Value} {h : AH} : Run M_X9_part 47 [x0, .int a, x2] st h = Run M_X9_part 48 [x0, .int a, x2] (.int a :: st) h := R_iload_n d_X9_part_47 rfl
theorem d_X9_part_48 : decode (mB M_X9_part) 48 = .ok (.iaload, 1) := by decide +kernel
theorem r_X9_part_48 {x0 x1 x2 : Value} {a : Nat} {i : Int32} {st : List Value} {h : AH} : Run M_X9_part 48 [x0, x1, x2] (.int i :: .ref a :: st) h = if (gI 0 h a i).isSome = true then Run M_X9_part 49 [x0, x1, x2] (.int ((gI 0 h a i).getD 0) :: st) h else none := R_iaload d_X9_part_48
theorem d_X9_part_49 : decode (mB M_X9_part) 49 = .ok (.goto 19, 3) := by decide +kernel
theorem r_X9_part_49 {x0 x1 x2 : Value} {st : List Value} {h : AH} : Run M_X9_part 49 [x0, x1, x2] st h = Run M_X9_part 68 [x0, x1, x2] st h := R_goto d_X9_part_49 (by decide)
theorem d_X9_part_52 : decode (mB M_X9_part) 52 = .ok (.iload_n 2, 1) := by decide +kernel
theorem r_X9_part_52 {x0 x1 : Value} {a : Int32} {st : List Value} {h : AH} : Run M_X9_part 52 [x0, x1, .int a] st h = Run M_X9_part 53 [x0, x1, .int a] (.int a :: st) h := R_iload_n d_X9_part_52 rfl
theorem d_X9_part_53 : decode (mB M_X9_part) 53 = .ok (.iconst 3, 1) := by decide +kernel
theorem r_X9_part_53 {x0 x1 x2 : Value} {st : List Value} {h : AH} : Run M_X9_part 53 [x0, x1, x2] st h = Run M_X9_part 54 [x0, x1, x2] (.int (nI 3) :: st) h := R_iconst d_X9_part_53 (by decide)
theorem d_X9_part_54 : decode (mB M_X9_part) 54 = .ok (.if_icmp .ne 12, 3) := by decide +kernel
theorem r_X9_part_54 {x0 x1 x2 : Value} {x y : Int32} {st : List Value} {h : AH} : Run M_X9_part 54 [x0, x1, x2] (.int y :: .int x :: st) h = if x = y then Run M_X9_part 57 [x0, x1, x2] st h else Run M_X9_part 66 [x0, x1, x2] st h := R_icmp_ne d_X9_part_54 (by decide)
theorem d_X9_part_57 : decode (mB M_X9_part) 57 = .ok (.aload_n 0, 1) := by decide +kernel
theorem r_X9_part_57 {x1 x2 : Value} {a : Nat} {st : List Value} {h : AH} : Run M_X9_part 57 [.ref a, x1, x2] st h = Run M_X9_part 58 [.ref a, x1, x2] (.ref a :: st) h := R_aload_n d_X9_part_57 rfl
theorem d_X9_part_58 : decode (mB M_X9_part) 58 = .ok (.getfield 29, 3) := by decide +kernel
theorem r_X9_part_58 {x0 x1 x2 : Value} {a : Nat} {st : List Value} {h : AH} : Run M_X9_part 58 [x0, x1, x2] (.ref a :: st) h = if (gF h a 9 7).isSome = true then Run M_X9_part 61 [x0, x1, x2] ((gF h a 9 7).getD .null :: st) h else none := R_getfield d_X9_part_58 rfl
theorem d_X9_part_61 : decode (mB M_X9_part) 61 = .ok (.iload_n 1, 1) := by decide +kernel
theorem r_X9_part_61 {x0 x2 : Value} {a : Int32} {st : List Value} {h : AH} : Run M_X9_part 61 [x0, .int a, x2] st h = Run M_X9_part 62 [x0, .int a, x2] (.int a :: st) h := R_iload_n d_X9_part_61 rfl
theorem d_X9_part_62 : decode (mB M_X9_part) 62 = .ok (.iaload, 1) := by decide +kernel
theorem r_X9_part_62 {x0 x1 x2 : Value} {a : Nat} {i : Int32} {st : List Value} {h : AH} : Run M_X9_part 62 [x0, x1, x2] (.int i :: .ref a :: st) h = if (gI 0 h a i).isSome = true then Run M_X9_part 63 [x0, x1, x2] (.int ((gI 0 h a i).getD 0) :: st) h else none := R_iaload d_X9_part_62
theorem d_X9_part_63 : decode (mB M_X9_part) 63 = .ok (.goto 5, 3) := by decide +kernel
theorem r_X9_part_63 {x0 x1 x2 : Value} {st : List Value} {h : AH} : Run M_X9_part 63 [x0, x1, x2] st h = Run M_X9_part 68 [x0, x1, x2] st h := R_goto d_X9_part_63 (by decide)
theorem d_X9_part_66 : decode (mB M_X9_part) 66 = .ok (.ldc 92, 2) := by decide +kernel
theorem r_X9_part_66 {x0 x1 x2 : Value} {st : List Value} {h : AH} : Run M_X9_part 66 [x0, x1, x2] st h = Run M_X9_part 68 [x0, x1, x2] (.int (-1000000002) :: st) h := R_ldc d_X9_part_66 (by decide)
theorem d_X9_part_68 : decode (mB M_X9_part) 68 = .ok (.ireturn, 1) := by decide +kernel
theorem r_X9_part_68 {x0 x1 x2 : Value} {v : Int32} {h : AH} : Run M_X9_part 68 [x0, x1, x2] [.int v] h = some (h, some (.int v)) := R_ireturn d_X9_part_68 rfl rfl
theorem d_X9_length_0 : decode (mB M_X9_length) 0 = .ok (.aload_n 0, 1) := by decide +kernel
theorem r_X9_length_0 {x1 x2 : Value} {a : Nat} {st : List Value} {h : AH} : Run M_X9_length 0 [.ref a, x1, x2] st h = Run M_X9_length 1 [.ref a, x1, x2] (.ref a :: st) h := R_aload_n d_X9_length_0 rfl
theorem d_X9_length_1 : decode (mB M_X9_length) 1 = .ok (.iload_n 1, 1) := by decide +kernel
theorem r_X9_length_1 {x0 x2 : Value} {a : Int32} {st : List Value} {h : AH} : Run M_X9_length 1 [x0, .int a, x2] st h = Run M_X9_length 2 [x0, .int a, x2] (.int a :: st) h := R_iload_n d_X9_length_1 rfl
theorem d_X9_length_2 : decode (mB M_X9_length) 2 = .ok (.invokevirtual 191, 3) := by decide +kernel
theorem r_X9_length_2 {x0 x1 x2 : Value} {p0 : Int32} {a : Nat} {h : AH} : Run M_X9_length 2 [x0, x1, x2] (.int p0 :: .ref a :: []) h = if refO h 9 (some (.ref a)) = true then (if (Call M_X9_isPart h [.ref a, .int p0]).isSome = true then Run M_X9_length 5 [x0, x1, x2] (rL (Call M_X9_isPart h [.ref a, .int p0]) ++ []) (cH (Call M_X9_isPart h [.ref a, .int p0])) else none) else none := R_virt d_X9_length_2 rfl rfl rfl rfl rfl (Nat.le_of_ble_eq_true rfl)
theorem d_X9_length_5 : decode (mB M_X9_length) 5 = .ok (.ifCond .ne 6, 3) := by decide +kernel
theorem r_X9_length_5 {x0 x1 x2 : Value} {x : Int32} {st : List Value} {h : AH} : Run M_X9_length 5 [x0, x1, x2] (.int x :: st) h = if x = nI 0 then Run M_X9_length 8 [x0, x1, x2] st h else Run M_X9_length 11 [x0, x1, x2] st h := R_if_ne d_X9_length_5 (by decide)
theorem d_X9_length_8 : decode (mB M_X9_length) 8 = .ok (.ldc 195, 2) := by decide +kernel
theorem r_X9_length_8 {x0 x1 x2 : Value} {st : List Value} {h : AH} : Run M_X9_length 8 [x0, x1, x2] st h = Run M_X9_length 10 [x0, x1, x2] (.int (-1000000001) :: st) h := R_ldc d_X9_length_8 (by decide)
theorem d_X9_length_10 : decode (mB M_X9_length) 10 = .ok (.ireturn, 1) := by decide +kernel
theorem r_X9_length_10 {x0 x1 x2 : Value} {v : Int32} {h : AH} : Run M_X9_length 10 [x0, x1, x2] [.int v] h = some (h, some (.int v)) := R_ireturn d_X9_length_10 rfl rfl
theorem d_X9_length_11 : decode (mB M_X9_length) 11 = .ok (.iload_n 2, 1) := by decide +kernel
theorem r_X9_length_11 {x0 x1 : Value} {a : Int32} {st : List Value} {h : AH} : Run M_X9_length 11 [x0, x1, .int a] st h = Run M_X9_length 12 [x0, x1, .int a] (.int a :: st) h := R_iload_n d_X9_length_11 rfl
theorem d_X9_length_12 : decode (mB M_X9_length) 12 = .ok (.iconst 0, 1) := by decide +kernel
theorem r_X9_length_12 {x0 x1 x2 : Value} {st : List Value} {h : AH} : Run M_X9_length 12 [x0, x1, x2] st h = Run M_X9_length 13 [x0, x1, x2] (.int (nI 0) :: st) h := R_iconst d_X9_length_12 (by decide)
theorem d_X9_length_13 : decode (mB M_X9_length) 13 = .ok (.aload_n 0, 1) := by decide +kernel
theorem r_X9_length_13 {x1 x2 : Value} {a : Nat} {st : List Value} {h : AH} : Run M_X9_length 13 [.ref a, x1, x2] st h = Run M_X9_length 14 [.ref a, x1, x2] (.ref a :: st) h := R_aload_n d_X9_length_13 rfl
theorem d_X9_length_14 : decode (mB M_X9_length) 14 = .ok (.getfield 29, 3) := by decide +kernel
theorem r_X9_length_14 {x0 x1 x2 : Value} {a : Nat} {st : List Value} {h : AH} : Run M_X9_length 14 [x0, x1, x2] (.ref a :: st) h = if (gF h a 9 7).isSome = true then Run M_X9_length 17 [x0, x1, x2] ((gF h a 9 7).getD .null :: st) h else none := R_getfield d_X9_length_14 rfl
theorem d_X9_length_17 : decode (mB M_X9_length) 17 = .ok (.iload_n 1, 1) := by decide +kernel
theorem r_X9_length_17 {x0 x2 : Value} {a : Int32} {st : List Value} {h : AH} : Run M_X9_length 17 [x0, .int a, x2] st h = Run M_X9_length 18 [x0, .int a, x2] (.int a :: st) h := R_iload_n d_X9_length_17 rfl
theorem d_X9_length_18 : decode (mB M_X9_length) 18 = .ok (.iaload, 1) := by decide +kernel
theorem r_X9_length_18 {x0 x1 x2 : Value} {a : Nat} {i : Int32} {st : List Value} {h : AH} : Run M_X9_length 18 [x0, x1, x2] (.int i :: .ref a :: st) h = if (gI 0 h a i).isSome = true then Run M_X9_length 19 [x0, x1, x2] (.int ((gI 0 h a i).getD 0) :: st) h else none := R_iaload d_X9_length_18
theorem d_X9_length_19 : decode (mB M_X9_length) 19 = .ok (.iconst 1, 1) := by decide +kernel
theorem r_X9_length_19 {x0 x1 x2 : Value} {st : List Value} {h : AH} : Run M_X9_length 19 [x0, x1, x2] st h = Run M_X9_length 20 [x0, x1, x2] (.int (nI 1) :: st) h := R_iconst d_X9_length_19 (by decide)
theorem d_X9_length_20 : decode (mB M_X9_length) 20 = .ok (.isub, 1) := by decide +kernel
theorem r_X9_length_20 {x0 x1 x2 : Value} {x y : Int32} {st : List Value} {h : AH} : Run M_X9_length 20 [x0, x1, x2] (.int y :: .int x :: st) h = Run M_X9_length 21 [x0, x1, x2] (.int (x - y) :: st) h := R_isub d_X9_length_20
theorem d_X9_length_21 : decode (mB M_X9_length) 21 = .ok (.invokestatic 85, 3) := by decide +kernel
theorem r_X9_length_21 {x0 x1 x2 : Value} {p0 : Int32} {p1 : Int32} {p2 : Int32} {h : AH} : Run M_X9_length 21 [x0, x1, x2] (.int p2 :: .int p1 :: .int p0 :: []) h = if (Call M_X9_in h [.int p0, .int p1, .int p2]).isSome = true then Run M_X9_length 24 [x0, x1, x2] (rL (Call M_X9_in h [.int p0, .int p1, .int p2]) ++ []) (cH (Call M_X9_in h [.int p0, .int p1, .int p2])) else none := R_stat d_X9_length_21 rfl rfl rfl rfl (Nat.le_of_ble_eq_true rfl)
theorem d_X9_length_24 : decode (mB M_X9_length) 24 = .ok (.ifCond .eq 16, 3) := by decide +kernel
theorem r_X9_length_24 {x0 x1 x2 : Value} {x : Int32} {st : List Value} {h : AH} : Run M_X9_length 24 [x0, x1, x2] (.int x :: st) h = if x = nI 0 then Run M_X9_length 40 [x0, x1, x2] st h else Run M_X9_length 27 [x0, x1, x2] st h := R_if_eq d_X9_length_24 (by decide)
theorem d_X9_length_27 : decode (mB M_X9_length) 27 = .ok (.aload_n 0, 1) := by decide +kernel
theorem r_X9_length_27 {x1 x2 : Value} {a : Nat} {st : List Value} {h : AH} : Run M_X9_length 27 [.ref a, x1, x2] st h = Run M_X9_length 28 [.ref a, x1, x2] (.ref a :: st) h := R_aload_n d_X9_length_27 rfl
theorem d_X9_length_28 : decode (mB M_X9_length) 28 = .ok (.getfield 32, 3) := by decide +kernel
theorem r_X9_length_28 {x0 x1 x2 : Value} {a : Nat} {st : List Value} {h : AH} : Run M_X9_length 28 [x0, x1, x2] (.ref a :: st) h = if (gF h a 9 8).isSome = true then Run M_X9_length 31 [x0, x1, x2] ((gF h a 9 8).getD .null :: st) h else none := R_getfield d_X9_length_28 rfl
theorem d_X9_length_31 : decode (mB M_X9_length) 31 = .ok (.iconst 4, 1) := by decide +kernel
theorem r_X9_length_31 {x0 x1 x2 : Value} {st : List Value} {h : AH} : Run M_X9_length 31 [x0, x1, x2] st h = Run M_X9_length 32 [x0, x1, x2] (.int (nI 4) :: st) h := R_iconst d_X9_length_31 (by decide)
theorem d_X9_length_32 : decode (mB M_X9_length) 32 = .ok (.iload_n 1, 1) := by decide +kernel
theorem r_X9_length_32 {x0 x2 : Value} {a : Int32} {st : List Value} {h : AH} : Run M_X9_length 32 [x0, .int a, x2] st h = Run M_X9_length 33 [x0, .int a, x2] (.int a :: st) h := R_iload_n d_X9_length_32 rfl
theorem d_X9_length_33 : decode (mB M_X9_length) 33 = .ok (.imul, 1) := by decide +kernel
theorem r_X9_length_33 {x0 x1 x2 : Value} {x y : Int32} {st : List Value} {h : AH} : Run M_X9_length 33 [x0, x1, x2] (.int y :: .int x :: st) h = Run M_X9_length 34 [x0, x1, x2] (.int (x * y) :: st) h := R_imul d_X9_length_33
theorem d_X9_length_34 : decode (mB M_X9_length) 34 = .ok (.iload_n 2, 1) := by decide +kernel
theorem r_X9_length_34 {x0 x1 : Value} {a : Int32} {st : List Value} {h : AH} : Run M_X9_length 34 [x0, x1, .int a] st h = Run M_X9_length 35 [x0, x1, .int a] (.int a :: st) h := R_iload_n d_X9_length_34 rfl
theorem d_X9_length_35 : decode (mB M_X9_length) 35 = .ok (.iadd, 1) := by decide +kernel
theorem r_X9_length_35 {x0 x1 x2 : Value} {x y : Int32} {st : List Value} {h : AH} : Run M_X9_length 35 [x0, x1, x2] (.int y :: .int x :: st) h = Run M_X9_length 36 [x0, x1, x2] (.int (x + y) :: st) h := R_iadd d_X9_length_35
theorem d_X9_length_36 : decode (mB M_X9_length) 36 = .ok (.iaload, 1) := by decide +kernel
theorem r_X9_length_36 {x0 x1 x2 : Value} {a : Nat} {i : Int32} {st : List Value} {h : AH} : Run M_X9_length 36 [x0, x1, x2] (.int i :: .ref a :: st) h = if (gI 0 h a i).isSome = true then Run M_X9_length 37 [x0, x1, x2] (.int ((gI 0 h a i).getD 0) :: st) h else none := R_iaload d_X9_length_36
theorem d_X9_length_37 : decode (mB M_X9_length) 37 = .ok (.goto 4, 3) := by decide +kernel
theorem r_X9_length_37 {x0 x1 x2 : Value} {st : List Value} {h : AH} : Run M_X9_length 37 [x0, x1, x2] st h = Run M_X9_length 41 [x0, x1, x2] st h := R_goto d_X9_length_37 (by decide)
theorem d_X9_length_40 : decode (mB M_X9_length) 40 = .ok (.iconst (-1), 1) := by decide +kernel
theorem r_X9_length_40 {x0 x1 x2 : Value} {st : List Value} {h : AH} : Run M_X9_length 40 [x0, x1, x2] st h = Run M_X9_length 41 [x0, x1, x2] (.int (-1) :: st) h := R_iconst d_X9_length_40 (by decide)
theorem d_X9_length_41 : decode (mB M_X9_length) 41 = .ok (.ireturn, 1) := by decide +kernel
theorem r_X9_length_41 {x0 x1 x2 : Value} {v : Int32} {h : AH} : Run M_X9_length 41 [x0, x1, x2] [.int v] h = some (h, some (.int v)) := R_ireturn d_X9_length_41 rfl rfl
theorem d_X9_player_0 : decode (mB M_X9_player) 0 = .ok (.aload_n 0, 1) := by decide +kernel
theorem r_X9_player_0 {x1 x2 : Value} {a : Nat} {st : List Value} {h : AH} : Run M_X9_player 0 [.ref a, x1, x2] st h = Run M_X9_player 1 [.ref a, x1, x2] (.ref a :: st) h := R_aload_n d_X9_player_0 rfl
theorem d_X9_player_1 : decode (mB M_X9_player) 1 = .ok (.iload_n 1, 1) := by decide +kernel
theorem r_X9_player_1 {x0 x2 : Value} {a : Int32} {st : List Value} {h : AH} : Run M_X9_player 1 [x0, .int a, x2] st h = Run M_X9_player 2 [x0, .int a, x2] (.int a :: st) h := R_iload_n d_X9_player_1 rfl
theorem d_X9_player_2 : decode (mB M_X9_player) 2 = .ok (.invokevirtual 196, 3) := by decide +kernel
theorem r_X9_player_2 {x0 x1 x2 : Value} {p0 : Int32} {a : Nat} {h : AH} : Run M_X9_player 2 [x0, x1, x2] (.int p0 :: .ref a :: []) h = if refO h 9 (some (.ref a)) = true then (if (Call M_X9_isPlayer h [.ref a, .int p0]).isSome = true then Run M_X9_player 5 [x0, x1, x2] (rL (Call M_X9_isPlayer h [.ref a, .int p0]) ++ []) (cH (Call M_X9_isPlayer h [.ref a, .int p0])) else none) else none := R_virt d_X9_player_2 rfl rfl rfl rfl rfl (Nat.le_of_ble_eq_true rfl)
theorem d_X9_player_5 : decode (mB M_X9_player) 5 = .ok (.ifCond .ne 6, 3) := by decide +kernel
theorem r_X9_player_5 {x0 x1 x2 : Value} {x : Int32} {st : List Value} {h : AH} : Run M_X9_player 5 [x0, x1, x2] (.int x :: st) h = if x = nI 0 then Run M_X9_player 8 [x0, x1, x2] st h else Run M_X9_player 11 [x0, x1, x2] st h := R_if_ne d_X9_player_5 (by decide)
theorem d_X9_player_8 : decode (mB M_X9_player) 8 = .ok (.ldc 195, 2) := by decide +kernel
theorem r_X9_player_8 {x0 x1 x2 : Value} {st : List Value} {h : AH} : Run M_X9_player 8 [x0, x1, x2] st h = Run M_X9_player 10 [x0, x1, x2] (.int (-1000000001) :: st) h := R_ldc d_X9_player_8 (by decide)
theorem d_X9_player_10 : decode (mB M_X9_player) 10 = .ok (.ireturn, 1) := by decide +kernel
theorem r_X9_player_10 {x0 x1 x2 : Value} {v : Int32} {h : AH} : Run M_X9_player 10 [x0, x1, x2] [.int v] h = some (h, some (.int v)) := R_ireturn d_X9_player_10 rfl rfl
theorem d_X9_player_11 : decode (mB M_X9_player) 11 = .ok (.iload_n 2, 1) := by decide +kernel
theorem r_X9_player_11 {x0 x1 : Value} {a : Int32} {st : List Value} {h : AH} : Run M_X9_player 11 [x0, x1, .int a] st h = Run M_X9_player 12 [x0, x1, .int a] (.int a :: st) h := R_iload_n d_X9_player_11 rfl
theorem d_X9_player_12 : decode (mB M_X9_player) 12 = .ok (.iconst 0, 1) := by decide +kernel
theorem r_X9_player_12 {x0 x1 x2 : Value} {st : List Value} {h : AH} : Run M_X9_player 12 [x0, x1, x2] st h = Run M_X9_player 13 [x0, x1, x2] (.int (nI 0) :: st) h := R_iconst d_X9_player_12 (by decide)
theorem d_X9_player_13 : decode (mB M_X9_player) 13 = .ok (.iconst 1, 1) := by decide +kernel
theorem r_X9_player_13 {x0 x1 x2 : Value} {st : List Value} {h : AH} : Run M_X9_player 13 [x0, x1, x2] st h = Run M_X9_player 14 [x0, x1, x2] (.int (nI 1) :: st) h := R_iconst d_X9_player_13 (by decide)
theorem d_X9_player_14 : decode (mB M_X9_player) 14 = .ok (.invokestatic 85, 3) := by decide +kernel
theorem r_X9_player_14 {x0 x1 x2 : Value} {p0 : Int32} {p1 : Int32} {p2 : Int32} {h : AH} : Run M_X9_player 14 [x0, x1, x2] (.int p2 :: .int p1 :: .int p0 :: []) h = if (Call M_X9_in h [.int p0, .int p1, .int p2]).isSome = true then Run M_X9_player 17 [x0, x1, x2] (rL (Call M_X9_in h [.int p0, .int p1, .int p2]) ++ []) (cH (Call M_X9_in h [.int p0, .int p1, .int p2])) else none := R_stat d_X9_player_14 rfl rfl rfl rfl (Nat.le_of_ble_eq_true rfl)
theorem d_X9_player_17 : decode (mB M_X9_player) 17 = .ok (.ifCond .eq 18, 3) := by decide +kernel
theorem r_X9_player_17 {x0 x1 x2 : Value} {x : Int32} {st : List Value} {h : AH} : Run M_X9_player 17 [x0, x1, x2] (.int x :: st) h = if x = nI 0 then Run M_X9_player 35 [x0, x1, x2] st h else Run M_X9_player 20 [x0, x1, x2] st h := R_if_eq d_X9_player_17 (by decide)
theorem d_X9_player_20 : decode (mB M_X9_player) 20 = .ok (.aload_n 0, 1) := by decide +kernel
theorem r_X9_player_20 {x1 x2 : Value} {a : Nat} {st : List Value} {h : AH} : Run M_X9_player 20 [.ref a, x1, x2] st h = Run M_X9_player 21 [.ref a, x1, x2] (.ref a :: st) h := R_aload_n d_X9_player_20 rfl
theorem d_X9_player_21 : decode (mB M_X9_player) 21 = .ok (.getfield 7, 3) := by decide +kernel
theorem r_X9_player_21 {x0 x1 x2 : Value} {a : Nat} {st : List Value} {h : AH} : Run M_X9_player 21 [x0, x1, x2] (.ref a :: st) h = if (gF h a 9 0).isSome = true then Run M_X9_player 24 [x0, x1, x2] ((gF h a 9 0).getD .null :: st) h else none := R_getfield d_X9_player_21 rfl
theorem d_X9_player_24 : decode (mB M_X9_player) 24 = .ok (.iconst 5, 1) := by decide +kernel
theorem r_X9_player_24 {x0 x1 x2 : Value} {st : List Value} {h : AH} : Run M_X9_player 24 [x0, x1, x2] st h = Run M_X9_player 25 [x0, x1, x2] (.int (nI 5) :: st) h := R_iconst d_X9_player_24 (by decide)
theorem d_X9_player_25 : decode (mB M_X9_player) 25 = .ok (.iconst 2, 1) := by decide +kernel
theorem r_X9_player_25 {x0 x1 x2 : Value} {st : List Value} {h : AH} : Run M_X9_player 25 [x0, x1, x2] st h = Run M_X9_player 26 [x0, x1, x2] (.int (nI 2) :: st) h := R_iconst d_X9_player_25 (by decide)
theorem d_X9_player_26 : decode (mB M_X9_player) 26 = .ok (.iload_n 1, 1) := by decide +kernel
theorem r_X9_player_26 {x0 x2 : Value} {a : Int32} {st : List Value} {h : AH} : Run M_X9_player 26 [x0, .int a, x2] st h = Run M_X9_player 27 [x0, .int a, x2] (.int a :: st) h := R_iload_n d_X9_player_26 rfl
theorem d_X9_player_27 : decode (mB M_X9_player) 27 = .ok (.imul, 1) := by decide +kernel
theorem r_X9_player_27 {x0 x1 x2 : Value} {x y : Int32} {st : List Value} {h : AH} : Run M_X9_player 27 [x0, x1, x2] (.int y :: .int x :: st) h = Run M_X9_player 28 [x0, x1, x2] (.int (x * y) :: st) h := R_imul d_X9_player_27
theorem d_X9_player_28 : decode (mB M_X9_player) 28 = .ok (.iadd, 1) := by decide +kernel
theorem r_X9_player_28 {x0 x1 x2 : Value} {x y : Int32} {st : List Value} {h : AH} : Run M_X9_player 28 [x0, x1, x2] (.int y :: .int x :: st) h = Run M_X9_player 29 [x0, x1, x2] (.int (x + y) :: st) h := R_iadd d_X9_player_28
theorem d_X9_player_29 : decode (mB M_X9_player) 29 = .ok (.iload_n 2, 1) := by decide +kernel
theorem r_X9_player_29 {x0 x1 : Value} {a : Int32} {st : List Value} {h : AH} : Run M_X9_player 29 [x0, x1, .int a] st h = Run M_X9_player 30 [x0, x1, .int a] (.int a :: st) h := R_iload_n d_X9_player_29 rfl
theorem d_X9_player_30 : decode (mB M_X9_player) 30 = .ok (.iadd, 1) := by decide +kernel
theorem r_X9_player_30 {x0 x1 x2 : Value} {x y : Int32} {st : List Value} {h : AH} : Run M_X9_player 30 [x0, x1, x2] (.int y :: .int x :: st) h = Run M_X9_player 31 [x0, x1, x2] (.int (x + y) :: st) h := R_iadd d_X9_player_30
theorem d_X9_player_31 : decode (mB M_X9_player) 31 = .ok (.iaload, 1) := by decide +kernel
theorem r_X9_player_31 {x0 x1 x2 : Value} {a : Nat} {i : Int32} {st : List Value} {h : AH} : Run M_X9_player 31 [x0, x1, x2] (.int i :: .ref a :: st) h = if (gI 0 h a i).isSome = true then Run M_X9_player 32 [x0, x1, x2] (.int ((gI 0 h a i).getD 0) :: st) h else none := R_iaload d_X9_player_31
theorem d_X9_player_32 : decode (mB M_X9_player) 32 = .ok (.goto 5, 3) := by decide +kernel
theorem r_X9_player_32 {x0 x1 x2 : Value} {st : List Value} {h : AH} : Run M_X9_player 32 [x0, x1, x2] st h = Run M_X9_player 37 [x0, x1, x2] st h := R_goto d_X9_player_32 (by decide)
theorem d_X9_player_35 : decode (mB M_X9_player) 35 = .ok (.ldc 92, 2) := by decide +kernel
theorem r_X9_player_35 {x0 x1 x2 : Value} {st : List Value} {h : AH} : Run M_X9_player 35 [x0, x1, x2] st h = Run M_X9_player 37 [x0, x1, x2] (.int (-1000000002) :: st) h := R_ldc d_X9_player_35 (by decide)
theorem d_X9_player_37 : decode (mB M_X9_player) 37 = .ok (.ireturn, 1) := by decide +kernel
theorem r_X9_player_37 {x0 x1 x2 : Value} {v : Int32} {h : AH} : Run M_X9_player 37 [x0, x1, x2] [.int v] h = some (h, some (.int v)) := R_ireturn d_X9_player_37 rfl rfl
theorem d_X9_instrument_0 : decode (mB M_X9_instrument) 0 = .ok (.iload_n 1, 1) := by decide +kernel
theorem r_X9_instrument_0 {x0 x2 : Value} {a : Int32} {st : List Value} {h : AH} : Run M_X9_instrument 0 [x0, .int a, x2] st h = Run M_X9_instrument 1 [x0, .int a, x2] (.int a :: st) h := R_iload_n d_X9_instrument_0 rfl
theorem d_X9_instrument_1 : decode (mB M_X9_instrument) 1 = .ok (.iconst 0, 1) := by decide +kernel
theorem r_X9_instrument_1 {x0 x1 x2 : Value} {st : List Value} {h : AH} : Run M_X9_instrument 1 [x0, x1, x2] st h = Run M_X9_instrument 2 [x0, x1, x2] (.int (nI 0) :: st) h := R_iconst d_X9_instrument_1 (by decide)
theorem d_X9_instrument_2 : decode (mB M_X9_instrument) 2 = .ok (.aload_n 0, 1) := by decide +kernel
theorem r_X9_instrument_2 {x1 x2 : Value} {a : Nat} {st : List Value} {h : AH} : Run M_X9_instrument 2 [.ref a, x1, x2] st h = Run M_X9_instrument 3 [.ref a, x1, x2] (.ref a :: st) h := R_aload_n d_X9_instrument_2 rfl
theorem d_X9_instrument_3 : decode (mB M_X9_instrument) 3 = .ok (.getfield 182, 3) := by decide +kernel
theorem r_X9_instrument_3 {x0 x1 x2 : Value} {a : Nat} {st : List Value} {h : AH} : Run M_X9_instrument 3 [x0, x1, x2] (.ref a :: st) h = if (gF h a 9 10).isSome = true then Run M_X9_instrument 6 [x0, x1, x2] ((gF h a 9 10).getD .null :: st) h else none := R_getfield d_X9_instrument_3 rfl
theorem d_X9_instrument_6 : decode (mB M_X9_instrument) 6 = .ok (.iconst 1, 1) := by decide +kernel
theorem r_X9_instrument_6 {x0 x1 x2 : Value} {st : List Value} {h : AH} : Run M_X9_instrument 6 [x0, x1, x2] st h = Run M_X9_instrument 7 [x0, x1, x2] (.int (nI 1) :: st) h := R_iconst d_X9_instrument_6 (by decide)
theorem d_X9_instrument_7 : decode (mB M_X9_instrument) 7 = .ok (.isub, 1) := by decide +kernel
theorem r_X9_instrument_7 {x0 x1 x2 : Value} {x y : Int32} {st : List Value} {h : AH} : Run M_X9_instrument 7 [x0, x1, x2] (.int y :: .int x :: st) h = Run M_X9_instrument 8 [x0, x1, x2] (.int (x - y) :: st) h := R_isub d_X9_instrument_7
theorem d_X9_instrument_8 : decode (mB M_X9_instrument) 8 = .ok (.invokestatic 85, 3) := by decide +kernel
theorem r_X9_instrument_8 {x0 x1 x2 : Value} {p0 : Int32} {p1 : Int32} {p2 : Int32} {h : AH} : Run M_X9_instrument 8 [x0, x1, x2] (.int p2 :: .int p1 :: .int p0 :: []) h = if (Call M_X9_in h [.int p0, .int p1, .int p2]).isSome = true then Run M_X9_instrument 11 [x0, x1, x2] (rL (Call M_X9_in h [.int p0, .int p1, .int p2]) ++ []) (cH (Call M_X9_in h [.int p0, .int p1, .int p2])) else none := R_stat d_X9_instrument_8 rfl rfl rfl rfl (Nat.le_of_ble_eq_true rfl)
theorem d_X9_instrument_11 : decode (mB M_X9_instrument) 11 = .ok (.ifCond .ne 6, 3) := by decide +kernel
theorem r_X9_instrument_11 {x0 x1 x2 : Value} {x : Int32} {st : List Value} {h : AH} : Run M_X9_instrument 11 [x0, x1, x2] (.int x :: st) h = if x = nI 0 then Run M_X9_instrument 14 [x0, x1, x2] st h else Run M_X9_instrument 17 [x0, x1, x2] st h := R_if_ne d_X9_instrument_11 (by decide)
theorem d_X9_instrument_14 : decode (mB M_X9_instrument) 14 = .ok (.ldc 195, 2) := by decide +kernel
theorem r_X9_instrument_14 {x0 x1 x2 : Value} {st : List Value} {h : AH} : Run M_X9_instrument 14 [x0, x1, x2] st h = Run M_X9_instrument 16 [x0, x1, x2] (.int (-1000000001) :: st) h := R_ldc d_X9_instrument_14 (by decide)
theorem d_X9_instrument_16 : decode (mB M_X9_instrument) 16 = .ok (.ireturn, 1) := by decide +kernel
theorem r_X9_instrument_16 {x0 x1 x2 : Value} {v : Int32} {h : AH} : Run M_X9_instrument 16 [x0, x1, x2] [.int v] h = some (h, some (.int v)) := R_ireturn d_X9_instrument_16 rfl rfl
theorem d_X9_instrument_17 : decode (mB M_X9_instrument) 17 = .ok (.iload_n 2, 1) := by decide +kernel
theorem r_X9_instrument_17 {x0 x1 : Value} {a : Int32} {st : List Value} {h : AH} : Run M_X9_instrument 17 [x0, x1, .int a] st h = Run M_X9_instrument 18 [x0, x1, .int a] (.int a :: st) h := R_iload_n d_X9_instrument_17 rfl
theorem d_X9_instrument_18 : decode (mB M_X9_instrument) 18 = .ok (.iconst 0, 1) := by decide +kernel
theorem r_X9_instrument_18 {x0 x1 x2 : Value} {st : List Value} {h : AH} : Run M_X9_instrument 18 [x0, x1, x2] st h = Run M_X9_instrument 19 [x0, x1, x2] (.int (nI 0) :: st) h := R_iconst d_X9_instrument_18 (by decide)
theorem d_X9_instrument_19 : decode (mB M_X9_instrument) 19 = .ok (.iconst 1, 1) := by decide +kernel
theorem r_X9_instrument_19 {x0 x1 x2 : Value} {st : List Value} {h : AH} : Run M_X9_instrument 19 [x0, x1, x2] st h = Run M_X9_instrument 20 [x0, x1, x2] (.int (nI 1) :: st) h := R_iconst d_X9_instrument_19 (by decide)
theorem d_X9_instrument_20 : decode (mB M_X9_instrument) 20 = .ok (.invokestatic 85, 3) := by decide +kernel
theorem r_X9_instrument_20 {x0 x1 x2 : Value} {p0 : Int32} {p1 : Int32} {p2 : Int32} {h : AH} : Run M_X9_instrument 20 [x0, x1, x2] (.int p2 :: .int p1 :: .int p0 :: []) h = if (Call M_X9_in h [.int p0, .int p1, .int p2]).isSome = true then Run M_X9_instrument 23 [x0, x1, x2] (rL (Call M_X9_in h [.int p0, .int p1, .int p2]) ++ []) (cH (Call M_X9_in h [.int p0, .int p1, .int p2])) else none := R_stat d_X9_instrument_20 rfl rfl rfl rfl (Nat.le_of_ble_eq_true rfl)
theorem d_X9_instrument_23 : decode (mB M_X9_instrument) 23 = .ok (.ifCond .eq 16, 3) := by decide +kernel
theorem r_X9_instrument_23 {x0 x1 x2 : Value} {x : Int32} {st : List Value} {h : AH} : Run M_X9_instrument 23 [x0, x1, x2] (.int x :: st) h = if x = nI 0 then Run M_X9_instrument 39 [x0, x1, x2] st h else Run M_X9_instrument 26 [x0, x1, x2] st h := R_if_eq d_X9_instrument_23 (by decide)
theorem d_X9_instrument_26 : decode (mB M_X9_instrument) 26 = .ok (.aload_n 0, 1) := by decide +kernel
theorem r_X9_instrument_26 {x1 x2 : Value} {a : Nat} {st : List Value} {h : AH} : Run M_X9_instrument 26 [.ref a, x1, x2] st h = Run M_X9_instrument 27 [.ref a, x1, x2] (.ref a :: st) h := R_aload_n d_X9_instrument_26 rfl
theorem d_X9_instrument_27 : decode (mB M_X9_instrument) 27 = .ok (.getfield 35, 3) := by decide +kernel
theorem r_X9_instrument_27 {x0 x1 x2 : Value} {a : Nat} {st : List Value} {h : AH} : Run M_X9_instrument 27 [x0, x1, x2] (.ref a :: st) h = if (gF h a 9 11).isSome = true then Run M_X9_instrument 30 [x0, x1, x2] ((gF h a 9 11).getD .null :: st) h else none := R_getfield d_X9_instrument_27 rfl
theorem d_X9_instrument_30 : decode (mB M_X9_instrument) 30 = .ok (.iconst 2, 1) := by decide +kernel
theorem r_X9_instrument_30 {x0 x1 x2 : Value} {st : List Value} {h : AH} : Run M_X9_instrument 30 [x0, x1, x2] st h = Run M_X9_instrument 31 [x0, x1, x2] (.int (nI 2) :: st) h := R_iconst d_X9_instrument_30 (by decide)
theorem d_X9_instrument_31 : decode (mB M_X9_instrument) 31 = .ok (.iload_n 1, 1) := by decide +kernel
theorem r_X9_instrument_31 {x0 x2 : Value} {a : Int32} {st : List Value} {h : AH} : Run M_X9_instrument 31 [x0, .int a, x2] st h = Run M_X9_instrument 32 [x0, .int a, x2] (.int a :: st) h := R_iload_n d_X9_instrument_31 rfl
theorem d_X9_instrument_32 : decode (mB M_X9_instrument) 32 = .ok (.imul, 1) := by decide +kernel
theorem r_X9_instrument_32 {x0 x1 x2 : Value} {x y : Int32} {st : List Value} {h : AH} : Run M_X9_instrument 32 [x0, x1, x2] (.int y :: .int x :: st) h = Run M_X9_instrument 33 [x0, x1, x2] (.int (x * y) :: st) h := R_imul d_X9_instrument_32
theorem d_X9_instrument_33 : decode (mB M_X9_instrument) 33 = .ok (.iload_n 2, 1) := by decide +kernel
theorem r_X9_instrument_33 {x0 x1 : Value} {a : Int32} {st : List Value} {h : AH} : Run M_X9_instrument 33 [x0, x1, .int a] st h = Run M_X9_instrument 34 [x0, x1, .int a] (.int a :: st) h := R_iload_n d_X9_instrument_33 rfl
theorem d_X9_instrument_34 : decode (mB M_X9_instrument) 34 = .ok (.iadd, 1) := by decide +kernel
theorem r_X9_instrument_34 {x0 x1 x2 : Value} {x y : Int32} {st : List Value} {h : AH} : Run M_X9_instrument 34 [x0, x1, x2] (.int y :: .int x :: st) h = Run M_X9_instrument 35 [x0, x1, x2] (.int (x + y) :: st) h := R_iadd d_X9_instrument_34
theorem d_X9_instrument_35 : decode (mB M_X9_instrument) 35 = .ok (.iaload, 1) := by decide +kernel
theorem r_X9_instrument_35 {x0 x1 x2 : Value} {a : Nat} {i : Int32} {st : List Value} {h : AH} : Run M_X9_instrument 35 [x0, x1, x2] (.int i :: .ref a :: st) h = if (gI 0 h a i).isSome = true then Run M_X9_instrument 36 [x0, x1, x2] (.int ((gI 0 h a i).getD 0) :: st) h else none := R_iaload d_X9_instrument_35
theorem d_X9_instrument_36 : decode (mB M_X9_instrument) 36 = .ok (.goto 5, 3) := by decide +kernel
theorem r_X9_instrument_36 {x0 x1 x2 : Value} {st : List Value} {h : AH} : Run M_X9_instrument 36 [x0, x1, x2] st h = Run M_X9_instrument 41 [x0, x1, x2] st h := R_goto d_X9_instrument_36 (by decide)
theorem d_X9_instrument_39 : decode (mB M_X9_instrument) 39 = .ok (.ldc 92, 2) := by decide +kernel
theorem r_X9_instrument_39 {x0 x1 x2 : Value} {st : List Value} {h : AH} : Run M_X9_instrument 39 [x0, x1, x2] st h = Run M_X9_instrument 41 [x0, x1, x2] (.int (-1000000002) :: st) h := R_ldc d_X9_instrument_39 (by decide)
theorem d_X9_instrument_41 : decode (mB M_X9_instrument) 41 = .ok (.ireturn, 1) := by decide +kernel
theorem r_X9_instrument_41 {x0 x1 x2 : Value} {v : Int32} {h : AH} : Run M_X9_instrument 41 [x0, x1, x2] [.int v] h = some (h, some (.int v)) := R_ireturn d_X9_instrument_41 rfl rfl
theorem d_X9_costs_0 : decode (mB M_X9_costs) 0 = .ok (.iload_n 1, 1) := by decide +kernel
theorem r_X9_costs_0 {x0 x2 x3 x4 : Value} {a : Int32} {st : List Value} {h : AH} : Run M_X9_costs 0 [x0, .int a, x2, x3, x4] st h = Run M_X9_costs 1 [x0, .int a, x2, x3, x4] (.int a :: st) h := R_iload_n d_X9_costs_0 rfl
theorem d_X9_costs_1 : decode (mB M_X9_costs) 1 = .ok (.iconst 0, 1) := by decide +kernel
theorem r_X9_costs_1 {x0 x1 x2 x3 x4 : Value} {st : List Value} {h : AH} : Run M_X9_costs 1 [x0, x1, x2, x3, x4] st h = Run M_X9_costs 2 [x0, x1, x2, x3, x4] (.int (nI 0) :: st) h := R_iconst d_X9_costs_1 (by decide)
theorem d_X9_costs_2 : decode (mB M_X9_costs) 2 = .ok (.bipush 20, 2) := by decide +kernel
theorem r_X9_costs_2 {x0 x1 x2 x3 x4 : Value} {st : List Value} {h : AH} : Run M_X9_costs 2 [x0, x1, x2, x3, x4] st h = Run M_X9_costs 4 [x0, x1, x2, x3, x4] (.int (nI 20) :: st) h := R_bipush d_X9_costs_2 (by decide)
theorem d_X9_costs_4 : decode (mB M_X9_costs) 4 = .ok (.invokestatic 85, 3) := by decide +kernel
theorem r_X9_costs_4 {x0 x1 x2 x3 x4 : Value} {p0 : Int32} {p1 : Int32} {p2 : Int32} {h : AH} : Run M_X9_costs 4 [x0, x1, x2, x3, x4] (.int p2 :: .int p1 :: .int p0 :: []) h = if (Call M_X9_in h [.int p0, .int p1, .int p2]).isSome = true then Run M_X9_costs 7 [x0, x1, x2, x3, x4] (rL (Call M_X9_in h [.int p0, .int p1, .int p2]) ++ []) (cH (Call M_X9_in h [.int p0, .int p1, .int p2])) else none := R_stat d_X9_costs_4 rfl rfl rfl rfl (Nat.le_of_ble_eq_true rfl)
theorem d_X9_costs_7 : decode (mB M_X9_costs) 7 = .ok (.ifCond .eq 23, 3) := by decide +kernel
theorem r_X9_costs_7 {x0 x1 x2 x3 x4 : Value} {x : Int32} {st : List Value} {h : AH} : Run M_X9_costs 7 [x0, x1, x2, x3, x4] (.int x :: st) h = if x = nI 0 then Run M_X9_costs 30 [x0, x1, x2, x3, x4] st h else Run M_X9_costs 10 [x0, x1, x2, x3, x4] st h := R_if_eq d_X9_costs_7 (by decide)
theorem d_X9_costs_10 : decode (mB M_X9_costs) 10 = .ok (.iload_n 2, 1) := by decide +kernel
theorem r_X9_costs_10 {x0 x1 x3 x4 : Value} {a : Int32} {st : List Value} {h : AH} : Run M_X9_costs 10 [x0, x1, .int a, x3, x4] st h = Run M_X9_costs 11 [x0, x1, .int a, x3, x4] (.int a :: st) h := R_iload_n d_X9_costs_10 rfl
theorem d_X9_costs_11 : decode (mB M_X9_costs) 11 = .ok (.iconst 0, 1) := by decide +kernel
theorem r_X9_costs_11 {x0 x1 x2 x3 x4 : Value} {st : List Value} {h : AH} : Run M_X9_costs 11 [x0, x1, x2, x3, x4] st h = Run M_X9_costs 12 [x0, x1, x2, x3, x4] (.int (nI 0) :: st) h := R_iconst d_X9_costs_11 (by decide)
theorem d_X9_costs_12 : decode (mB M_X9_costs) 12 = .ok (.bipush 20, 2) := by decide +kernel
theorem r_X9_costs_12 {x0 x1 x2 x3 x4 : Value} {st : List Value} {h : AH} : Run M_X9_costs 12 [x0, x1, x2, x3, x4] st h = Run M_X9_costs 14 [x0, x1, x2, x3, x4] (.int (nI 20) :: st) h := R_bipush d_X9_costs_12 (by decide)
theorem d_X9_costs_14 : decode (mB M_X9_costs) 14 = .ok (.invokestatic 85, 3) := by decide +kernel
theorem r_X9_costs_14 {x0 x1 x2 x3 x4 : Value} {p0 : Int32} {p1 : Int32} {p2 : Int32} {h : AH} : Run M_X9_costs 14 [x0, x1, x2, x3, x4] (.int p2 :: .int p1 :: .int p0 :: []) h = if (Call M_X9_in h [.int p0, .int p1, .int p2]).isSome = true then Run M_X9_costs 17 [x0, x1, x2, x3, x4] (rL (Call M_X9_in h [.int p0, .int p1, .int p2]) ++ []) (cH (Call M_X9_in h [.int p0, .int p1, .int p2])) else none := R_stat d_X9_costs_14 rfl rfl rfl rfl (Nat.le_of_ble_eq_true rfl)
theorem d_X9_costs_17 : decode (mB M_X9_costs) 17 = .ok (.ifCond .eq 13, 3) := by decide +kernel
theorem r_X9_costs_17 {x0 x1 x2 x3 x4 : Value} {x : Int32} {st : List Value} {h : AH} : Run M_X9_costs 17 [x0, x1, x2, x3, x4] (.int x :: st) h = if x = nI 0 then Run M_X9_costs 30 [x0, x1, x2, x3, x4] st h else Run M_X9_costs 20 [x0, x1, x2, x3, x4] st h := R_if_eq d_X9_costs_17 (by decide)
theorem d_X9_costs_20 : decode (mB M_X9_costs) 20 = .ok (.iload_n 3, 1) := by decide +kernel
theorem r_X9_costs_20 {x0 x1 x2 x4 : Value} {a : Int32} {st : List Value} {h : AH} : Run M_X9_costs 20 [x0, x1, x2, .int a, x4] st h = Run M_X9_costs 21 [x0, x1, x2, .int a, x4] (.int a :: st) h := R_iload_n d_X9_costs_20 rfl
theorem d_X9_costs_21 : decode (mB M_X9_costs) 21 = .ok (.iconst 0, 1) := by decide +kernel
theorem r_X9_costs_21 {x0 x1 x2 x3 x4 : Value} {st : List Value} {h : AH} : Run M_X9_costs 21 [x0, x1, x2, x3, x4] st h = Run M_X9_costs 22 [x0, x1, x2, x3, x4] (.int (nI 0) :: st) h := R_iconst d_X9_costs_21 (by decide)
theorem d_X9_costs_22 : decode (mB M_X9_costs) 22 = .ok (.bipush 20, 2) := by decide +kernel
theorem r_X9_costs_22 {x0 x1 x2 x3 x4 : Value} {st : List Value} {h : AH} : Run M_X9_costs 22 [x0, x1, x2, x3, x4] st h = Run M_X9_costs 24 [x0, x1, x2, x3, x4] (.int (nI 20) :: st) h := R_bipush d_X9_costs_22 (by decide)
theorem d_X9_costs_24 : decode (mB M_X9_costs) 24 = .ok (.invokestatic 85, 3) := by decide +kernel
theorem r_X9_costs_24 {x0 x1 x2 x3 x4 : Value} {p0 : Int32} {p1 : Int32} {p2 : Int32} {h : AH} : Run M_X9_costs 24 [x0, x1, x2, x3, x4] (.int p2 :: .int p1 :: .int p0 :: []) h = if (Call M_X9_in h [.int p0, .int p1, .int p2]).isSome = true then Run M_X9_costs 27 [x0, x1, x2, x3, x4] (rL (Call M_X9_in h [.int p0, .int p1, .int p2]) ++ []) (cH (Call M_X9_in h [.int p0, .int p1, .int p2])) else none := R_stat d_X9_costs_24 rfl rfl rfl rfl (Nat.le_of_ble_eq_true rfl)
theorem d_X9_costs_27 : decode (mB M_X9_costs) 27 = .ok (.ifCond .ne 6, 3) := by decide +kernel
theorem r_X9_costs_27 {x0 x1 x2 x3 x4 : Value} {x : Int32} {st : List Value} {h : AH} : Run M_X9_costs 27 [x0, x1, x2, x3, x4] (.int x :: st) h = if x = nI 0 then Run M_X9_costs 30 [x0, x1, x2, x3, x4] st h else Run M_X9_costs 33 [x0, x1, x2, x3, x4] st h := R_if_ne d_X9_costs_27 (by decide)
theorem d_X9_costs_30 : decode (mB M_X9_costs) 30 = .ok (.ldc 92, 2) := by decide +kernel
theorem r_X9_costs_30 {x0 x1 x2 x3 x4 : Value} {st : List Value} {h : AH} : Run M_X9_costs 30 [x0, x1, x2, x3, x4] st h = Run M_X9_costs 32 [x0, x1, x2, x3, x4] (.int (-1000000002) :: st) h := R_ldc d_X9_costs_30 (by decide)
theorem d_X9_costs_32 : decode (mB M_X9_costs) 32 = .ok (.ireturn, 1) := by decide +kernel
theorem r_X9_costs_32 {x0 x1 x2 x3 x4 : Value} {v : Int32} {h : AH} : Run M_X9_costs 32 [x0, x1, x2, x3, x4] [.int v] h = some (h, some (.int v)) := R_ireturn d_X9_costs_32 rfl rfl
theorem d_X9_costs_33 : decode (mB M_X9_costs) 33 = .ok (.aload_n 0, 1) := by decide +kernel
theorem r_X9_costs_33 {x1 x2 x3 x4 : Value} {a : Nat} {st : List Value} {h : AH} : Run M_X9_costs 33 [.ref a, x1, x2, x3, x4] st h = Run M_X9_costs 34 [.ref a, x1, x2, x3, x4] (.ref a :: st) h := R_aload_n d_X9_costs_33 rfl
theorem d_X9_costs_34 : decode (mB M_X9_costs) 34 = .ok (.getfield 7, 3) := by decide +kernel
theorem r_X9_costs_34 {x0 x1 x2 x3 x4 : Value} {a : Nat} {st : List Value} {h : AH} : Run M_X9_costs 34 [x0, x1, x2, x3, x4] (.ref a :: st) h = if (gF h a 9 0).isSome = true then Run M_X9_costs 37 [x0, x1, x2, x3, x4] ((gF h a 9 0).getD .null :: st) h else none := R_getfield d_X9_costs_34 rfl
theorem d_X9_costs_37 : decode (mB M_X9_costs) 37 = .ok (.iconst 0, 1) := by decide +kernel
theorem r_X9_costs_37 {x0 x1 x2 x3 x4 : Value} {st : List Value} {h : AH} : Run M_X9_costs 37 [x0, x1, x2, x3, x4] st h = Run M_X9_costs 38 [x0, x1, x2, x3, x4] (.int (nI 0) :: st) h := R_iconst d_X9_costs_37 (by decide)
theorem d_X9_costs_38 : decode (mB M_X9_costs) 38 = .ok (.iaload, 1) := by decide +kernel
theorem r_X9_costs_38 {x0 x1 x2 x3 x4 : Value} {a : Nat} {i : Int32} {st : List Value} {h : AH} : Run M_X9_costs 38 [x0, x1, x2, x3, x4] (.int i :: .ref a :: st) h = if (gI 0 h a i).isSome = true then Run M_X9_costs 39 [x0, x1, x2, x3, x4] (.int ((gI 0 h a i).getD 0) :: st) h else none := R_iaload d_X9_costs_38
theorem d_X9_costs_39 : decode (mB M_X9_costs) 39 = .ok (.istore 4, 2) := by decide +kernel
theorem r_X9_costs_39 {x0 x1 x2 x3 x4 : Value} {a : Int32} {st : List Value} {h : AH} (hc : x3.category = 1) : Run M_X9_costs 39 [x0, x1, x2, x3, x4] (.int a :: st) h = Run M_X9_costs 41 [x0, x1, x2, x3, .int a] st h := R_istore d_X9_costs_39 (Nat.lt_of_lt_of_le (by decide : 4 < 5) (Nat.le_refl 5)) (catP_of rfl hc)
theorem d_X9_costs_41 : decode (mB M_X9_costs) 41 = .ok (.aload_n 0, 1) := by decide +kernel
theorem r_X9_costs_41 {x1 x2 x3 x4 : Value} {a : Nat} {st : List Value} {h : AH} : Run M_X9_costs 41 [.ref a, x1, x2, x3, x4] st h = Run M_X9_costs 42 [.ref a, x1, x2, x3, x4] (.ref a :: st) h := R_aload_n d_X9_costs_41 rfl
theorem d_X9_costs_42 : decode (mB M_X9_costs) 42 = .ok (.getfield 7, 3) := by decide +kernel
theorem r_X9_costs_42 {x0 x1 x2 x3 x4 : Value} {a : Nat} {st : List Value} {h : AH} : Run M_X9_costs 42 [x0, x1, x2, x3, x4] (.ref a :: st) h = if (gF h a 9 0).isSome = true then Run M_X9_costs 45 [x0, x1, x2, x3, x4] ((gF h a 9 0).getD .null :: st) h else none := R_getfield d_X9_costs_42 rfl
theorem d_X9_costs_45 : decode (mB M_X9_costs) 45 = .ok (.iconst 0, 1) := by decide +kernel
theorem r_X9_costs_45 {x0 x1 x2 x3 x4 : Value} {st : List Value} {h : AH} : Run M_X9_costs 45 [x0, x1, x2, x3, x4] st h = Run M_X9_costs 46 [x0, x1, x2, x3, x4] (.int (nI 0) :: st) h := R_iconst d_X9_costs_45 (by decide)
theorem d_X9_costs_46 : decode (mB M_X9_costs) 46 = .ok (.iload_n 1, 1) := by decide +kernel
theorem r_X9_costs_46 {x0 x2 x3 x4 : Value} {a : Int32} {st : List Value} {h : AH} : Run M_X9_costs 46 [x0, .int a, x2, x3, x4] st h = Run M_X9_costs 47 [x0, .int a, x2, x3, x4] (.int a :: st) h := R_iload_n d_X9_costs_46 rfl
theorem d_X9_costs_47 : decode (mB M_X9_costs) 47 = .ok (.iastore, 1) := by decide +kernel
theorem r_X9_costs_47 {x0 x1 x2 x3 x4 : Value} {a : Nat} {i x : Int32} {st : List Value} {h : AH} : Run M_X9_costs 47 [x0, x1, x2, x3, x4] (.int x :: .int i :: .ref a :: st) h = if (pI 0 h a i x).isSome = true then Run M_X9_costs 48 [x0, x1, x2, x3, x4] st ((pI 0 h a i x).getD h) else none := R_iastore d_X9_costs_47
theorem d_X9_costs_48 : decode (mB M_X9_costs) 48 = .ok (.aload_n 0, 1) := by decide +kernel
theorem r_X9_costs_48 {x1 x2 x3 x4 : Value} {a : Nat} {st : List Value} {h : AH} : Run M_X9_costs 48 [.ref a, x1, x2, x3, x4] st h = Run M_X9_costs 49 [.ref a, x1, x2, x3, x4] (.ref a :: st) h := R_aload_n d_X9_costs_48 rfl
theorem d_X9_costs_49 : decode (mB M_X9_costs) 49 = .ok (.getfield 7, 3) := by decide +kernel
theorem r_X9_costs_49 {x0 x1 x2 x3 x4 : Value} {a : Nat} {st : List Value} {h : AH} : Run M_X9_costs 49 [x0, x1, x2, x3, x4] (.ref a :: st) h = if (gF h a 9 0).isSome = true then Run M_X9_costs 52 [x0, x1, x2, x3, x4] ((gF h a 9 0).getD .null :: st) h else none := R_getfield d_X9_costs_49 rfl
theorem d_X9_costs_52 : decode (mB M_X9_costs) 52 = .ok (.iconst 1, 1) := by decide +kernel
theorem r_X9_costs_52 {x0 x1 x2 x3 x4 : Value} {st : List Value} {h : AH} : Run M_X9_costs 52 [x0, x1, x2, x3, x4] st h = Run M_X9_costs 53 [x0, x1, x2, x3, x4] (.int (nI 1) :: st) h := R_iconst d_X9_costs_52 (by decide)
theorem d_X9_costs_53 : decode (mB M_X9_costs) 53 = .ok (.iload_n 2, 1) := by decide +kernel
theorem r_X9_costs_53 {x0 x1 x3 x4 : Value} {a : Int32} {st : List Value} {h : AH} : Run M_X9_costs 53 [x0, x1, .int a, x3, x4] st h = Run M_X9_costs 54 [x0, x1, .int a, x3, x4] (.int a :: st) h := R_iload_n d_X9_costs_53 rfl
theorem d_X9_costs_54 : decode (mB M_X9_costs) 54 = .ok (.iastore, 1) := by decide +kernel
theorem r_X9_costs_54 {x0 x1 x2 x3 x4 : Value} {a : Nat} {i x : Int32} {st : List Value} {h : AH} : Run M_X9_costs 54 [x0, x1, x2, x3, x4] (.int x :: .int i :: .ref a :: st) h = if (pI 0 h a i x).isSome = true then Run M_X9_costs 55 [x0, x1, x2, x3, x4] st ((pI 0 h a i x).getD h) else none := R_iastore d_X9_costs_54
theorem d_X9_costs_55 : decode (mB M_X9_costs) 55 = .ok (.aload_n 0, 1) := by decide +kernel
theorem r_X9_costs_55 {x1 x2 x3 x4 : Value} {a : Nat} {st : List Value} {h : AH} : Run M_X9_costs 55 [.ref a, x1, x2, x3, x4] st h = Run M_X9_costs 56 [.ref a, x1, x2, x3, x4] (.ref a :: st) h := R_aload_n d_X9_costs_55 rfl
theorem d_X9_costs_56 : decode (mB M_X9_costs) 56 = .ok (.getfield 7, 3) := by decide +kernel
theorem r_X9_costs_56 {x0 x1 x2 x3 x4 : Value} {a : Nat} {st : List Value} {h : AH} : Run M_X9_costs 56 [x0, x1, x2, x3, x4] (.ref a :: st) h = if (gF h a 9 0).isSome = true then Run M_X9_costs 59 [x0, x1, x2, x3, x4] ((gF h a 9 0).getD .null :: st) h else none := R_getfield d_X9_costs_56 rfl
theorem d_X9_costs_59 : decode (mB M_X9_costs) 59 = .ok (.iconst 2, 1) := by decide +kernel
theorem r_X9_costs_59 {x0 x1 x2 x3 x4 : Value} {st : List Value} {h : AH} : Run M_X9_costs 59 [x0, x1, x2, x3, x4] st h = Run M_X9_costs 60 [x0, x1, x2, x3, x4] (.int (nI 2) :: st) h := R_iconst d_X9_costs_59 (by decide)
theorem d_X9_costs_60 : decode (mB M_X9_costs) 60 = .ok (.iload_n 3, 1) := by decide +kernel
theorem r_X9_costs_60 {x0 x1 x2 x4 : Value} {a : Int32} {st : List Value} {h : AH} : Run M_X9_costs 60 [x0, x1, x2, .int a, x4] st h = Run M_X9_costs 61 [x0, x1, x2, .int a, x4] (.int a :: st) h := R_iload_n d_X9_costs_60 rfl
theorem d_X9_costs_61 : decode (mB M_X9_costs) 61 = .ok (.iastore, 1) := by decide +kernel
theorem r_X9_costs_61 {x0 x1 x2 x3 x4 : Value} {a : Nat} {i x : Int32} {st : List Value} {h : AH} : Run M_X9_costs 61 [x0, x1, x2, x3, x4] (.int x :: .int i :: .ref a :: st) h = if (pI 0 h a i x).isSome = true then Run M_X9_costs 62 [x0, x1, x2, x3, x4] st ((pI 0 h a i x).getD h) else none := R_iastore d_X9_costs_61
theorem d_X9_costs_62 : decode (mB M_X9_costs) 62 = .ok (.iload 4, 2) := by decide +kernel
theorem r_X9_costs_62 {x0 x1 x2 x3 : Value} {a : Int32} {st : List Value} {h : AH} : Run M_X9_costs 62 [x0, x1, x2, x3, .int a] st h = Run M_X9_costs 64 [x0, x1, x2, x3, .int a] (.int a :: st) h := R_iload d_X9_costs_62 rfl
theorem d_X9_costs_64 : decode (mB M_X9_costs) 64 = .ok (.ireturn, 1) := by decide +kernel
theorem r_X9_costs_64 {x0 x1 x2 x3 x4 : Value} {v : Int32} {h : AH} : Run M_X9_costs 64 [x0, x1, x2, x3, x4] [.int v] h = some (h, some (.int v)) := R_ireturn d_X9_costs_64 rfl rfl
theorem d_X9_sign_0 : decode (mB M_X9_sign) 0 = .ok (.iload_n 1, 1) := by decide +kernel
theorem r_X9_sign_0 {x0 x2 x3 : Value} {a : Int32} {st : List Value} {h : AH} : Run M_X9_sign 0 [x0, .int a, x2, x3] st h = Run M_X9_sign 1 [x0, .int a, x2, x3] (.int a :: st) h := R_iload_n d_X9_sign_0 rfl
theorem d_X9_sign_1 : decode (mB M_X9_sign) 1 = .ok (.iconst 0, 1) := by decide +kernel
theorem r_X9_sign_1 {x0 x1 x2 x3 : Value} {st : List Value} {h : AH} : Run M_X9_sign 1 [x0, x1, x2, x3] st h = Run M_X9_sign 2 [x0, x1, x2, x3] (.int (nI 0) :: st) h := R_iconst d_X9_sign_1 (by decide)
theorem d_X9_sign_2 : decode (mB M_X9_sign) 2 = .ok (.bipush 8, 2) := by decide +kernel
theorem r_X9_sign_2 {x0 x1 x2 x3 : Value} {st : List Value} {h : AH} : Run M_X9_sign 2 [x0, x1, x2, x3] st h = Run M_X9_sign 4 [x0, x1, x2, x3] (.int (nI 8) :: st) h := R_bipush d_X9_sign_2 (by decide)
theorem d_X9_sign_4 : decode (mB M_X9_sign) 4 = .ok (.invokestatic 85, 3) := by decide +kernel
theorem r_X9_sign_4 {x0 x1 x2 x3 : Value} {p0 : Int32} {p1 : Int32} {p2 : Int32} {h : AH} : Run M_X9_sign 4 [x0, x1, x2, x3] (.int p2 :: .int p1 :: .int p0 :: []) h = if (Call M_X9_in h [.int p0, .int p1, .int p2]).isSome = true then Run M_X9_sign 7 [x0, x1, x2, x3] (rL (Call M_X9_in h [.int p0, .int p1, .int p2]) ++ []) (cH (Call M_X9_in h [.int p0, .int p1, .int p2])) else none := R_stat d_X9_sign_4 rfl rfl rfl rfl (Nat.le_of_ble_eq_true rfl)
theorem d_X9_sign_7 : decode (mB M_X9_sign) 7 = .ok (.ifCond .eq 13, 3) := by decide +kernel
theorem r_X9_sign_7 {x0 x1 x2 x3 : Value} {x : Int32} {st : List Value} {h : AH} : Run M_X9_sign 7 [x0, x1, x2, x3] (.int x :: st) h = if x = nI 0 then Run M_X9_sign 20 [x0, x1, x2, x3] st h else Run M_X9_sign 10 [x0, x1, x2, x3] st h := R_if_eq d_X9_sign_7 (by decide)
theorem d_X9_sign_10 : decode (mB M_X9_sign) 10 = .ok (.iload_n 2, 1) := by decide +kernel
theorem r_X9_sign_10 {x0 x1 x3 : Value} {a : Int32} {st : List Value} {h : AH} : Run M_X9_sign 10 [x0, x1, .int a, x3] st h = Run M_X9_sign 11 [x0, x1, .int a, x3] (.int a :: st) h := R_iload_n d_X9_sign_10 rfl
theorem d_X9_sign_11 : decode (mB M_X9_sign) 11 = .ok (.iconst 0, 1) := by decide +kernel
theorem r_X9_sign_11 {x0 x1 x2 x3 : Value} {st : List Value} {h : AH} : Run M_X9_sign 11 [x0, x1, x2, x3] st h = Run M_X9_sign 12 [x0, x1, x2, x3] (.int (nI 0) :: st) h := R_iconst d_X9_sign_11 (by decide)
theorem d_X9_sign_12 : decode (mB M_X9_sign) 12 = .ok (.bipush 8, 2) := by decide +kernel
theorem r_X9_sign_12 {x0 x1 x2 x3 : Value} {st : List Value} {h : AH} : Run M_X9_sign 12 [x0, x1, x2, x3] st h = Run M_X9_sign 14 [x0, x1, x2, x3] (.int (nI 8) :: st) h := R_bipush d_X9_sign_12 (by decide)
theorem d_X9_sign_14 : decode (mB M_X9_sign) 14 = .ok (.invokestatic 85, 3) := by decide +kernel
theorem r_X9_sign_14 {x0 x1 x2 x3 : Value} {p0 : Int32} {p1 : Int32} {p2 : Int32} {h : AH} : Run M_X9_sign 14 [x0, x1, x2, x3] (.int p2 :: .int p1 :: .int p0 :: []) h = if (Call M_X9_in h [.int p0, .int p1, .int p2]).isSome = true then Run M_X9_sign 17 [x0, x1, x2, x3] (rL (Call M_X9_in h [.int p0, .int p1, .int p2]) ++ []) (cH (Call M_X9_in h [.int p0, .int p1, .int p2])) else none := R_stat d_X9_sign_14 rfl rfl rfl rfl (Nat.le_of_ble_eq_true rfl)
theorem d_X9_sign_17 : decode (mB M_X9_sign) 17 = .ok (.ifCond .ne 6, 3) := by decide +kernel
theorem r_X9_sign_17 {x0 x1 x2 x3 : Value} {x : Int32} {st : List Value} {h : AH} : Run M_X9_sign 17 [x0, x1, x2, x3] (.int x :: st) h = if x = nI 0 then Run M_X9_sign 20 [x0, x1, x2, x3] st h else Run M_X9_sign 23 [x0, x1, x2, x3] st h := R_if_ne d_X9_sign_17 (by decide)
theorem d_X9_sign_20 : decode (mB M_X9_sign) 20 = .ok (.ldc 92, 2) := by decide +kernel
theorem r_X9_sign_20 {x0 x1 x2 x3 : Value} {st : List Value} {h : AH} : Run M_X9_sign 20 [x0, x1, x2, x3] st h = Run M_X9_sign 22 [x0, x1, x2, x3] (.int (-1000000002) :: st) h := R_ldc d_X9_sign_20 (by decide)
theorem d_X9_sign_22 : decode (mB M_X9_sign) 22 = .ok (.ireturn, 1) := by decide +kernel
theorem r_X9_sign_22 {x0 x1 x2 x3 : Value} {v : Int32} {h : AH} : Run M_X9_sign 22 [x0, x1, x2, x3] [.int v] h = some (h, some (.int v)) := R_ireturn d_X9_sign_22 rfl rfl
theorem d_X9_sign_23 : decode (mB M_X9_sign) 23 = .ok (.aload_n 0, 1) := by decide +kernel
theorem r_X9_sign_23 {x1 x2 x3 : Value} {a : Nat} {st : List Value} {h : AH} : Run M_X9_sign 23 [.ref a, x1, x2, x3] st h = Run M_X9_sign 24 [.ref a, x1, x2, x3] (.ref a :: st) h := R_aload_n d_X9_sign_23 rfl
theorem d_X9_sign_24 : decode (mB M_X9_sign) 24 = .ok (.getfield 7, 3) := by decide +kernel
theorem r_X9_sign_24 {x0 x1 x2 x3 : Value} {a : Nat} {st : List Value} {h : AH} : Run M_X9_sign 24 [x0, x1, x2, x3] (.ref a :: st) h = if (gF h a 9 0).isSome = true then Run M_X9_sign 27 [x0, x1, x2, x3] ((gF h a 9 0).getD .null :: st) h else none := R_getfield d_X9_sign_24 rfl
theorem d_X9_sign_27 : decode (mB M_X9_sign) 27 = .ok (.iconst 3, 1) := by decide +kernel
theorem r_X9_sign_27 {x0 x1 x2 x3 : Value} {st : List Value} {h : AH} : Run M_X9_sign 27 [x0, x1, x2, x3] st h = Run M_X9_sign 28 [x0, x1, x2, x3] (.int (nI 3) :: st) h := R_iconst d_X9_sign_27 (by decide)
theorem d_X9_sign_28 : decode (mB M_X9_sign) 28 = .ok (.iaload, 1) := by decide +kernel
theorem r_X9_sign_28 {x0 x1 x2 x3 : Value} {a : Nat} {i : Int32} {st : List Value} {h : AH} : Run M_X9_sign 28 [x0, x1, x2, x3] (.int i :: .ref a :: st) h = if (gI 0 h a i).isSome = true then Run M_X9_sign 29 [x0, x1, x2, x3] (.int ((gI 0 h a i).getD 0) :: st) h else none := R_iaload d_X9_sign_28
theorem d_X9_sign_29 : decode (mB M_X9_sign) 29 = .ok (.istore_n 3, 1) := by decide +kernel
theorem r_X9_sign_29 {x0 x1 x2 x3 : Value} {a : Int32} {st : List Value} {h : AH} (hc : x2.category = 1) : Run M_X9_sign 29 [x0, x1, x2, x3] (.int a :: st) h = Run M_X9_sign 30 [x0, x1, x2, .int a] st h := R_istore_n d_X9_sign_29 (Nat.lt_of_lt_of_le (by decide : 3 < 4) (Nat.le_refl 4)) (catP_of rfl hc)
theorem d_X9_sign_30 : decode (mB M_X9_sign) 30 = .ok (.aload_n 0, 1) := by decide +kernel
theorem r_X9_sign_30 {x1 x2 x3 : Value} {a : Nat} {st : List Value} {h : AH} : Run M_X9_sign 30 [.ref a, x1, x2, x3] st h = Run M_X9_sign 31 [.ref a, x1, x2, x3] (.ref a :: st) h := R_aload_n d_X9_sign_30 rfl
theorem d_X9_sign_31 : decode (mB M_X9_sign) 31 = .ok (.getfield 7, 3) := by decide +kernel
theorem r_X9_sign_31 {x0 x1 x2 x3 : Value} {a : Nat} {st : List Value} {h : AH} : Run M_X9_sign 31 [x0, x1, x2, x3] (.ref a :: st) h = if (gF h a 9 0).isSome = true then Run M_X9_sign 34 [x0, x1, x2, x3] ((gF h a 9 0).getD .null :: st) h else none := R_getfield d_X9_sign_31 rfl
theorem d_X9_sign_34 : decode (mB M_X9_sign) 34 = .ok (.iconst 3, 1) := by decide +kernel
theorem r_X9_sign_34 {x0 x1 x2 x3 : Value} {st : List Value} {h : AH} : Run M_X9_sign 34 [x0, x1, x2, x3] st h = Run M_X9_sign 35 [x0, x1, x2, x3] (.int (nI 3) :: st) h := R_iconst d_X9_sign_34 (by decide)
theorem d_X9_sign_35 : decode (mB M_X9_sign) 35 = .ok (.iload_n 1, 1) := by decide +kernel
theorem r_X9_sign_35 {x0 x2 x3 : Value} {a : Int32} {st : List Value} {h : AH} : Run M_X9_sign 35 [x0, .int a, x2, x3] st h = Run M_X9_sign 36 [x0, .int a, x2, x3] (.int a :: st) h := R_iload_n d_X9_sign_35 rfl
theorem d_X9_sign_36 : decode (mB M_X9_sign) 36 = .ok (.iastore, 1) := by decide +kernel
theorem r_X9_sign_36 {x0 x1 x2 x3 : Value} {a : Nat} {i x : Int32} {st : List Value} {h : AH} : Run M_X9_sign 36 [x0, x1, x2, x3] (.int x :: .int i :: .ref a :: st) h = if (pI 0 h a i x).isSome = true then Run M_X9_sign 37 [x0, x1, x2, x3] st ((pI 0 h a i x).getD h) else none := R_iastore d_X9_sign_36
theorem d_X9_sign_37 : decode (mB M_X9_sign) 37 = .ok (.aload_n 0, 1) := by decide +kernel
theorem r_X9_sign_37 {x1 x2 x3 : Value} {a : Nat} {st : List Value} {h : AH} : Run M_X9_sign 37 [.ref a, x1, x2, x3] st h = Run M_X9_sign 38 [.ref a, x1, x2, x3] (.ref a :: st) h := R_aload_n d_X9_sign_37 rfl
theorem d_X9_sign_38 : decode (mB M_X9_sign) 38 = .ok (.getfield 7, 3) := by decide +kernel
theorem r_X9_sign_38 {x0 x1 x2 x3 : Value} {a : Nat} {st : List Value} {h : AH} : Run M_X9_sign 38 [x0, x1, x2, x3] (.ref a :: st) h = if (gF h a 9 0).isSome = true then Run M_X9_sign 41 [x0, x1, x2, x3] ((gF h a 9 0).getD .null :: st) h else none := R_getfield d_X9_sign_38 rfl
theorem d_X9_sign_41 : decode (mB M_X9_sign) 41 = .ok (.iconst 4, 1) := by decide +kernel
theorem r_X9_sign_41 {x0 x1 x2 x3 : Value} {st : List Value} {h : AH} : Run M_X9_sign 41 [x0, x1, x2, x3] st h = Run M_X9_sign 42 [x0, x1, x2, x3] (.int (nI 4) :: st) h := R_iconst d_X9_sign_41 (by decide)
theorem d_X9_sign_42 : decode (mB M_X9_sign) 42 = .ok (.iload_n 2, 1) := by decide +kernel
theorem r_X9_sign_42 {x0 x1 x3 : Value} {a : Int32} {st : List Value} {h : AH} : Run M_X9_sign 42 [x0, x1, .int a, x3] st h = Run M_X9_sign 43 [x0, x1, .int a, x3] (.int a :: st) h := R_iload_n d_X9_sign_42 rfl
theorem d_X9_sign_43 : decode (mB M_X9_sign) 43 = .ok (.iastore, 1) := by decide +kernel
theorem r_X9_sign_43 {x0 x1 x2 x3 : Value} {a : Nat} {i x : Int32} {st : List Value} {h : AH} : Run M_X9_sign 43 [x0, x1, x2, x3] (.int x :: .int i :: .ref a :: st) h = if (pI 0 h a i x).isSome = true then Run M_X9_sign 44 [x0, x1, x2, x3] st ((pI 0 h a i x).getD h) else none := R_iastore d_X9_sign_43
theorem d_X9_sign_44 : decode (mB M_X9_sign) 44 = .ok (.iload_n 3, 1) := by decide +kernel
theorem r_X9_sign_44 {x0 x1 x2 : Value} {a : Int32} {st : List Value} {h : AH} : Run M_X9_sign 44 [x0, x1, x2, .int a] st h = Run M_X9_sign 45 [x0, x1, x2, .int a] (.int a :: st) h := R_iload_n d_X9_sign_44 rfl
theorem d_X9_sign_45 : decode (mB M_X9_sign) 45 = .ok (.ireturn, 1) := by decide +kernel
theorem r_X9_sign_45 {x0 x1 x2 x3 : Value} {v : Int32} {h : AH} : Run M_X9_sign 45 [x0, x1, x2, x3] [.int v] h = some (h, some (.int v)) := R_ireturn d_X9_sign_45 rfl rfl
theorem d_X9_lags_0 : decode (mB M_X9_lags) 0 = .ok (.aload_n 0, 1) := by decide +kernel
theorem r_X9_lags_0 {x1 x2 x3 x4 : Value} {a : Nat} {st : List Value} {h : AH} : Run M_X9_lags 0 [.ref a, x1, x2, x3, x4] st h = Run M_X9_lags 1 [.ref a, x1, x2, x3, x4] (.ref a :: st) h := R_aload_n d_X9_lags_0 rfl
theorem d_X9_lags_1 : decode (mB M_X9_lags) 1 = .ok (.iload_n 1, 1) := by decide +kernel
theorem r_X9_lags_1 {x0 x2 x3 x4 : Value} {a : Int32} {st : List Value} {h : AH} : Run M_X9_lags 1 [x0, .int a, x2, x3, x4] st h = Run M_X9_lags 2 [x0, .int a, x2, x3, x4] (.int a :: st) h := R_iload_n d_X9_lags_1 rfl
theorem d_X9_lags_2 : decode (mB M_X9_lags) 2 = .ok (.invokevirtual 196, 3) := by decide +kernel
theorem r_X9_lags_2 {x0 x1 x2 x3 x4 : Value} {p0 : Int32} {a : Nat} {h : AH} : Run M_X9_lags 2 [x0, x1, x2, x3, x4] (.int p0 :: .ref a :: []) h = if refO h 9 (some (.ref a)) = true then (if (Call M_X9_isPlayer h [.ref a, .int p0]).isSome = true then Run M_X9_lags 5 [x0, x1, x2, x3, x4] (rL (Call M_X9_isPlayer h [.ref a, .int p0]) ++ []) (cH (Call M_X9_isPlayer h [.ref a, .int p0])) else none) else none := R_virt d_X9_lags_2 rfl rfl rfl rfl rfl (Nat.le_of_ble_eq_true rfl)
theorem d_X9_lags_5 : decode (mB M_X9_lags) 5 = .ok (.ifCond .ne 6, 3) := by decide +kernel
theorem r_X9_lags_5 {x0 x1 x2 x3 x4 : Value} {x : Int32} {st : List Value} {h : AH} : Run M_X9_lags 5 [x0, x1, x2, x3, x4] (.int x :: st) h = if x = nI 0 then Run M_X9_lags 8 [x0, x1, x2, x3, x4] st h else Run M_X9_lags 11 [x0, x1, x2, x3, x4] st h := R_if_ne d_X9_lags_5 (by decide)
theorem d_X9_lags_8 : decode (mB M_X9_lags) 8 = .ok (.ldc 195, 2) := by decide +kernel
theorem r_X9_lags_8 {x0 x1 x2 x3 x4 : Value} {st : List Value} {h : AH} : Run M_X9_lags 8 [x0, x1, x2, x3, x4] st h = Run M_X9_lags 10 [x0, x1, x2, x3, x4] (.int (-1000000001) :: st) h := R_ldc d_X9_lags_8 (by decide)
theorem d_X9_lags_10 : decode (mB M_X9_lags) 10 = .ok (.ireturn, 1) := by decide +kernel
theorem r_X9_lags_10 {x0 x1 x2 x3 x4 : Value} {v : Int32} {h : AH} : Run M_X9_lags 10 [x0, x1, x2, x3, x4] [.int v] h = some (h, some (.int v)) := R_ireturn d_X9_lags_10 rfl rfl
theorem d_X9_lags_11 : decode (mB M_X9_lags) 11 = .ok (.iload_n 2, 1) := by decide +kernel
theorem r_X9_lags_11 {x0 x1 x3 x4 : Value} {a : Int32} {st : List Value} {h : AH} : Run M_X9_lags 11 [x0, x1, .int a, x3, x4] st h = Run M_X9_lags 12 [x0, x1, .int a, x3, x4] (.int a :: st) h := R_iload_n d_X9_lags_11 rfl
theorem d_X9_lags_12 : decode (mB M_X9_lags) 12 = .ok (.iconst 0, 1) := by decide +kernel
theorem r_X9_lags_12 {x0 x1 x2 x3 x4 : Value} {st : List Value} {h : AH} : Run M_X9_lags 12 [x0, x1, x2, x3, x4] st h = Run M_X9_lags 13 [x0, x1, x2, x3, x4] (.int (nI 0) :: st) h := R_iconst d_X9_lags_12 (by decide)
theorem d_X9_lags_13 : decode (mB M_X9_lags) 13 = .ok (.bipush 30, 2) := by decide +kernel
theorem r_X9_lags_13 {x0 x1 x2 x3 x4 : Value} {st : List Value} {h : AH} : Run M_X9_lags 13 [x0, x1, x2, x3, x4] st h = Run M_X9_lags 15 [x0, x1, x2, x3, x4] (.int (nI 30) :: st) h := R_bipush d_X9_lags_13 (by decide)
theorem d_X9_lags_15 : decode (mB M_X9_lags) 15 = .ok (.invokestatic 85, 3) := by decide +kernel
theorem r_X9_lags_15 {x0 x1 x2 x3 x4 : Value} {p0 : Int32} {p1 : Int32} {p2 : Int32} {h : AH} : Run M_X9_lags 15 [x0, x1, x2, x3, x4] (.int p2 :: .int p1 :: .int p0 :: []) h = if (Call M_X9_in h [.int p0, .int p1, .int p2]).isSome = true then Run M_X9_lags 18 [x0, x1, x2, x3, x4] (rL (Call M_X9_in h [.int p0, .int p1, .int p2]) ++ []) (cH (Call M_X9_in h [.int p0, .int p1, .int p2])) else none := R_stat d_X9_lags_15 rfl rfl rfl rfl (Nat.le_of_ble_eq_true rfl)
theorem d_X9_lags_18 : decode (mB M_X9_lags) 18 = .ok (.ifCond .eq 13, 3) := by decide +kernel
theorem r_X9_lags_18 {x0 x1 x2 x3 x4 : Value} {x : Int32} {st : List Value} {h : AH} : Run M_X9_lags 18 [x0, x1, x2, x3, x4] (.int x :: st) h = if x = nI 0 then Run M_X9_lags 31 [x0, x1, x2, x3, x4] st h else Run M_X9_lags 21 [x0, x1, x2, x3, x4] st h := R_if_eq d_X9_lags_18 (by decide)
theorem d_X9_lags_21 : decode (mB M_X9_lags) 21 = .ok (.iload_n 3, 1) := by decide +kernel
theorem r_X9_lags_21 {x0 x1 x2 x4 : Value} {a : Int32} {st : List Value} {h : AH} : Run M_X9_lags 21 [x0, x1, x2, .int a, x4] st h = Run M_X9_lags 22 [x0, x1, x2, .int a, x4] (.int a :: st) h := R_iload_n d_X9_lags_21 rfl
theorem d_X9_lags_22 : decode (mB M_X9_lags) 22 = .ok (.iconst 0, 1) := by decide +kernel
theorem r_X9_lags_22 {x0 x1 x2 x3 x4 : Value} {st : List Value} {h : AH} : Run M_X9_lags 22 [x0, x1, x2, x3, x4] st h = Run M_X9_lags 23 [x0, x1, x2, x3, x4] (.int (nI 0) :: st) h := R_iconst d_X9_lags_22 (by decide)
theorem d_X9_lags_23 : decode (mB M_X9_lags) 23 = .ok (.bipush 30, 2) := by decide +kernel
theorem r_X9_lags_23 {x0 x1 x2 x3 x4 : Value} {st : List Value} {h : AH} : Run M_X9_lags 23 [x0, x1, x2, x3, x4] st h = Run M_X9_lags 25 [x0, x1, x2, x3, x4] (.int (nI 30) :: st) h := R_bipush d_X9_lags_23 (by decide)
theorem d_X9_lags_25 : decode (mB M_X9_lags) 25 = .ok (.invokestatic 85, 3) := by decide +kernel
theorem r_X9_lags_25 {x0 x1 x2 x3 x4 : Value} {p0 : Int32} {p1 : Int32} {p2 : Int32} {h : AH} : Run M_X9_lags 25 [x0, x1, x2, x3, x4] (.int p2 :: .int p1 :: .int p0 :: []) h = if (Call M_X9_in h [.int p0, .int p1, .int p2]).isSome = true then Run M_X9_lags 28 [x0, x1, x2, x3, x4] (rL (Call M_X9_in h [.int p0, .int p1, .int p2]) ++ []) (cH (Call M_X9_in h [.int p0, .int p1, .int p2])) else none := R_stat d_X9_lags_25 rfl rfl rfl rfl (Nat.le_of_ble_eq_true rfl)
theorem d_X9_lags_28 : decode (mB M_X9_lags) 28 = .ok (.ifCond .ne 6, 3) := by decide +kernel
theorem r_X9_lags_28 {x0 x1 x2 x3 x4 : Value} {x : Int32} {st : List Value} {h : AH} : Run M_X9_lags 28 [x0, x1, x2, x3, x4] (.int x :: st) h = if x = nI 0 then Run M_X9_lags 31 [x0, x1, x2, x3, x4] st h else Run M_X9_lags 34 [x0, x1, x2, x3, x4] st h := R_if_ne d_X9_lags_28 (by decide)
theorem d_X9_lags_31 : decode (mB M_X9_lags) 31 = .ok (.ldc 92, 2) := by decide +kernel
theorem r_X9_lags_31 {x0 x1 x2 x3 x4 : Value} {st : List Value} {h : AH} : Run M_X9_lags 31 [x0, x1, x2, x3, x4] st h = Run M_X9_lags 33 [x0, x1, x2, x3, x4] (.int (-1000000002) :: st) h := R_ldc d_X9_lags_31 (by decide)
theorem d_X9_lags_33 : decode (mB M_X9_lags) 33 = .ok (.ireturn, 1) := by decide +kernel
theorem r_X9_lags_33 {x0 x1 x2 x3 x4 : Value} {v : Int32} {h : AH} : Run M_X9_lags 33 [x0, x1, x2, x3, x4] [.int v] h = some (h, some (.int v)) := R_ireturn d_X9_lags_33 rfl rfl
theorem d_X9_lags_34 : decode (mB M_X9_lags) 34 = .ok (.aload_n 0, 1) := by decide +kernel
theorem r_X9_lags_34 {x1 x2 x3 x4 : Value} {a : Nat} {st : List Value} {h : AH} : Run M_X9_lags 34 [.ref a, x1, x2, x3, x4] st h = Run M_X9_lags 35 [.ref a, x1, x2, x3, x4] (.ref a :: st) h := R_aload_n d_X9_lags_34 rfl
theorem d_X9_lags_35 : decode (mB M_X9_lags) 35 = .ok (.getfield 7, 3) := by decide +kernel
theorem r_X9_lags_35 {x0 x1 x2 x3 x4 : Value} {a : Nat} {st : List Value} {h : AH} : Run M_X9_lags 35 [x0, x1, x2, x3, x4] (.ref a :: st) h = if (gF h a 9 0).isSome = true then Run M_X9_lags 38 [x0, x1, x2, x3, x4] ((gF h a 9 0).getD .null :: st) h else none := R_getfield d_X9_lags_35 rfl
theorem d_X9_lags_38 : decode (mB M_X9_lags) 38 = .ok (.iconst 5, 1) := by decide +kernel
theorem r_X9_lags_38 {x0 x1 x2 x3 x4 : Value} {st : List Value} {h : AH} : Run M_X9_lags 38 [x0, x1, x2, x3, x4] st h = Run M_X9_lags 39 [x0, x1, x2, x3, x4] (.int (nI 5) :: st) h := R_iconst d_X9_lags_38 (by decide)
theorem d_X9_lags_39 : decode (mB M_X9_lags) 39 = .ok (.iconst 2, 1) := by decide +kernel
theorem r_X9_lags_39 {x0 x1 x2 x3 x4 : Value} {st : List Value} {h : AH} : Run M_X9_lags 39 [x0, x1, x2, x3, x4] st h = Run M_X9_lags 40 [x0, x1, x2, x3, x4] (.int (nI 2) :: st) h := R_iconst d_X9_lags_39 (by decide)
theorem d_X9_lags_40 : decode (mB M_X9_lags) 40 = .ok (.iload_n 1, 1) := by decide +kernel
theorem r_X9_lags_40 {x0 x2 x3 x4 : Value} {a : Int32} {st : List Value} {h : AH} : Run M_X9_lags 40 [x0, .int a, x2, x3, x4] st h = Run M_X9_lags 41 [x0, .int a, x2, x3, x4] (.int a :: st) h := R_iload_n d_X9_lags_40 rfl
theorem d_X9_lags_41 : decode (mB M_X9_lags) 41 = .ok (.imul, 1) := by decide +kernel
theorem r_X9_lags_41 {x0 x1 x2 x3 x4 : Value} {x y : Int32} {st : List Value} {h : AH} : Run M_X9_lags 41 [x0, x1, x2, x3, x4] (.int y :: .int x :: st) h = Run M_X9_lags 42 [x0, x1, x2, x3, x4] (.int (x * y) :: st) h := R_imul d_X9_lags_41
theorem d_X9_lags_42 : decode (mB M_X9_lags) 42 = .ok (.iadd, 1) := by decide +kernel
theorem r_X9_lags_42 {x0 x1 x2 x3 x4 : Value} {x y : Int32} {st : List Value} {h : AH} : Run M_X9_lags 42 [x0, x1, x2, x3, x4] (.int y :: .int x :: st) h = Run M_X9_lags 43 [x0, x1, x2, x3, x4] (.int (x + y) :: st) h := R_iadd d_X9_lags_42
theorem d_X9_lags_43 : decode (mB M_X9_lags) 43 = .ok (.iaload, 1) := by decide +kernel
theorem r_X9_lags_43 {x0 x1 x2 x3 x4 : Value} {a : Nat} {i : Int32} {st : List Value} {h : AH} : Run M_X9_lags 43 [x0, x1, x2, x3, x4] (.int i :: .ref a :: st) h = if (gI 0 h a i).isSome = true then Run M_X9_lags 44 [x0, x1, x2, x3, x4] (.int ((gI 0 h a i).getD 0) :: st) h else none := R_iaload d_X9_lags_43
theorem d_X9_lags_44 : decode (mB M_X9_lags) 44 = .ok (.istore 4, 2) := by decide +kernel
theorem r_X9_lags_44 {x0 x1 x2 x3 x4 : Value} {a : Int32} {st : List Value} {h : AH} (hc : x3.category = 1) : Run M_X9_lags 44 [x0, x1, x2, x3, x4] (.int a :: st) h = Run M_X9_lags 46 [x0, x1, x2, x3, .int a] st h := R_istore d_X9_lags_44 (Nat.lt_of_lt_of_le (by decide : 4 < 5) (Nat.le_refl 5)) (catP_of rfl hc)
theorem d_X9_lags_46 : decode (mB M_X9_lags) 46 = .ok (.aload_n 0, 1) := by decide +kernel
theorem r_X9_lags_46 {x1 x2 x3 x4 : Value} {a : Nat} {st : List Value} {h : AH} : Run M_X9_lags 46 [.ref a, x1, x2, x3, x4] st h = Run M_X9_lags 47 [.ref a, x1, x2, x3, x4] (.ref a :: st) h := R_aload_n d_X9_lags_46 rfl
theorem d_X9_lags_47 : decode (mB M_X9_lags) 47 = .ok (.getfield 7, 3) := by decide +kernel
theorem r_X9_lags_47 {x0 x1 x2 x3 x4 : Value} {a : Nat} {st : List Value} {h : AH} : Run M_X9_lags 47 [x0, x1, x2, x3, x4] (.ref a :: st) h = if (gF h a 9 0).isSome = true then Run M_X9_lags 50 [x0, x1, x2, x3, x4] ((gF h a 9 0).getD .null :: st) h else none := R_getfield d_X9_lags_47 rfl
theorem d_X9_lags_50 : decode (mB M_X9_lags) 50 = .ok (.iconst 5, 1) := by decide +kernel
theorem r_X9_lags_50 {x0 x1 x2 x3 x4 : Value} {st : List Value} {h : AH} : Run M_X9_lags 50 [x0, x1, x2, x3, x4] st h = Run M_X9_lags 51 [x0, x1, x2, x3, x4] (.int (nI 5) :: st) h := R_iconst d_X9_lags_50 (by decide)
theorem d_X9_lags_51 : decode (mB M_X9_lags) 51 = .ok (.iconst 2, 1) := by decide +kernel
theorem r_X9_lags_51 {x0 x1 x2 x3 x4 : Value} {st : List Value} {h : AH} : Run M_X9_lags 51 [x0, x1, x2, x3, x4] st h = Run M_X9_lags 52 [x0, x1, x2, x3, x4] (.int (nI 2) :: st) h := R_iconst d_X9_lags_51 (by decide)
theorem d_X9_lags_52 : decode (mB M_X9_lags) 52 = .ok (.iload_n 1, 1) := by decide +kernel
theorem r_X9_lags_52 {x0 x2 x3 x4 : Value} {a : Int32} {st : List Value} {h : AH} : Run M_X9_lags 52 [x0, .int a, x2, x3, x4] st h = Run M_X9_lags 53 [x0, .int a, x2, x3, x4] (.int a :: st) h := R_iload_n d_X9_lags_52 rfl
theorem d_X9_lags_53 : decode (mB M_X9_lags) 53 = .ok (.imul, 1) := by decide +kernel
theorem r_X9_lags_53 {x0 x1 x2 x3 x4 : Value} {x y : Int32} {st : List Value} {h : AH} : Run M_X9_lags 53 [x0, x1, x2, x3, x4] (.int y :: .int x :: st) h = Run M_X9_lags 54 [x0, x1, x2, x3, x4] (.int (x * y) :: st) h := R_imul d_X9_lags_53
theorem d_X9_lags_54 : decode (mB M_X9_lags) 54 = .ok (.iadd, 1) := by decide +kernel
theorem r_X9_lags_54 {x0 x1 x2 x3 x4 : Value} {x y : Int32} {st : List Value} {h : AH} : Run M_X9_lags 54 [x0, x1, x2, x3, x4] (.int y :: .int x :: st) h = Run M_X9_lags 55 [x0, x1, x2, x3, x4] (.int (x + y) :: st) h := R_iadd d_X9_lags_54
theorem d_X9_lags_55 : decode (mB M_X9_lags) 55 = .ok (.iload_n 2, 1) := by decide +kernel
theorem r_X9_lags_55 {x0 x1 x3 x4 : Value} {a : Int32} {st : List Value} {h : AH} : Run M_X9_lags 55 [x0, x1, .int a, x3, x4] st h = Run M_X9_lags 56 [x0, x1, .int a, x3, x4] (.int a :: st) h := R_iload_n d_X9_lags_55 rfl
theorem d_X9_lags_56 : decode (mB M_X9_lags) 56 = .ok (.iastore, 1) := by decide +kernel
theorem r_X9_lags_56 {x0 x1 x2 x3 x4 : Value} {a : Nat} {i x : Int32} {st : List Value} {h : AH} : Run M_X9_lags 56 [x0, x1, x2, x3, x4] (.int x :: .int i :: .ref a :: st) h = if (pI 0 h a i x).isSome = true then Run M_X9_lags 57 [x0, x1, x2, x3, x4] st ((pI 0 h a i x).getD h) else none := R_iastore d_X9_lags_56
theorem d_X9_lags_57 : decode (mB M_X9_lags) 57 = .ok (.aload_n 0, 1) := by decide +kernel
theorem r_X9_lags_57 {x1 x2 x3 x4 : Value} {a : Nat} {st : List Value} {h : AH} : Run M_X9_lags 57 [.ref a, x1, x2, x3, x4] st h = Run M_X9_lags 58 [.ref a, x1, x2, x3, x4] (.ref a :: st) h := R_aload_n d_X9_lags_57 rfl
theorem d_X9_lags_58 : decode (mB M_X9_lags) 58 = .ok (.getfield 7, 3) := by decide +kernel
theorem r_X9_lags_58 {x0 x1 x2 x3 x4 : Value} {a : Nat} {st : List Value} {h : AH} : Run M_X9_lags 58 [x0, x1, x2, x3, x4] (.ref a :: st) h = if (gF h a 9 0).isSome = true then Run M_X9_lags 61 [x0, x1, x2, x3, x4] ((gF h a 9 0).getD .null :: st) h else none := R_getfield d_X9_lags_58 rfl
theorem d_X9_lags_61 : decode (mB M_X9_lags) 61 = .ok (.iconst 5, 1) := by decide +kernel
theorem r_X9_lags_61 {x0 x1 x2 x3 x4 : Value} {st : List Value} {h : AH} : Run M_X9_lags 61 [x0, x1, x2, x3, x4] st h = Run M_X9_lags 62 [x0, x1, x2, x3, x4] (.int (nI 5) :: st) h := R_iconst d_X9_lags_61 (by decide)
theorem d_X9_lags_62 : decode (mB M_X9_lags) 62 = .ok (.iconst 2, 1) := by decide +kernel
theorem r_X9_lags_62 {x0 x1 x2 x3 x4 : Value} {st : List Value} {h : AH} : Run M_X9_lags 62 [x0, x1, x2, x3, x4] st h = Run M_X9_lags 63 [x0, x1, x2, x3, x4] (.int (nI 2) :: st) h := R_iconst d_X9_lags_62 (by decide)
theorem d_X9_lags_63 : decode (mB M_X9_lags) 63 = .ok (.iload_n 1, 1) := by decide +kernel
theorem r_X9_lags_63 {x0 x2 x3 x4 : Value} {a : Int32} {st : List Value} {h : AH} : Run M_X9_lags 63 [x0, .int a, x2, x3, x4] st h = Run M_X9_lags 64 [x0, .int a, x2, x3, x4] (.int a :: st) h := R_iload_n d_X9_lags_63 rfl
theorem d_X9_lags_64 : decode (mB M_X9_lags) 64 = .ok (.imul, 1) := by decide +kernel
theorem r_X9_lags_64 {x0 x1 x2 x3 x4 : Value} {x y : Int32} {st : List Value} {h : AH} : Run M_X9_lags 64 [x0, x1, x2, x3, x4] (.int y :: .int x :: st) h = Run M_X9_lags 65 [x0, x1, x2, x3, x4] (.int (x * y) :: st) h := R_imul d_X9_lags_64
theorem d_X9_lags_65 : decode (mB M_X9_lags) 65 = .ok (.iadd, 1) := by decide +kernel
theorem r_X9_lags_65 {x0 x1 x2 x3 x4 : Value} {x y : Int32} {st : List Value} {h : AH} : Run M_X9_lags 65 [x0, x1, x2, x3, x4] (.int y :: .int x :: st) h = Run M_X9_lags 66 [x0, x1, x2, x3, x4] (.int (x + y) :: st) h := R_iadd d_X9_lags_65
theorem d_X9_lags_66 : decode (mB M_X9_lags) 66 = .ok (.iconst 1, 1) := by decide +kernel
theorem r_X9_lags_66 {x0 x1 x2 x3 x4 : Value} {st : List Value} {h : AH} : Run M_X9_lags 66 [x0, x1, x2, x3, x4] st h = Run M_X9_lags 67 [x0, x1, x2, x3, x4] (.int (nI 1) :: st) h := R_iconst d_X9_lags_66 (by decide)
theorem d_X9_lags_67 : decode (mB M_X9_lags) 67 = .ok (.iadd, 1) := by decide +kernel
theorem r_X9_lags_67 {x0 x1 x2 x3 x4 : Value} {x y : Int32} {st : List Value} {h : AH} : Run M_X9_lags 67 [x0, x1, x2, x3, x4] (.int y :: .int x :: st) h = Run M_X9_lags 68 [x0, x1, x2, x3, x4] (.int (x + y) :: st) h := R_iadd d_X9_lags_67
theorem d_X9_lags_68 : decode (mB M_X9_lags) 68 = .ok (.iload_n 3, 1) := by decide +kernel
theorem r_X9_lags_68 {x0 x1 x2 x4 : Value} {a : Int32} {st : List Value} {h : AH} : Run M_X9_lags 68 [x0, x1, x2, .int a, x4] st h = Run M_X9_lags 69 [x0, x1, x2, .int a, x4] (.int a :: st) h := R_iload_n d_X9_lags_68 rfl
theorem d_X9_lags_69 : decode (mB M_X9_lags) 69 = .ok (.iastore, 1) := by decide +kernel
theorem r_X9_lags_69 {x0 x1 x2 x3 x4 : Value} {a : Nat} {i x : Int32} {st : List Value} {h : AH} : Run M_X9_lags 69 [x0, x1, x2, x3, x4] (.int x :: .int i :: .ref a :: st) h = if (pI 0 h a i x).isSome = true then Run M_X9_lags 70 [x0, x1, x2, x3, x4] st ((pI 0 h a i x).getD h) else none := R_iastore d_X9_lags_69
theorem d_X9_lags_70 : decode (mB M_X9_lags) 70 = .ok (.iload 4, 2) := by decide +kernel
theorem r_X9_lags_70 {x0 x1 x2 x3 : Value} {a : Int32} {st : List Value} {h : AH} : Run M_X9_lags 70 [x0, x1, x2, x3, .int a] st h = Run M_X9_lags 72 [x0, x1, x2, x3, .int a] (.int a :: st) h := R_iload d_X9_lags_70 rfl
theorem d_X9_lags_72 : decode (mB M_X9_lags) 72 = .ok (.ireturn, 1) := by decide +kernel
theorem r_X9_lags_72 {x0 x1 x2 x3 x4 : Value} {v : Int32} {h : AH} : Run M_X9_lags 72 [x0, x1, x2, x3, x4] [.int v] h = some (h, some (.int v)) := R_ireturn d_X9_lags_72 rfl rfl
theorem d_X9_lead_0 : decode (mB M_X9_lead) 0 = .ok (.iload_n 1, 1) := by decide +kernel
theorem r_X9_lead_0 {x0 x2 : Value} {a : Int32} {st : List Value} {h : AH} : Run M_X9_lead 0 [x0, .int a, x2] st h = Run M_X9_lead 1 [x0, .int a, x2] (.int a :: st) h := R_iload_n d_X9_lead_0 rfl
theorem d_X9_lead_1 : decode (mB M_X9_lead) 1 = .ok (.iconst 0, 1) := by decide +kernel
theorem r_X9_lead_1 {x0 x1 x2 : Value} {st : List Value} {h : AH} : Run M_X9_lead 1 [x0, x1, x2] st h = Run M_X9_lead 2 [x0, x1, x2] (.int (nI 0) :: st) h := R_iconst d_X9_lead_1 (by decide)
theorem d_X9_lead_2 : decode (mB M_X9_lead) 2 = .ok (.iconst 1, 1) := by decide +kernel
theorem r_X9_lead_2 {x0 x1 x2 : Value} {st : List Value} {h : AH} : Run M_X9_lead 2 [x0, x1, x2] st h = Run M_X9_lead 3 [x0, x1, x2] (.int (nI 1) :: st) h := R_iconst d_X9_lead_2 (by decide)
theorem d_X9_lead_3 : decode (mB M_X9_lead) 3 = .ok (.aload_n 0, 1) := by decide +kernel
theorem r_X9_lead_3 {x1 x2 : Value} {a : Nat} {st : List Value} {h : AH} : Run M_X9_lead 3 [.ref a, x1, x2] st h = Run M_X9_lead 4 [.ref a, x1, x2] (.ref a :: st) h := R_aload_n d_X9_lead_3 rfl
theorem d_X9_lead_4 : decode (mB M_X9_lead) 4 = .ok (.getfield 89, 3) := by decide +kernel
theorem r_X9_lead_4 {x0 x1 x2 : Value} {a : Nat} {st : List Value} {h : AH} : Run M_X9_lead 4 [x0, x1, x2] (.ref a :: st) h = if (gF h a 9 9).isSome = true then Run M_X9_lead 7 [x0, x1, x2] ((gF h a 9 9).getD .null :: st) h else none := R_getfield d_X9_lead_4 rfl
theorem d_X9_lead_7 : decode (mB M_X9_lead) 7 = .ok (.ishl, 1) := by decide +kernel
theorem r_X9_lead_7 {x0 x1 x2 : Value} {x y : Int32} {st : List Value} {h : AH} : Run M_X9_lead 7 [x0, x1, x2] (.int y :: .int x :: st) h = Run M_X9_lead 8 [x0, x1, x2] (.int (x <<< (y &&& 31)) :: st) h := R_ishl d_X9_lead_7
theorem d_X9_lead_8 : decode (mB M_X9_lead) 8 = .ok (.iconst 1, 1) := by decide +kernel
theorem r_X9_lead_8 {x0 x1 x2 : Value} {st : List Value} {h : AH} : Run M_X9_lead 8 [x0, x1, x2] st h = Run M_X9_lead 9 [x0, x1, x2] (.int (nI 1) :: st) h := R_iconst d_X9_lead_8 (by decide)
theorem d_X9_lead_9 : decode (mB M_X9_lead) 9 = .ok (.isub, 1) := by decide +kernel
theorem r_X9_lead_9 {x0 x1 x2 : Value} {x y : Int32} {st : List Value} {h : AH} : Run M_X9_lead 9 [x0, x1, x2] (.int y :: .int x :: st) h = Run M_X9_lead 10 [x0, x1, x2] (.int (x - y) :: st) h := R_isub d_X9_lead_9
theorem d_X9_lead_10 : decode (mB M_X9_lead) 10 = .ok (.invokestatic 85, 3) := by decide +kernel
theorem r_X9_lead_10 {x0 x1 x2 : Value} {p0 : Int32} {p1 : Int32} {p2 : Int32} {h : AH} : Run M_X9_lead 10 [x0, x1, x2] (.int p2 :: .int p1 :: .int p0 :: []) h = if (Call M_X9_in h [.int p0, .int p1, .int p2]).isSome = true then Run M_X9_lead 13 [x0, x1, x2] (rL (Call M_X9_in h [.int p0, .int p1, .int p2]) ++ []) (cH (Call M_X9_in h [.int p0, .int p1, .int p2])) else none := R_stat d_X9_lead_10 rfl rfl rfl rfl (Nat.le_of_ble_eq_true rfl)
theorem d_X9_lead_13 : decode (mB M_X9_lead) 13 = .ok (.ifCond .ne 6, 3) := by decide +kernel
theorem r_X9_lead_13 {x0 x1 x2 : Value} {x : Int32} {st : List Value} {h : AH} : Run M_X9_lead 13 [x0, x1, x2] (.int x :: st) h = if x = nI 0 then Run M_X9_lead 16 [x0, x1, x2] st h else Run M_X9_lead 19 [x0, x1, x2] st h := R_if_ne d_X9_lead_13 (by decide)
theorem d_X9_lead_16 : decode (mB M_X9_lead) 16 = .ok (.ldc 195, 2) := by decide +kernel
theorem r_X9_lead_16 {x0 x1 x2 : Value} {st : List Value} {h : AH} : Run M_X9_lead 16 [x0, x1, x2] st h = Run M_X9_lead 18 [x0, x1, x2] (.int (-1000000001) :: st) h := R_ldc d_X9_lead_16 (by decide)
theorem d_X9_lead_18 : decode (mB M_X9_lead) 18 = .ok (.ireturn, 1) := by decide +kernel
theorem r_X9_lead_18 {x0 x1 x2 : Value} {v : Int32} {h : AH} : Run M_X9_lead 18 [x0, x1, x2] [.int v] h = some (h, some (.int v)) := R_ireturn d_X9_lead_18 rfl rfl
theorem d_X9_lead_19 : decode (mB M_X9_lead) 19 = .ok (.aload_n 0, 1) := by decide +kernel
theorem r_X9_lead_19 {x1 x2 : Value} {a : Nat} {st : List Value} {h : AH} : Run M_X9_lead 19 [.ref a, x1, x2] st h = Run M_X9_lead 20 [.ref a, x1, x2] (.ref a :: st) h := R_aload_n d_X9_lead_19 rfl
theorem d_X9_lead_20 : decode (mB M_X9_lead) 20 = .ok (.getfield 7, 3) := by decide +kernel
theorem r_X9_lead_20 {x0 x1 x2 : Value} {a : Nat} {st : List Value} {h : AH} : Run M_X9_lead 20 [x0, x1, x2] (.ref a :: st) h = if (gF h a 9 0).isSome = true then Run M_X9_lead 23 [x0, x1, x2] ((gF h a 9 0).getD .null :: st) h else none := R_getfield d_X9_lead_20 rfl
theorem d_X9_lead_23 : decode (mB M_X9_lead) 23 = .ok (.bipush 15, 2) := by decide +kernel
theorem r_X9_lead_23 {x0 x1 x2 : Value} {st : List Value} {h : AH} : Run M_X9_lead 23 [x0, x1, x2] st h = Run M_X9_lead 25 [x0, x1, x2] (.int (nI 15) :: st) h := R_bipush d_X9_lead_23 (by decide)
theorem d_X9_lead_25 : decode (mB M_X9_lead) 25 = .ok (.iaload, 1) := by decide +kernel
theorem r_X9_lead_25 {x0 x1 x2 : Value} {a : Nat} {i : Int32} {st : List Value} {h : AH} : Run M_X9_lead 25 [x0, x1, x2] (.int i :: .ref a :: st) h = if (gI 0 h a i).isSome = true then Run M_X9_lead 26 [x0, x1, x2] (.int ((gI 0 h a i).getD 0) :: st) h else none := R_iaload d_X9_lead_25
theorem d_X9_lead_26 : decode (mB M_X9_lead) 26 = .ok (.istore_n 2, 1) := by decide +kernel
theorem r_X9_lead_26 {x0 x1 x2 : Value} {a : Int32} {st : List Value} {h : AH} (hc : x1.category = 1) : Run M_X9_lead 26 [x0, x1, x2] (.int a :: st) h = Run M_X9_lead 27 [x0, x1, .int a] st h := R_istore_n d_X9_lead_26 (Nat.lt_of_lt_of_le (by decide : 2 < 3) (Nat.le_refl 3)) (catP_of rfl hc)
theorem d_X9_lead_27 : decode (mB M_X9_lead) 27 = .ok (.aload_n 0, 1) := by decide +kernel
theorem r_X9_lead_27 {x1 x2 : Value} {a : Nat} {st : List Value} {h : AH} : Run M_X9_lead 27 [.ref a, x1, x2] st h = Run M_X9_lead 28 [.ref a, x1, x2] (.ref a :: st) h := R_aload_n d_X9_lead_27 rfl
theorem d_X9_lead_28 : decode (mB M_X9_lead) 28 = .ok (.getfield 7, 3) := by decide +kernel
theorem r_X9_lead_28 {x0 x1 x2 : Value} {a : Nat} {st : List Value} {h : AH} : Run M_X9_lead 28 [x0, x1, x2] (.ref a :: st) h = if (gF h a 9 0).isSome = true then Run M_X9_lead 31 [x0, x1, x2] ((gF h a 9 0).getD .null :: st) h else none := R_getfield d_X9_lead_28 rfl
theorem d_X9_lead_31 : decode (mB M_X9_lead) 31 = .ok (.bipush 15, 2) := by decide +kernel
theorem r_X9_lead_31 {x0 x1 x2 : Value} {st : List Value} {h : AH} : Run M_X9_lead 31 [x0, x1, x2] st h = Run M_X9_lead 33 [x0, x1, x2] (.int (nI 15) :: st) h := R_bipush d_X9_lead_31 (by decide)
theorem d_X9_lead_33 : decode (mB M_X9_lead) 33 = .ok (.iload_n 1, 1) := by decide +kernel
theorem r_X9_lead_33 {x0 x2 : Value} {a : Int32} {st : List Value} {h : AH} : Run M_X9_lead 33 [x0, .int a, x2] st h = Run M_X9_lead 34 [x0, .int a, x2] (.int a :: st) h := R_iload_n d_X9_lead_33 rfl
theorem d_X9_lead_34 : decode (mB M_X9_lead) 34 = .ok (.iastore, 1) := by decide +kernel
theorem r_X9_lead_34 {x0 x1 x2 : Value} {a : Nat} {i x : Int32} {st : List Value} {h : AH} : Run M_X9_lead 34 [x0, x1, x2] (.int x :: .int i :: .ref a :: st) h = if (pI 0 h a i x).isSome = true then Run M_X9_lead 35 [x0, x1, x2] st ((pI 0 h a i x).getD h) else none := R_iastore d_X9_lead_34
theorem d_X9_lead_35 : decode (mB M_X9_lead) 35 = .ok (.iload_n 2, 1) := by decide +kernel
theorem r_X9_lead_35 {x0 x1 : Value} {a : Int32} {st : List Value} {h : AH} : Run M_X9_lead 35 [x0, x1, .int a] st h = Run M_X9_lead 36 [x0, x1, .int a] (.int a :: st) h := R_iload_n d_X9_lead_35 rfl
theorem d_X9_lead_36 : decode (mB M_X9_lead) 36 = .ok (.ireturn, 1) := by decide +kernel
theorem r_X9_lead_36 {x0 x1 x2 : Value} {v : Int32} {h : AH} : Run M_X9_lead 36 [x0, x1, x2] [.int v] h = some (h, some (.int v)) := R_ireturn d_X9_lead_36 rfl rfl
theorem d_X9_draw_0 : decode (mB M_X9_draw) 0 = .ok (.aload_n 0, 1) := by decide +kernel
theorem r_X9_draw_0 {x1 : Value} {a : Nat} {st : List Value} {h : AH} : Run M_X9_draw 0 [.ref a, x1] st h = Run M_X9_draw 1 [.ref a, x1] (.ref a :: st) h := R_aload_n d_X9_draw_0 rfl
theorem d_X9_draw_1 : decode (mB M_X9_draw) 1 = .ok (.getfield 7, 3) := by decide +kernel
theorem r_X9_draw_1 {x0 x1 : Value} {a : Nat} {st : List Value} {h : AH} : Run M_X9_draw 1 [x0, x1] (.ref a :: st) h = if (gF h a 9 0).isSome = true then Run M_X9_draw 4 [x0, x1] ((gF h a 9 0).getD .null :: st) h else none := R_getfield d_X9_draw_1 rfl
theorem d_X9_draw_4 : decode (mB M_X9_draw) 4 = .ok (.bipush 18, 2) := by decide +kernel
theorem r_X9_draw_4 {x0 x1 : Value} {st : List Value} {h : AH} : Run M_X9_draw 4 [x0, x1] st h = Run M_X9_draw 6 [x0, x1] (.int (nI 18) :: st) h := R_bipush d_X9_draw_4 (by decide)
theorem d_X9_draw_6 : decode (mB M_X9_draw) 6 = .ok (.aload_n 0, 1) := by decide +kernel
theorem r_X9_draw_6 {x1 : Value} {a : Nat} {st : List Value} {h : AH} : Run M_X9_draw 6 [.ref a, x1] st h = Run M_X9_draw 7 [.ref a, x1] (.ref a :: st) h := R_aload_n d_X9_draw_6 rfl
theorem d_X9_draw_7 : decode (mB M_X9_draw) 7 = .ok (.getfield 7, 3) := by decide +kernel
theorem r_X9_draw_7 {x0 x1 : Value} {a : Nat} {st : List Value} {h : AH} : Run M_X9_draw 7 [x0, x1] (.ref a :: st) h = if (gF h a 9 0).isSome = true then Run M_X9_draw 10 [x0, x1] ((gF h a 9 0).getD .null :: st) h else none := R_getfield d_X9_draw_7 rfl
theorem d_X9_draw_10 : decode (mB M_X9_draw) 10 = .ok (.bipush 18, 2) := by decide +kernel
theorem r_X9_draw_10 {x0 x1 : Value} {st : List Value} {h : AH} : Run M_X9_draw 10 [x0, x1] st h = Run M_X9_draw 12 [x0, x1] (.int (nI 18) :: st) h := R_bipush d_X9_draw_10 (by decide)
theorem d_X9_draw_12 : decode (mB M_X9_draw) 12 = .ok (.iaload, 1) := by decide +kernel
theorem r_X9_draw_12 {x0 x1 : Value} {a : Nat} {i : Int32} {st : List Value} {h : AH} : Run M_X9_draw 12 [x0, x1] (.int i :: .ref a :: st) h = if (gI 0 h a i).isSome = true then Run M_X9_draw 13 [x0, x1] (.int ((gI 0 h a i).getD 0) :: st) h else none := R_iaload d_X9_draw_12
theorem d_X9_draw_13 : decode (mB M_X9_draw) 13 = .ok (.ldc 199, 2) := by decide +kernel
theorem r_X9_draw_13 {x0 x1 : Value} {st : List Value} {h : AH} : Run M_X9_draw 13 [x0, x1] st h = Run M_X9_draw 15 [x0, x1] (.int (nI 1103515245) :: st) h := R_ldc d_X9_draw_13 (by decide)
theorem d_X9_draw_15 : decode (mB M_X9_draw) 15 = .ok (.imul, 1) := by decide +kernel
theorem r_X9_draw_15 {x0 x1 : Value} {x y : Int32} {st : List Value} {h : AH} : Run M_X9_draw 15 [x0, x1] (.int y :: .int x :: st) h = Run M_X9_draw 16 [x0, x1] (.int (x * y) :: st) h := R_imul d_X9_draw_15
theorem d_X9_draw_16 : decode (mB M_X9_draw) 16 = .ok (.sipush 12345, 3) := by decide +kernel
theorem r_X9_draw_16 {x0 x1 : Value} {st : List Value} {h : AH} : Run M_X9_draw 16 [x0, x1] st h = Run M_X9_draw 19 [x0, x1] (.int (nI 12345) :: st) h := R_sipush d_X9_draw_16 (by decide)
theorem d_X9_draw_19 : decode (mB M_X9_draw) 19 = .ok (.iadd, 1) := by decide +kernel
theorem r_X9_draw_19 {x0 x1 : Value} {x y : Int32} {st : List Value} {h : AH} : Run M_X9_draw 19 [x0, x1] (.int y :: .int x :: st) h = Run M_X9_draw 20 [x0, x1] (.int (x + y) :: st) h := R_iadd d_X9_draw_19
theorem d_X9_draw_20 : decode (mB M_X9_draw) 20 = .ok (.ldc 200, 2) := by decide +kernel
theorem r_X9_draw_20 {x0 x1 : Value} {st : List Value} {h : AH} : Run M_X9_draw 20 [x0, x1] st h = Run M_X9_draw 22 [x0, x1] (.int (nI 2147483647) :: st) h := R_ldc d_X9_draw_20 (by decide)
theorem d_X9_draw_22 : decode (mB M_X9_draw) 22 = .ok (.iand, 1) := by decide +kernel
theorem r_X9_draw_22 {x0 x1 : Value} {x y : Int32} {st : List Value} {h : AH} : Run M_X9_draw 22 [x0, x1] (.int y :: .int x :: st) h = Run M_X9_draw 23 [x0, x1] (.int (x &&& y) :: st) h := R_iand d_X9_draw_22
theorem d_X9_draw_23 : decode (mB M_X9_draw) 23 = .ok (.iastore, 1) := by decide +kernel
theorem r_X9_draw_23 {x0 x1 : Value} {a : Nat} {i x : Int32} {st : List Value} {h : AH} : Run M_X9_draw 23 [x0, x1] (.int x :: .int i :: .ref a :: st) h = if (pI 0 h a i x).isSome = true then Run M_X9_draw 24 [x0, x1] st ((pI 0 h a i x).getD h) else none := R_iastore d_X9_draw_23
theorem d_X9_draw_24 : decode (mB M_X9_draw) 24 = .ok (.aload_n 0, 1) := by decide +kernel
theorem r_X9_draw_24 {x1 : Value} {a : Nat} {st : List Value} {h : AH} : Run M_X9_draw 24 [.ref a, x1] st h = Run M_X9_draw 25 [.ref a, x1] (.ref a :: st) h := R_aload_n d_X9_draw_24 rfl
theorem d_X9_draw_25 : decode (mB M_X9_draw) 25 = .ok (.getfield 7, 3) := by decide +kernel
theorem r_X9_draw_25 {x0 x1 : Value} {a : Nat} {st : List Value} {h : AH} : Run M_X9_draw 25 [x0, x1] (.ref a :: st) h = if (gF h a 9 0).isSome = true then Run M_X9_draw 28 [x0, x1] ((gF h a 9 0).getD .null :: st) h else none := R_getfield d_X9_draw_25 rfl
theorem d_X9_draw_28 : decode (mB M_X9_draw) 28 = .ok (.bipush 18, 2) := by decide +kernel
theorem r_X9_draw_28 {x0 x1 : Value} {st : List Value} {h : AH} : Run M_X9_draw 28 [x0, x1] st h = Run M_X9_draw 30 [x0, x1] (.int (nI 18) :: st) h := R_bipush d_X9_draw_28 (by decide)
theorem d_X9_draw_30 : decode (mB M_X9_draw) 30 = .ok (.iaload, 1) := by decide +kernel
theorem r_X9_draw_30 {x0 x1 : Value} {a : Nat} {i : Int32} {st : List Value} {h : AH} : Run M_X9_draw 30 [x0, x1] (.int i :: .ref a :: st) h = if (gI 0 h a i).isSome = true then Run M_X9_draw 31 [x0, x1] (.int ((gI 0 h a i).getD 0) :: st) h else none := R_iaload d_X9_draw_30
theorem d_X9_draw_31 : decode (mB M_X9_draw) 31 = .ok (.ldc 201, 2) := by decide +kernel
theorem r_X9_draw_31 {x0 x1 : Value} {st : List Value} {h : AH} : Run M_X9_draw 31 [x0, x1] st h = Run M_X9_draw 33 [x0, x1] (.int (nI 65536) :: st) h := R_ldc d_X9_draw_31 (by decide)
theorem d_X9_draw_33 : decode (mB M_X9_draw) 33 = .ok (.idiv, 1) := by decide +kernel
theorem r_X9_draw_33 {x0 x1 : Value} {x y : Int32} {st : List Value} {h : AH} (hy : ¬ y = 0) : Run M_X9_draw 33 [x0, x1] (.int y :: .int x :: st) h = Run M_X9_draw 34 [x0, x1] (.int (x / y) :: st) h := R_idiv d_X9_draw_33 hy
theorem d_X9_draw_34 : decode (mB M_X9_draw) 34 = .ok (.iload_n 1, 1) := by decide +kernel
theorem r_X9_draw_34 {x0 : Value} {a : Int32} {st : List Value} {h : AH} : Run M_X9_draw 34 [x0, .int a] st h = Run M_X9_draw 35 [x0, .int a] (.int a :: st) h := R_iload_n d_X9_draw_34 rfl
theorem d_X9_draw_35 : decode (mB M_X9_draw) 35 = .ok (.irem, 1) := by decide +kernel
theorem r_X9_draw_35 {x0 x1 : Value} {x y : Int32} {st : List Value} {h : AH} (hy : ¬ y = 0) : Run M_X9_draw 35 [x0, x1] (.int y :: .int x :: st) h = Run M_X9_draw 36 [x0, x1] (.int (x - x / y * y) :: st) h := R_irem d_X9_draw_35 hy
theorem d_X9_draw_36 : decode (mB M_X9_draw) 36 = .ok (.ireturn, 1) := by decide +kernel
theorem r_X9_draw_36 {x0 x1 : Value} {v : Int32} {h : AH} : Run M_X9_draw 36 [x0, x1] [.int v] h = some (h, some (.int v)) := R_ireturn d_X9_draw_36 rfl rfl
theorem d_X9_night_0 : decode (mB M_X9_night) 0 = .ok (.iconst 0, 1) := by decide +kernel
theorem r_X9_night_0 {x0 x1 x2 : Value} {st : List Value} {h : AH} : Run M_X9_night 0 [x0, x1, x2] st h = Run M_X9_night 1 [x0, x1, x2] (.int (nI 0) :: st) h := R_iconst d_X9_night_0 (by decide)
theorem d_X9_night_1 : decode (mB M_X9_night) 1 = .ok (.istore_n 1, 1) := by decide +kernel
theorem r_X9_night_1 {x0 x1 x2 : Value} {a : Int32} {st : List Value} {h : AH} (hc : x0.category = 1) : Run M_X9_night 1 [x0, x1, x2] (.int a :: st) h = Run M_X9_night 2 [x0, .int a, x2] st h := R_istore_n d_X9_night_1 (Nat.lt_of_lt_of_le (by decide : 1 < 3) (Nat.le_refl 3)) (catP_of rfl hc)
theorem d_X9_night_2 : decode (mB M_X9_night) 2 = .ok (.iconst 0, 1) := by decide +kernel
theorem r_X9_night_2 {x0 x1 x2 : Value} {st : List Value} {h : AH} : Run M_X9_night 2 [x0, x1, x2] st h = Run M_X9_night 3 [x0, x1, x2] (.int (nI 0) :: st) h := R_iconst d_X9_night_2 (by decide)
theorem d_X9_night_3 : decode (mB M_X9_night) 3 = .ok (.istore_n 2, 1) := by decide +kernel
theorem r_X9_night_3 {x0 x1 x2 : Value} {a : Int32} {st : List Value} {h : AH} (hc : x1.category = 1) : Run M_X9_night 3 [x0, x1, x2] (.int a :: st) h = Run M_X9_night 4 [x0, x1, .int a] st h := R_istore_n d_X9_night_3 (Nat.lt_of_lt_of_le (by decide : 2 < 3) (Nat.le_refl 3)) (catP_of rfl hc)
theorem d_X9_night_4 : decode (mB M_X9_night) 4 = .ok (.iload_n 2, 1) := by decide +kernel
theorem r_X9_night_4 {x0 x1 : Value} {a : Int32} {st : List Value} {h : AH} : Run M_X9_night 4 [x0, x1, .int a] st h = Run M_X9_night 5 [x0, x1, .int a] (.int a :: st) h := R_iload_n d_X9_night_4 rfl
theorem d_X9_night_5 : decode (mB M_X9_night) 5 = .ok (.aload_n 0, 1) := by decide +kernel
theorem r_X9_night_5 {x1 x2 : Value} {a : Nat} {st : List Value} {h : AH} : Run M_X9_night 5 [.ref a, x1, x2] st h = Run M_X9_night 6 [.ref a, x1, x2] (.ref a :: st) h := R_aload_n d_X9_night_5 rfl
theorem d_X9_night_6 : decode (mB M_X9_night) 6 = .ok (.getfield 82, 3) := by decide +kernel
theorem r_X9_night_6 {x0 x1 x2 : Value} {a : Nat} {st : List Value} {h : AH} : Run M_X9_night 6 [x0, x1, x2] (.ref a :: st) h = if (gF h a 9 3).isSome = true then Run M_X9_night 9 [x0, x1, x2] ((gF h a 9 3).getD .null :: st) h else none := R_getfield d_X9_night_6 rfl
theorem d_X9_night_9 : decode (mB M_X9_night) 9 = .ok (.if_icmp .ge 46, 3) := by decide +kernel
theorem r_X9_night_9 {x0 x1 x2 : Value} {x y : Int32} {st : List Value} {h : AH} : Run M_X9_night 9 [x0, x1, x2] (.int y :: .int x :: st) h = if y ≤ x then Run M_X9_night 55 [x0, x1, x2] st h else Run M_X9_night 12 [x0, x1, x2] st h := R_icmp_ge d_X9_night_9 (by decide)
theorem d_X9_night_12 : decode (mB M_X9_night) 12 = .ok (.aload_n 0, 1) := by decide +kernel
theorem r_X9_night_12 {x1 x2 : Value} {a : Nat} {st : List Value} {h : AH} : Run M_X9_night 12 [.ref a, x1, x2] st h = Run M_X9_night 13 [.ref a, x1, x2] (.ref a :: st) h := R_aload_n d_X9_night_12 rfl
theorem d_X9_night_13 : decode (mB M_X9_night) 13 = .ok (.bipush 8, 2) := by decide +kernel
theorem r_X9_night_13 {x0 x1 x2 : Value} {st : List Value} {h : AH} : Run M_X9_night 13 [x0, x1, x2] st h = Run M_X9_night 15 [x0, x1, x2] (.int (nI 8) :: st) h := R_bipush d_X9_night_13 (by decide)
theorem d_X9_night_15 : decode (mB M_X9_night) 15 = .ok (.invokevirtual 202, 3) := by decide +kernel
theorem r_X9_night_15 {x0 x1 x2 : Value} {p0 : Int32} {a : Nat} {h : AH} : Run M_X9_night 15 [x0, x1, x2] (.int p0 :: .ref a :: []) h = if refO h 9 (some (.ref a)) = true then (if (Call M_X9_draw h [.ref a, .int p0]).isSome = true then Run M_X9_night 18 [x0, x1, x2] (rL (Call M_X9_draw h [.ref a, .int p0]) ++ []) (cH (Call M_X9_draw h [.ref a, .int p0])) else none) else none := R_virt d_X9_night_15 rfl rfl rfl rfl rfl (Nat.le_of_ble_eq_true rfl)
theorem d_X9_night_18 : decode (mB M_X9_night) 18 = .ok (.aload_n 0, 1) := by decide +kernel
theorem r_X9_night_18 {x1 x2 : Value} {a : Nat} {st : List Value} {h : AH} : Run M_X9_night 18 [.ref a, x1, x2] st h = Run M_X9_night 19 [.ref a, x1, x2] (.ref a :: st) h := R_aload_n d_X9_night_18 rfl
theorem d_X9_night_19 : decode (mB M_X9_night) 19 = .ok (.getfield 23, 3) := by decide +kernel
theorem r_X9_night_19 {x0 x1 x2 : Value} {a : Nat} {st : List Value} {h : AH} : Run M_X9_night 19 [x0, x1, x2] (.ref a :: st) h = if (gF h a 9 5).isSome = true then Run M_X9_night 22 [x0, x1, x2] ((gF h a 9 5).getD .null :: st) h else none := R_getfield d_X9_night_19 rfl
theorem d_X9_night_22 : decode (mB M_X9_night) 22 = .ok (.iload_n 2, 1) := by decide +kernel
theorem r_X9_night_22 {x0 x1 : Value} {a : Int32} {st : List Value} {h : AH} : Run M_X9_night 22 [x0, x1, .int a] st h = Run M_X9_night 23 [x0, x1, .int a] (.int a :: st) h := R_iload_n d_X9_night_22 rfl
theorem d_X9_night_23 : decode (mB M_X9_night) 23 = .ok (.iaload, 1) := by decide +kernel
theorem r_X9_night_23 {x0 x1 x2 : Value} {a : Nat} {i : Int32} {st : List Value} {h : AH} : Run M_X9_night 23 [x0, x1, x2] (.int i :: .ref a :: st) h = if (gI 0 h a i).isSome = true then Run M_X9_night 24 [x0, x1, x2] (.int ((gI 0 h a i).getD 0) :: st) h else none := R_iaload d_X9_night_23
theorem d_X9_night_24 : decode (mB M_X9_night) 24 = .ok (.if_icmp .lt 25, 3) := by decide +kernel
theorem r_X9_night_24 {x0 x1 x2 : Value} {x y : Int32} {st : List Value} {h : AH} : Run M_X9_night 24 [x0, x1, x2] (.int y :: .int x :: st) h = if x < y then Run M_X9_night 49 [x0, x1, x2] st h else Run M_X9_night 27 [x0, x1, x2] st h := R_icmp_lt d_X9_night_24 (by decide)
theorem d_X9_night_27 : decode (mB M_X9_night) 27 = .ok (.iload_n 1, 1) := by decide +kernel
theorem r_X9_night_27 {x0 x2 : Value} {a : Int32} {st : List Value} {h : AH} : Run M_X9_night 27 [x0, .int a, x2] st h = Run M_X9_night 28 [x0, .int a, x2] (.int a :: st) h := R_iload_n d_X9_night_27 rfl
theorem d_X9_night_28 : decode (mB M_X9_night) 28 = .ok (.aload_n 0, 1) := by decide +kernel
theorem r_X9_night_28 {x1 x2 : Value} {a : Nat} {st : List Value} {h : AH} : Run M_X9_night 28 [.ref a, x1, x2] st h = Run M_X9_night 29 [.ref a, x1, x2] (.ref a :: st) h := R_aload_n d_X9_night_28 rfl
theorem d_X9_night_29 : decode (mB M_X9_night) 29 = .ok (.getfield 32, 3) := by decide +kernel
theorem r_X9_night_29 {x0 x1 x2 : Value} {a : Nat} {st : List Value} {h : AH} : Run M_X9_night 29 [x0, x1, x2] (.ref a :: st) h = if (gF h a 9 8).isSome = true then Run M_X9_night 32 [x0, x1, x2] ((gF h a 9 8).getD .null :: st) h else none := R_getfield d_X9_night_29 rfl
theorem d_X9_night_32 : decode (mB M_X9_night) 32 = .ok (.iconst 4, 1) := by decide +kernel
theorem r_X9_night_32 {x0 x1 x2 : Value} {st : List Value} {h : AH} : Run M_X9_night 32 [x0, x1, x2] st h = Run M_X9_night 33 [x0, x1, x2] (.int (nI 4) :: st) h := R_iconst d_X9_night_32 (by decide)
theorem d_X9_night_33 : decode (mB M_X9_night) 33 = .ok (.iload_n 2, 1) := by decide +kernel
theorem r_X9_night_33 {x0 x1 : Value} {a : Int32} {st : List Value} {h : AH} : Run M_X9_night 33 [x0, x1, .int a] st h = Run M_X9_night 34 [x0, x1, .int a] (.int a :: st) h := R_iload_n d_X9_night_33 rfl
theorem d_X9_night_34 : decode (mB M_X9_night) 34 = .ok (.imul, 1) := by decide +kernel
theorem r_X9_night_34 {x0 x1 x2 : Value} {x y : Int32} {st : List Value} {h : AH} : Run M_X9_night 34 [x0, x1, x2] (.int y :: .int x :: st) h = Run M_X9_night 35 [x0, x1, x2] (.int (x * y) :: st) h := R_imul d_X9_night_34
theorem d_X9_night_35 : decode (mB M_X9_night) 35 = .ok (.aload_n 0, 1) := by decide +kernel
theorem r_X9_night_35 {x1 x2 : Value} {a : Nat} {st : List Value} {h : AH} : Run M_X9_night 35 [.ref a, x1, x2] st h = Run M_X9_night 36 [.ref a, x1, x2] (.ref a :: st) h := R_aload_n d_X9_night_35 rfl
theorem d_X9_night_36 : decode (mB M_X9_night) 36 = .ok (.aload_n 0, 1) := by decide +kernel
theorem r_X9_night_36 {x1 x2 : Value} {a : Nat} {st : List Value} {h : AH} : Run M_X9_night 36 [.ref a, x1, x2] st h = Run M_X9_night 37 [.ref a, x1, x2] (.ref a :: st) h := R_aload_n d_X9_night_36 rfl
theorem d_X9_night_37 : decode (mB M_X9_night) 37 = .ok (.getfield 29, 3) := by decide +kernel
theorem r_X9_night_37 {x0 x1 x2 : Value} {a : Nat} {st : List Value} {h : AH} : Run M_X9_night 37 [x0, x1, x2] (.ref a :: st) h = if (gF h a 9 7).isSome = true then Run M_X9_night 40 [x0, x1, x2] ((gF h a 9 7).getD .null :: st) h else none := R_getfield d_X9_night_37 rfl
theorem d_X9_night_40 : decode (mB M_X9_night) 40 = .ok (.iload_n 2, 1) := by decide +kernel
theorem r_X9_night_40 {x0 x1 : Value} {a : Int32} {st : List Value} {h : AH} : Run M_X9_night 40 [x0, x1, .int a] st h = Run M_X9_night 41 [x0, x1, .int a] (.int a :: st) h := R_iload_n d_X9_night_40 rfl
theorem d_X9_night_41 : decode (mB M_X9_night) 41 = .ok (.iaload, 1) := by decide +kernel
theorem r_X9_night_41 {x0 x1 x2 : Value} {a : Nat} {i : Int32} {st : List Value} {h : AH} : Run M_X9_night 41 [x0, x1, x2] (.int i :: .ref a :: st) h = if (gI 0 h a i).isSome = true then Run M_X9_night 42 [x0, x1, x2] (.int ((gI 0 h a i).getD 0) :: st) h else none := R_iaload d_X9_night_41
theorem d_X9_night_42 : decode (mB M_X9_night) 42 = .ok (.invokevirtual 202, 3) := by decide +kernel
theorem r_X9_night_42 {x0 x1 x2 : Value} {p0 : Int32} {a : Nat} {w0 w1 w2 : Value} {h : AH} : Run M_X9_night 42 [x0, x1, x2] (.int p0 :: .ref a :: [w0, w1, w2]) h = if refO h 9 (some (.ref a)) = true then (if (Call M_X9_draw h [.ref a, .int p0]).isSome = true then Run M_X9_night 45 [x0, x1, x2] (rL (Call M_X9_draw h [.ref a, .int p0]) ++ [w0, w1, w2]) (cH (Call M_X9_draw h [.ref a, .int p0])) else none) else none := R_virt d_X9_night_42 rfl rfl rfl rfl rfl (Nat.le_of_ble_eq_true rfl)
theorem d_X9_night_45 : decode (mB M_X9_night) 45 = .ok (.iadd, 1) := by decide +kernel
theorem r_X9_night_45 {x0 x1 x2 : Value} {x y : Int32} {st : List Value} {h : AH} : Run M_X9_night 45 [x0, x1, x2] (.int y :: .int x :: st) h = Run M_X9_night 46 [x0, x1, x2] (.int (x + y) :: st) h := R_iadd d_X9_night_45
theorem d_X9_night_46 : decode (mB M_X9_night) 46 = .ok (.iaload, 1) := by decide +kernel
theorem r_X9_night_46 {x0 x1 x2 : Value} {a : Nat} {i : Int32} {st : List Value} {h : AH} : Run M_X9_night 46 [x0, x1, x2] (.int i :: .ref a :: st) h = if (gI 0 h a i).isSome = true then Run M_X9_night 47 [x0, x1, x2] (.int ((gI 0 h a i).getD 0) :: st) h else none := R_iaload d_X9_night_46
theorem d_X9_night_47 : decode (mB M_X9_night) 47 = .ok (.iadd, 1) := by decide +kernel
theorem r_X9_night_47 {x0 x1 x2 : Value} {x y : Int32} {st : List Value} {h : AH} : Run M_X9_night 47 [x0, x1, x2] (.int y :: .int x :: st) h = Run M_X9_night 48 [x0, x1, x2] (.int (x + y) :: st) h := R_iadd d_X9_night_47
theorem d_X9_night_48 : decode (mB M_X9_night) 48 = .ok (.istore_n 1, 1) := by decide +kernel
theorem r_X9_night_48 {x0 x1 x2 : Value} {a : Int32} {st : List Value} {h : AH} (hc : x0.category = 1) : Run M_X9_night 48 [x0, x1, x2] (.int a :: st) h = Run M_X9_night 49 [x0, .int a, x2] st h := R_istore_n d_X9_night_48 (Nat.lt_of_lt_of_le (by decide : 1 < 3) (Nat.le_refl 3)) (catP_of rfl hc)
theorem d_X9_night_49 : decode (mB M_X9_night) 49 = .ok (.iinc 2 1, 3) := by decide +kernel
theorem r_X9_night_49 {x0 x1 : Value} {a : Int32} {st : List Value} {h : AH} (hc : x1.category = 1) : Run M_X9_night 49 [x0, x1, .int a] st h = Run M_X9_night 52 [x0, x1, .int (a + (nI 1))] st h := R_iinc d_X9_night_49 (by decide) rfl (catP_of rfl hc)
theorem d_X9_night_52 : decode (mB M_X9_night) 52 = .ok (.goto (-48), 3) := by decide +kernel
theorem r_X9_night_52 {x0 x1 x2 : Value} {st : List Value} {h : AH} : Run M_X9_night 52 [x0, x1, x2] st h = Run M_X9_night 4 [x0, x1, x2] st h := R_goto d_X9_night_52 (by decide)
theorem d_X9_night_55 : decode (mB M_X9_night) 55 = .ok (.iload_n 1, 1) := by decide +kernel
theorem r_X9_night_55 {x0 x2 : Value} {a : Int32} {st : List Value} {h : AH} : Run M_X9_night 55 [x0, .int a, x2] st h = Run M_X9_night 56 [x0, .int a, x2] (.int a :: st) h := R_iload_n d_X9_night_55 rfl
theorem d_X9_night_56 : decode (mB M_X9_night) 56 = .ok (.ireturn, 1) := by decide +kernel
theorem r_X9_night_56 {x0 x1 x2 : Value} {v : Int32} {h : AH} : Run M_X9_night 56 [x0, x1, x2] [.int v] h = some (h, some (.int v)) := R_ireturn d_X9_night_56 rfl rfl
theorem d_X9_drift_0 : decode (mB M_X9_drift) 0 = .ok (.iload_n 1, 1) := by decide +kernel
theorem r_X9_drift_0 {x0 x2 x3 x4 x5 : Value} {a : Int32} {st : List Value} {h : AH} : Run M_X9_drift 0 [x0, .int a, x2, x3, x4, x5] st h = Run M_X9_drift 1 [x0, .int a, x2, x3, x4, x5] (.int a :: st) h := R_iload_n d_X9_drift_0 rfl
theorem d_X9_drift_1 : decode (mB M_X9_drift) 1 = .ok (.iconst 1, 1) := by decide +kernel
theorem r_X9_drift_1 {x0 x1 x2 x3 x4 x5 : Value} {st : List Value} {h : AH} : Run M_X9_drift 1 [x0, x1, x2, x3, x4, x5] st h = Run M_X9_drift 2 [x0, x1, x2, x3, x4, x5] (.int (nI 1) :: st) h := R_iconst d_X9_drift_1 (by decide)
theorem d_X9_drift_2 : decode (mB M_X9_drift) 2 = .ok (.bipush 99, 2) := by decide +kernel
theorem r_X9_drift_2 {x0 x1 x2 x3 x4 x5 : Value} {st : List Value} {h : AH} : Run M_X9_drift 2 [x0, x1, x2, x3, x4, x5] st h = Run M_X9_drift 4 [x0, x1, x2, x3, x4, x5] (.int (nI 99) :: st) h := R_bipush d_X9_drift_2 (by decide)
theorem d_X9_drift_4 : decode (mB M_X9_drift) 4 = .ok (.invokestatic 85, 3) := by decide +kernel
theorem r_X9_drift_4 {x0 x1 x2 x3 x4 x5 : Value} {p0 : Int32} {p1 : Int32} {p2 : Int32} {h : AH} : Run M_X9_drift 4 [x0, x1, x2, x3, x4, x5] (.int p2 :: .int p1 :: .int p0 :: []) h = if (Call M_X9_in h [.int p0, .int p1, .int p2]).isSome = true then Run M_X9_drift 7 [x0, x1, x2, x3, x4, x5] (rL (Call M_X9_in h [.int p0, .int p1, .int p2]) ++ []) (cH (Call M_X9_in h [.int p0, .int p1, .int p2])) else none := R_stat d_X9_drift_4 rfl rfl rfl rfl (Nat.le_of_ble_eq_true rfl)
theorem d_X9_drift_7 : decode (mB M_X9_drift) 7 = .ok (.ifCond .ne 6, 3) := by decide +kernel
theorem r_X9_drift_7 {x0 x1 x2 x3 x4 x5 : Value} {x : Int32} {st : List Value} {h : AH} : Run M_X9_drift 7 [x0, x1, x2, x3, x4, x5] (.int x :: st) h = if x = nI 0 then Run M_X9_drift 10 [x0, x1, x2, x3, x4, x5] st h else Run M_X9_drift 13 [x0, x1, x2, x3, x4, x5] st h := R_if_ne d_X9_drift_7 (by decide)
theorem d_X9_drift_10 : decode (mB M_X9_drift) 10 = .ok (.ldc 92, 2) := by decide +kernel
theorem r_X9_drift_10 {x0 x1 x2 x3 x4 x5 : Value} {st : List Value} {h : AH} : Run M_X9_drift 10 [x0, x1, x2, x3, x4, x5] st h = Run M_X9_drift 12 [x0, x1, x2, x3, x4, x5] (.int (-1000000002) :: st) h := R_ldc d_X9_drift_10 (by decide)
theorem d_X9_drift_12 : decode (mB M_X9_drift) 12 = .ok (.ireturn, 1) := by decide +kernel
theorem r_X9_drift_12 {x0 x1 x2 x3 x4 x5 : Value} {v : Int32} {h : AH} : Run M_X9_drift 12 [x0, x1, x2, x3, x4, x5] [.int v] h = some (h, some (.int v)) := R_ireturn d_X9_drift_12 rfl rfl
theorem d_X9_drift_13 : decode (mB M_X9_drift) 13 = .ok (.aload_n 0, 1) := by decide +kernel
theorem r_X9_drift_13 {x1 x2 x3 x4 x5 : Value} {a : Nat} {st : List Value} {h : AH} : Run M_X9_drift 13 [.ref a, x1, x2, x3, x4, x5] st h = Run M_X9_drift 14 [.ref a, x1, x2, x3, x4, x5] (.ref a :: st) h := R_aload_n d_X9_drift_13 rfl
theorem d_X9_drift_14 : decode (mB M_X9_drift) 14 = .ok (.invokevirtual 205, 3) := by decide +kernel
theorem r_X9_drift_14 {x0 x1 x2 x3 x4 x5 : Value} {a : Nat} {h : AH} : Run M_X9_drift 14 [x0, x1, x2, x3, x4, x5] (.ref a :: []) h = if refO h 9 (some (.ref a)) = true then (if (Call M_X9_bestGo h [.ref a]).isSome = true then Run M_X9_drift 17 [x0, x1, x2, x3, x4, x5] (rL (Call M_X9_bestGo h [.ref a]) ++ []) (cH (Call M_X9_bestGo h [.ref a])) else none) else none := R_virt d_X9_drift_14 rfl rfl rfl rfl rfl (Nat.le_of_ble_eq_true rfl)
theorem d_X9_drift_17 : decode (mB M_X9_drift) 17 = .ok (.istore_n 2, 1) := by decide +kernel
theorem r_X9_drift_17 {x0 x1 x2 x3 x4 x5 : Value} {a : Int32} {st : List Value} {h : AH} (hc : x1.category = 1) : Run M_X9_drift 17 [x0, x1, x2, x3, x4, x5] (.int a :: st) h = Run M_X9_drift 18 [x0, x1, .int a, x3, x4, x5] st h := R_istore_n d_X9_drift_17 (Nat.lt_of_lt_of_le (by decide : 2 < 6) (Nat.le_refl 6)) (catP_of rfl hc)
theorem d_X9_drift_18 : decode (mB M_X9_drift) 18 = .ok (.iconst 0, 1) := by decide +kernel
theorem r_X9_drift_18 {x0 x1 x2 x3 x4 x5 : Value} {st : List Value} {h : AH} : Run M_X9_drift 18 [x0, x1, x2, x3, x4, x5] st h = Run M_X9_drift 19 [x0, x1, x2, x3, x4, x5] (.int (nI 0) :: st) h := R_iconst d_X9_drift_18 (by decide)
theorem d_X9_drift_19 : decode (mB M_X9_drift) 19 = .ok (.istore_n 3, 1) := by decide +kernel
theorem r_X9_drift_19 {x0 x1 x2 x3 x4 x5 : Value} {a : Int32} {st : List Value} {h : AH} (hc : x2.category = 1) : Run M_X9_drift 19 [x0, x1, x2, x3, x4, x5] (.int a :: st) h = Run M_X9_drift 20 [x0, x1, x2, .int a, x4, x5] st h := R_istore_n d_X9_drift_19 (Nat.lt_of_lt_of_le (by decide : 3 < 6) (Nat.le_refl 6)) (catP_of rfl hc)
theorem d_X9_drift_20 : decode (mB M_X9_drift) 20 = .ok (.iload_n 3, 1) := by decide +kernel
theorem r_X9_drift_20 {x0 x1 x2 x4 x5 : Value} {a : Int32} {st : List Value} {h : AH} : Run M_X9_drift 20 [x0, x1, x2, .int a, x4, x5] st h = Run M_X9_drift 21 [x0, x1, x2, .int a, x4, x5] (.int a :: st) h := R_iload_n d_X9_drift_20 rfl
theorem d_X9_drift_21 : decode (mB M_X9_drift) 21 = .ok (.iload_n 1, 1) := by decide +kernel
theorem r_X9_drift_21 {x0 x2 x3 x4 x5 : Value} {a : Int32} {st : List Value} {h : AH} : Run M_X9_drift 21 [x0, .int a, x2, x3, x4, x5] st h = Run M_X9_drift 22 [x0, .int a, x2, x3, x4, x5] (.int a :: st) h := R_iload_n d_X9_drift_21 rfl
theorem d_X9_drift_22 : decode (mB M_X9_drift) 22 = .ok (.if_icmp .ge 96, 3) := by decide +kernel
theorem r_X9_drift_22 {x0 x1 x2 x3 x4 x5 : Value} {x y : Int32} {st : List Value} {h : AH} : Run M_X9_drift 22 [x0, x1, x2, x3, x4, x5] (.int y :: .int x :: st) h = if y ≤ x then Run M_X9_drift 118 [x0, x1, x2, x3, x4, x5] st h else Run M_X9_drift 25 [x0, x1, x2, x3, x4, x5] st h := R_icmp_ge d_X9_drift_22 (by decide)
theorem d_X9_drift_25 : decode (mB M_X9_drift) 25 = .ok (.aload_n 0, 1) := by decide +kernel
theorem r_X9_drift_25 {x1 x2 x3 x4 x5 : Value} {a : Nat} {st : List Value} {h : AH} : Run M_X9_drift 25 [.ref a, x1, x2, x3, x4, x5] st h = Run M_X9_drift 26 [.ref a, x1, x2, x3, x4, x5] (.ref a :: st) h := R_aload_n d_X9_drift_25 rfl
theorem d_X9_drift_26 : decode (mB M_X9_drift) 26 = .ok (.invokevirtual 209, 3) := by decide +kernel
theorem r_X9_drift_26 {x0 x1 x2 x3 x4 x5 : Value} {a : Nat} {h : AH} : Run M_X9_drift 26 [x0, x1, x2, x3, x4, x5] (.ref a :: []) h = if refO h 9 (some (.ref a)) = true then (if (Call M_X9_night h [.ref a]).isSome = true then Run M_X9_drift 29 [x0, x1, x2, x3, x4, x5] (rL (Call M_X9_night h [.ref a]) ++ []) (cH (Call M_X9_night h [.ref a])) else none) else none := R_virt d_X9_drift_26 rfl rfl rfl rfl rfl (Nat.le_of_ble_eq_true rfl)
theorem d_X9_drift_29 : decode (mB M_X9_drift) 29 = .ok (.istore 4, 2) := by decide +kernel
theorem r_X9_drift_29 {x0 x1 x2 x3 x4 x5 : Value} {a : Int32} {st : List Value} {h : AH} (hc : x3.category = 1) : Run M_X9_drift 29 [x0, x1, x2, x3, x4, x5] (.int a :: st) h = Run M_X9_drift 31 [x0, x1, x2, x3, .int a, x5] st h := R_istore d_X9_drift_29 (Nat.lt_of_lt_of_le (by decide : 4 < 6) (Nat.le_refl 6)) (catP_of rfl hc)
theorem d_X9_drift_31 : decode (mB M_X9_drift) 31 = .ok (.iload 4, 2) := by decide +kernel
theorem r_X9_drift_31 {x0 x1 x2 x3 x5 : Value} {a : Int32} {st : List Value} {h : AH} : Run M_X9_drift 31 [x0, x1, x2, x3, .int a, x5] st h = Run M_X9_drift 33 [x0, x1, x2, x3, .int a, x5] (.int a :: st) h := R_iload d_X9_drift_31 rfl
theorem d_X9_drift_33 : decode (mB M_X9_drift) 33 = .ok (.iload_n 2, 1) := by decide +kernel
theorem r_X9_drift_33 {x0 x1 x3 x4 x5 : Value} {a : Int32} {st : List Value} {h : AH} : Run M_X9_drift 33 [x0, x1, .int a, x3, x4, x5] st h = Run M_X9_drift 34 [x0, x1, .int a, x3, x4, x5] (.int a :: st) h := R_iload_n d_X9_drift_33 rfl
theorem d_X9_drift_34 : decode (mB M_X9_drift) 34 = .ok (.if_icmp .le 17, 3) := by decide +kernel
theorem r_X9_drift_34 {x0 x1 x2 x3 x4 x5 : Value} {x y : Int32} {st : List Value} {h : AH} : Run M_X9_drift 34 [x0, x1, x2, x3, x4, x5] (.int y :: .int x :: st) h = if x ≤ y then Run M_X9_drift 51 [x0, x1, x2, x3, x4, x5] st h else Run M_X9_drift 37 [x0, x1, x2, x3, x4, x5] st h := R_icmp_le d_X9_drift_34 (by decide)
theorem d_X9_drift_37 : decode (mB M_X9_drift) 37 = .ok (.aload_n 0, 1) := by decide +kernel
theorem r_X9_drift_37 {x1 x2 x3 x4 x5 : Value} {a : Nat} {st : List Value} {h : AH} : Run M_X9_drift 37 [.ref a, x1, x2, x3, x4, x5] st h = Run M_X9_drift 38 [.ref a, x1, x2, x3, x4, x5] (.ref a :: st) h := R_aload_n d_X9_drift_37 rfl
theorem d_X9_drift_38 : decode (mB M_X9_drift) 38 = .ok (.getfield 7, 3) := by decide +kernel
theorem r_X9_drift_38 {x0 x1 x2 x3 x4 x5 : Value} {a : Nat} {st : List Value} {h : AH} : Run M_X9_drift 38 [x0, x1, x2, x3, x4, x5] (.ref a :: st) h = if (gF h a 9 0).isSome = true then Run M_X9_drift 41 [x0, x1, x2, x3, x4, x5] ((gF h a 9 0).getD .null :: st) h else none := R_getfield d_X9_drift_38 rfl
theorem d_X9_drift_41 : decode (mB M_X9_drift) 41 = .ok (.iconst 0, 1) := by decide +kernel
theorem r_X9_drift_41 {x0 x1 x2 x3 x4 x5 : Value} {st : List Value} {h : AH} : Run M_X9_drift 41 [x0, x1, x2, x3, x4, x5] st h = Run M_X9_drift 42 [x0, x1, x2, x3, x4, x5] (.int (nI 0) :: st) h := R_iconst d_X9_drift_41 (by decide)
theorem d_X9_drift_42 : decode (mB M_X9_drift) 42 = .ok (.iaload, 1) := by decide +kernel
theorem r_X9_drift_42 {x0 x1 x2 x3 x4 x5 : Value} {a : Nat} {i : Int32} {st : List Value} {h : AH} : Run M_X9_drift 42 [x0, x1, x2, x3, x4, x5] (.int i :: .ref a :: st) h = if (gI 0 h a i).isSome = true then Run M_X9_drift 43 [x0, x1, x2, x3, x4, x5] (.int ((gI 0 h a i).getD 0) :: st) h else none := R_iaload d_X9_drift_42
theorem d_X9_drift_43 : decode (mB M_X9_drift) 43 = .ok (.iload 4, 2) := by decide +kernel
theorem r_X9_drift_43 {x0 x1 x2 x3 x5 : Value} {a : Int32} {st : List Value} {h : AH} : Run M_X9_drift 43 [x0, x1, x2, x3, .int a, x5] st h = Run M_X9_drift 45 [x0, x1, x2, x3, .int a, x5] (.int a :: st) h := R_iload d_X9_drift_43 rfl
theorem d_X9_drift_45 : decode (mB M_X9_drift) 45 = .ok (.iload_n 2, 1) := by decide +kernel
theorem r_X9_drift_45 {x0 x1 x3 x4 x5 : Value} {a : Int32} {st : List Value} {h : AH} : Run M_X9_drift 45 [x0, x1, .int a, x3, x4, x5] st h = Run M_X9_drift 46 [x0, x1, .int a, x3, x4, x5] (.int a :: st) h := R_iload_n d_X9_drift_45 rfl
theorem d_X9_drift_46 : decode (mB M_X9_drift) 46 = .ok (.isub, 1) := by decide +kernel
theorem r_X9_drift_46 {x0 x1 x2 x3 x4 x5 : Value} {x y : Int32} {st : List Value} {h : AH} : Run M_X9_drift 46 [x0, x1, x2, x3, x4, x5] (.int y :: .int x :: st) h = Run M_X9_drift 47 [x0, x1, x2, x3, x4, x5] (.int (x - y) :: st) h := R_isub d_X9_drift_46
theorem d_X9_drift_47 : decode (mB M_X9_drift) 47 = .ok (.imul, 1) := by decide +kernel
theorem r_X9_drift_47 {x0 x1 x2 x3 x4 x5 : Value} {x y : Int32} {st : List Value} {h : AH} : Run M_X9_drift 47 [x0, x1, x2, x3, x4, x5] (.int y :: .int x :: st) h = Run M_X9_drift 48 [x0, x1, x2, x3, x4, x5] (.int (x * y) :: st) h := R_imul d_X9_drift_47
theorem d_X9_drift_48 : decode (mB M_X9_drift) 48 = .ok (.goto 14, 3) := by decide +kernel
theorem r_X9_drift_48 {x0 x1 x2 x3 x4 x5 : Value} {st : List Value} {h : AH} : Run M_X9_drift 48 [x0, x1, x2, x3, x4, x5] st h = Run M_X9_drift 62 [x0, x1, x2, x3, x4, x5] st h := R_goto d_X9_drift_48 (by decide)
theorem d_X9_drift_51 : decode (mB M_X9_drift) 51 = .ok (.aload_n 0, 1) := by decide +kernel
theorem r_X9_drift_51 {x1 x2 x3 x4 x5 : Value} {a : Nat} {st : List Value} {h : AH} : Run M_X9_drift 51 [.ref a, x1, x2, x3, x4, x5] st h = Run M_X9_drift 52 [.ref a, x1, x2, x3, x4, x5] (.ref a :: st) h := R_aload_n d_X9_drift_51 rfl
theorem d_X9_drift_52 : decode (mB M_X9_drift) 52 = .ok (.getfield 7, 3) := by decide +kernel
theorem r_X9_drift_52 {x0 x1 x2 x3 x4 x5 : Value} {a : Nat} {st : List Value} {h : AH} : Run M_X9_drift 52 [x0, x1, x2, x3, x4, x5] (.ref a :: st) h = if (gF h a 9 0).isSome = true then Run M_X9_drift 55 [x0, x1, x2, x3, x4, x5] ((gF h a 9 0).getD .null :: st) h else none := R_getfield d_X9_drift_52 rfl
theorem d_X9_drift_55 : decode (mB M_X9_drift) 55 = .ok (.iconst 1, 1) := by decide +kernel
theorem r_X9_drift_55 {x0 x1 x2 x3 x4 x5 : Value} {st : List Value} {h : AH} : Run M_X9_drift 55 [x0, x1, x2, x3, x4, x5] st h = Run M_X9_drift 56 [x0, x1, x2, x3, x4, x5] (.int (nI 1) :: st) h := R_iconst d_X9_drift_55 (by decide)
theorem d_X9_drift_56 : decode (mB M_X9_drift) 56 = .ok (.iaload, 1) := by decide +kernel
theorem r_X9_drift_56 {x0 x1 x2 x3 x4 x5 : Value} {a : Nat} {i : Int32} {st : List Value} {h : AH} : Run M_X9_drift 56 [x0, x1, x2, x3, x4, x5] (.int i :: .ref a :: st) h = if (gI 0 h a i).isSome = true then Run M_X9_drift 57 [x0, x1, x2, x3, x4, x5] (.int ((gI 0 h a i).getD 0) :: st) h else none := R_iaload d_X9_drift_56
theorem d_X9_drift_57 : decode (mB M_X9_drift) 57 = .ok (.iload_n 2, 1) := by decide +kernel
theorem r_X9_drift_57 {x0 x1 x3 x4 x5 : Value} {a : Int32} {st : List Value} {h : AH} : Run M_X9_drift 57 [x0, x1, .int a, x3, x4, x5] st h = Run M_X9_drift 58 [x0, x1, .int a, x3, x4, x5] (.int a :: st) h := R_iload_n d_X9_drift_57 rfl
theorem d_X9_drift_58 : decode (mB M_X9_drift) 58 = .ok (.iload 4, 2) := by decide +kernel
theorem r_X9_drift_58 {x0 x1 x2 x3 x5 : Value} {a : Int32} {st : List Value} {h : AH} : Run M_X9_drift 58 [x0, x1, x2, x3, .int a, x5] st h = Run M_X9_drift 60 [x0, x1, x2, x3, .int a, x5] (.int a :: st) h := R_iload d_X9_drift_58 rfl
theorem d_X9_drift_60 : decode (mB M_X9_drift) 60 = .ok (.isub, 1) := by decide +kernel
theorem r_X9_drift_60 {x0 x1 x2 x3 x4 x5 : Value} {x y : Int32} {st : List Value} {h : AH} : Run M_X9_drift 60 [x0, x1, x2, x3, x4, x5] (.int y :: .int x :: st) h = Run M_X9_drift 61 [x0, x1, x2, x3, x4, x5] (.int (x - y) :: st) h := R_isub d_X9_drift_60
theorem d_X9_drift_61 : decode (mB M_X9_drift) 61 = .ok (.imul, 1) := by decide +kernel
theorem r_X9_drift_61 {x0 x1 x2 x3 x4 x5 : Value} {x y : Int32} {st : List Value} {h : AH} : Run M_X9_drift 61 [x0, x1, x2, x3, x4, x5] (.int y :: .int x :: st) h = Run M_X9_drift 62 [x0, x1, x2, x3, x4, x5] (.int (x * y) :: st) h := R_imul d_X9_drift_61
theorem d_X9_drift_62 : decode (mB M_X9_drift) 62 = .ok (.istore 5, 2) := by decide +kernel
theorem r_X9_drift_62 {x0 x1 x2 x3 x4 x5 : Value} {a : Int32} {st : List Value} {h : AH} (hc : x4.category = 1) : Run M_X9_drift 62 [x0, x1, x2, x3, x4, x5] (.int a :: st) h = Run M_X9_drift 64 [x0, x1, x2, x3, x4, .int a] st h := R_istore d_X9_drift_62 (Nat.lt_of_lt_of_le (by decide : 5 < 6) (Nat.le_refl 6)) (catP_of rfl hc)
theorem d_X9_drift_64 : decode (mB M_X9_drift) 64 = .ok (.aload_n 0, 1) := by decide +kernel
theorem r_X9_drift_64 {x1 x2 x3 x4 x5 : Value} {a : Nat} {st : List Value} {h : AH} : Run M_X9_drift 64 [.ref a, x1, x2, x3, x4, x5] st h = Run M_X9_drift 65 [.ref a, x1, x2, x3, x4, x5] (.ref a :: st) h := R_aload_n d_X9_drift_64 rfl
theorem d_X9_drift_65 : decode (mB M_X9_drift) 65 = .ok (.getfield 7, 3) := by decide +kernel
theorem r_X9_drift_65 {x0 x1 x2 x3 x4 x5 : Value} {a : Nat} {st : List Value} {h : AH} : Run M_X9_drift 65 [x0, x1, x2, x3, x4, x5] (.ref a :: st) h = if (gF h a 9 0).isSome = true then Run M_X9_drift 68 [x0, x1, x2, x3, x4, x5] ((gF h a 9 0).getD .null :: st) h else none := R_getfield d_X9_drift_65 rfl
theorem d_X9_drift_68 : decode (mB M_X9_drift) 68 = .ok (.bipush 16, 2) := by decide +kernel
theorem r_X9_drift_68 {x0 x1 x2 x3 x4 x5 : Value} {st : List Value} {h : AH} : Run M_X9_drift 68 [x0, x1, x2, x3, x4, x5] st h = Run M_X9_drift 70 [x0, x1, x2, x3, x4, x5] (.int (nI 16) :: st) h := R_bipush d_X9_drift_68 (by decide)
theorem d_X9_drift_70 : decode (mB M_X9_drift) 70 = .ok (.aload_n 0, 1) := by decide +kernel
theorem r_X9_drift_70 {x1 x2 x3 x4 x5 : Value} {a : Nat} {st : List Value} {h : AH} : Run M_X9_drift 70 [.ref a, x1, x2, x3, x4, x5] st h = Run M_X9_drift 71 [.ref a, x1, x2, x3, x4, x5] (.ref a :: st) h := R_aload_n d_X9_drift_70 rfl
theorem d_X9_drift_71 : decode (mB M_X9_drift) 71 = .ok (.getfield 7, 3) := by decide +kernel
theorem r_X9_drift_71 {x0 x1 x2 x3 x4 x5 : Value} {a : Nat} {st : List Value} {h : AH} : Run M_X9_drift 71 [x0, x1, x2, x3, x4, x5] (.ref a :: st) h = if (gF h a 9 0).isSome = true then Run M_X9_drift 74 [x0, x1, x2, x3, x4, x5] ((gF h a 9 0).getD .null :: st) h else none := R_getfield d_X9_drift_71 rfl
theorem d_X9_drift_74 : decode (mB M_X9_drift) 74 = .ok (.bipush 16, 2) := by decide +kernel
theorem r_X9_drift_74 {x0 x1 x2 x3 x4 x5 : Value} {st : List Value} {h : AH} : Run M_X9_drift 74 [x0, x1, x2, x3, x4, x5] st h = Run M_X9_drift 76 [x0, x1, x2, x3, x4, x5] (.int (nI 16) :: st) h := R_bipush d_X9_drift_74 (by decide)
theorem d_X9_drift_76 : decode (mB M_X9_drift) 76 = .ok (.iaload, 1) := by decide +kernel
theorem r_X9_drift_76 {x0 x1 x2 x3 x4 x5 : Value} {a : Nat} {i : Int32} {st : List Value} {h : AH} : Run M_X9_drift 76 [x0, x1, x2, x3, x4, x5] (.int i :: .ref a :: st) h = if (gI 0 h a i).isSome = true then Run M_X9_drift 77 [x0, x1, x2, x3, x4, x5] (.int ((gI 0 h a i).getD 0) :: st) h else none := R_iaload d_X9_drift_76
theorem d_X9_drift_77 : decode (mB M_X9_drift) 77 = .ok (.iload 5, 2) := by decide +kernel
theorem r_X9_drift_77 {x0 x1 x2 x3 x4 : Value} {a : Int32} {st : List Value} {h : AH} : Run M_X9_drift 77 [x0, x1, x2, x3, x4, .int a] st h = Run M_X9_drift 79 [x0, x1, x2, x3, x4, .int a] (.int a :: st) h := R_iload d_X9_drift_77 rfl
theorem d_X9_drift_79 : decode (mB M_X9_drift) 79 = .ok (.iadd, 1) := by decide +kernel
theorem r_X9_drift_79 {x0 x1 x2 x3 x4 x5 : Value} {x y : Int32} {st : List Value} {h : AH} : Run M_X9_drift 79 [x0, x1, x2, x3, x4, x5] (.int y :: .int x :: st) h = Run M_X9_drift 80 [x0, x1, x2, x3, x4, x5] (.int (x + y) :: st) h := R_iadd d_X9_drift_79
theorem d_X9_drift_80 : decode (mB M_X9_drift) 80 = .ok (.ldc 212, 2) := by decide +kernel
theorem r_X9_drift_80 {x0 x1 x2 x3 x4 x5 : Value} {st : List Value} {h : AH} : Run M_X9_drift 80 [x0, x1, x2, x3, x4, x5] st h = Run M_X9_drift 82 [x0, x1, x2, x3, x4, x5] (.int (nI 999999999) :: st) h := R_ldc d_X9_drift_80 (by decide)
theorem d_X9_drift_82 : decode (mB M_X9_drift) 82 = .ok (.if_icmp .le 8, 3) := by decide +kernel
theorem r_X9_drift_82 {x0 x1 x2 x3 x4 x5 : Value} {x y : Int32} {st : List Value} {h : AH} : Run M_X9_drift 82 [x0, x1, x2, x3, x4, x5] (.int y :: .int x :: st) h = if x ≤ y then Run M_X9_drift 90 [x0, x1, x2, x3, x4, x5] st h else Run M_X9_drift 85 [x0, x1, x2, x3, x4, x5] st h := R_icmp_le d_X9_drift_82 (by decide)
theorem d_X9_drift_85 : decode (mB M_X9_drift) 85 = .ok (.ldc 212, 2) := by decide +kernel
theorem r_X9_drift_85 {x0 x1 x2 x3 x4 x5 : Value} {st : List Value} {h : AH} : Run M_X9_drift 85 [x0, x1, x2, x3, x4, x5] st h = Run M_X9_drift 87 [x0, x1, x2, x3, x4, x5] (.int (nI 999999999) :: st) h := R_ldc d_X9_drift_85 (by decide)
theorem d_X9_drift_87 : decode (mB M_X9_drift) 87 = .ok (.goto 13, 3) := by decide +kernel
theorem r_X9_drift_87 {x0 x1 x2 x3 x4 x5 : Value} {st : List Value} {h : AH} : Run M_X9_drift 87 [x0, x1, x2, x3, x4, x5] st h = Run M_X9_drift 100 [x0, x1, x2, x3, x4, x5] st h := R_goto d_X9_drift_87 (by decide)
theorem d_X9_drift_90 : decode (mB M_X9_drift) 90 = .ok (.aload_n 0, 1) := by decide +kernel
theorem r_X9_drift_90 {x1 x2 x3 x4 x5 : Value} {a : Nat} {st : List Value} {h : AH} : Run M_X9_drift 90 [.ref a, x1, x2, x3, x4, x5] st h = Run M_X9_drift 91 [.ref a, x1, x2, x3, x4, x5] (.ref a :: st) h := R_aload_n d_X9_drift_90 rfl
theorem d_X9_drift_91 : decode (mB M_X9_drift) 91 = .ok (.getfield 7, 3) := by decide +kernel
theorem r_X9_drift_91 {x0 x1 x2 x3 x4 x5 : Value} {a : Nat} {st : List Value} {h : AH} : Run M_X9_drift 91 [x0, x1, x2, x3, x4, x5] (.ref a :: st) h = if (gF h a 9 0).isSome = true then Run M_X9_drift 94 [x0, x1, x2, x3, x4, x5] ((gF h a 9 0).getD .null :: st) h else none := R_getfield d_X9_drift_91 rfl
theorem d_X9_drift_94 : decode (mB M_X9_drift) 94 = .ok (.bipush 16, 2) := by decide +kernel
theorem r_X9_drift_94 {x0 x1 x2 x3 x4 x5 : Value} {st : List Value} {h : AH} : Run M_X9_drift 94 [x0, x1, x2, x3, x4, x5] st h = Run M_X9_drift 96 [x0, x1, x2, x3, x4, x5] (.int (nI 16) :: st) h := R_bipush d_X9_drift_94 (by decide)
theorem d_X9_drift_96 : decode (mB M_X9_drift) 96 = .ok (.iaload, 1) := by decide +kernel
theorem r_X9_drift_96 {x0 x1 x2 x3 x4 x5 : Value} {a : Nat} {i : Int32} {st : List Value} {h : AH} : Run M_X9_drift 96 [x0, x1, x2, x3, x4, x5] (.int i :: .ref a :: st) h = if (gI 0 h a i).isSome = true then Run M_X9_drift 97 [x0, x1, x2, x3, x4, x5] (.int ((gI 0 h a i).getD 0) :: st) h else none := R_iaload d_X9_drift_96
theorem d_X9_drift_97 : decode (mB M_X9_drift) 97 = .ok (.iload 5, 2) := by decide +kernel
theorem r_X9_drift_97 {x0 x1 x2 x3 x4 : Value} {a : Int32} {st : List Value} {h : AH} : Run M_X9_drift 97 [x0, x1, x2, x3, x4, .int a] st h = Run M_X9_drift 99 [x0, x1, x2, x3, x4, .int a] (.int a :: st) h := R_iload d_X9_drift_97 rfl
theorem d_X9_drift_99 : decode (mB M_X9_drift) 99 = .ok (.iadd, 1) := by decide +kernel
theorem r_X9_drift_99 {x0 x1 x2 x3 x4 x5 : Value} {x y : Int32} {st : List Value} {h : AH} : Run M_X9_drift 99 [x0, x1, x2, x3, x4, x5] (.int y :: .int x :: st) h = Run M_X9_drift 100 [x0, x1, x2, x3, x4, x5] (.int (x + y) :: st) h := R_iadd d_X9_drift_99
theorem d_X9_drift_100 : decode (mB M_X9_drift) 100 = .ok (.iastore, 1) := by decide +kernel
theorem r_X9_drift_100 {x0 x1 x2 x3 x4 x5 : Value} {a : Nat} {i x : Int32} {st : List Value} {h : AH} : Run M_X9_drift 100 [x0, x1, x2, x3, x4, x5] (.int x :: .int i :: .ref a :: st) h = if (pI 0 h a i x).isSome = true then Run M_X9_drift 101 [x0, x1, x2, x3, x4, x5] st ((pI 0 h a i x).getD h) else none := R_iastore d_X9_drift_100
theorem d_X9_drift_101 : decode (mB M_X9_drift) 101 = .ok (.aload_n 0, 1) := by decide +kernel
theorem r_X9_drift_101 {x1 x2 x3 x4 x5 : Value} {a : Nat} {st : List Value} {h : AH} : Run M_X9_drift 101 [.ref a, x1, x2, x3, x4, x5] st h = Run M_X9_drift 102 [.ref a, x1, x2, x3, x4, x5] (.ref a :: st) h := R_aload_n d_X9_drift_101 rfl
theorem d_X9_drift_102 : decode (mB M_X9_drift) 102 = .ok (.getfield 7, 3) := by decide +kernel
theorem r_X9_drift_102 {x0 x1 x2 x3 x4 x5 : Value} {a : Nat} {st : List Value} {h : AH} : Run M_X9_drift 102 [x0, x1, x2, x3, x4, x5] (.ref a :: st) h = if (gF h a 9 0).isSome = true then Run M_X9_drift 105 [x0, x1, x2, x3, x4, x5] ((gF h a 9 0).getD .null :: st) h else none := R_getfield d_X9_drift_102 rfl
theorem d_X9_drift_105 : decode (mB M_X9_drift) 105 = .ok (.bipush 17, 2) := by decide +kernel
theorem r_X9_drift_105 {x0 x1 x2 x3 x4 x5 : Value} {st : List Value} {h : AH} : Run M_X9_drift 105 [x0, x1, x2, x3, x4, x5] st h = Run M_X9_drift 107 [x0, x1, x2, x3, x4, x5] (.int (nI 17) :: st) h := R_bipush d_X9_drift_105 (by decide)
theorem d_X9_drift_107 : decode (mB M_X9_drift) 107 = .ok (.dup2, 1) := by decide +kernel
theorem r_X9_drift_107 {x0 x1 x2 x3 x4 x5 : Value} {x : Nat} {y : Int32} {st : List Value} {h : AH} : Run M_X9_drift 107 [x0, x1, x2, x3, x4, x5] (.int y :: .ref x :: st) h = Run M_X9_drift 108 [x0, x1, x2, x3, x4, x5] (.int y :: .ref x :: .int y :: .ref x :: st) h := R_dup2 d_X9_drift_107
theorem d_X9_drift_108 : decode (mB M_X9_drift) 108 = .ok (.iaload, 1) := by decide +kernel
theorem r_X9_drift_108 {x0 x1 x2 x3 x4 x5 : Value} {a : Nat} {i : Int32} {st : List Value} {h : AH} : Run M_X9_drift 108 [x0, x1, x2, x3, x4, x5] (.int i :: .ref a :: st) h = if (gI 0 h a i).isSome = true then Run M_X9_drift 109 [x0, x1, x2, x3, x4, x5] (.int ((gI 0 h a i).getD 0) :: st) h else none := R_iaload d_X9_drift_108
theorem d_X9_drift_109 : decode (mB M_X9_drift) 109 = .ok (.iconst 1, 1) := by decide +kernel
theorem r_X9_drift_109 {x0 x1 x2 x3 x4 x5 : Value} {st : List Value} {h : AH} : Run M_X9_drift 109 [x0, x1, x2, x3, x4, x5] st h = Run M_X9_drift 110 [x0, x1, x2, x3, x4, x5] (.int (nI 1) :: st) h := R_iconst d_X9_drift_109 (by decide)
theorem d_X9_drift_110 : decode (mB M_X9_drift) 110 = .ok (.iadd, 1) := by decide +kernel
theorem r_X9_drift_110 {x0 x1 x2 x3 x4 x5 : Value} {x y : Int32} {st : List Value} {h : AH} : Run M_X9_drift 110 [x0, x1, x2, x3, x4, x5] (.int y :: .int x :: st) h = Run M_X9_drift 111 [x0, x1, x2, x3, x4, x5] (.int (x + y) :: st) h := R_iadd d_X9_drift_110
theorem d_X9_drift_111 : decode (mB M_X9_drift) 111 = .ok (.iastore, 1) := by decide +kernel
theorem r_X9_drift_111 {x0 x1 x2 x3 x4 x5 : Value} {a : Nat} {i x : Int32} {st : List Value} {h : AH} : Run M_X9_drift 111 [x0, x1, x2, x3, x4, x5] (.int x :: .int i :: .ref a :: st) h = if (pI 0 h a i x).isSome = true then Run M_X9_drift 112 [x0, x1, x2, x3, x4, x5] st ((pI 0 h a i x).getD h) else none := R_iastore d_X9_drift_111
theorem d_X9_drift_112 : decode (mB M_X9_drift) 112 = .ok (.iinc 3 1, 3) := by decide +kernel
theorem r_X9_drift_112 {x0 x1 x2 x4 x5 : Value} {a : Int32} {st : List Value} {h : AH} (hc : x2.category = 1) : Run M_X9_drift 112 [x0, x1, x2, .int a, x4, x5] st h = Run M_X9_drift 115 [x0, x1, x2, .int (a + (nI 1)), x4, x5] st h := R_iinc d_X9_drift_112 (by decide) rfl (catP_of rfl hc)
theorem d_X9_drift_115 : decode (mB M_X9_drift) 115 = .ok (.goto (-95), 3) := by decide +kernel
theorem r_X9_drift_115 {x0 x1 x2 x3 x4 x5 : Value} {st : List Value} {h : AH} : Run M_X9_drift 115 [x0, x1, x2, x3, x4, x5] st h = Run M_X9_drift 20 [x0, x1, x2, x3, x4, x5] st h := R_goto d_X9_drift_115 (by decide)
theorem d_X9_drift_118 : decode (mB M_X9_drift) 118 = .ok (.aload_n 0, 1) := by decide +kernel
theorem r_X9_drift_118 {x1 x2 x3 x4 x5 : Value} {a : Nat} {st : List Value} {h : AH} : Run M_X9_drift 118 [.ref a, x1, x2, x3, x4, x5] st h = Run M_X9_drift 119 [.ref a, x1, x2, x3, x4, x5] (.ref a :: st) h := R_aload_n d_X9_drift_118 rfl
theorem d_X9_drift_119 : decode (mB M_X9_drift) 119 = .ok (.getfield 7, 3) := by decide +kernel
theorem r_X9_drift_119 {x0 x1 x2 x3 x4 x5 : Value} {a : Nat} {st : List Value} {h : AH} : Run M_X9_drift 119 [x0, x1, x2, x3, x4, x5] (.ref a :: st) h = if (gF h a 9 0).isSome = true then Run M_X9_drift 122 [x0, x1, x2, x3, x4, x5] ((gF h a 9 0).getD .null :: st) h else none := R_getfield d_X9_drift_119 rfl
theorem d_X9_drift_122 : decode (mB M_X9_drift) 122 = .ok (.bipush 16, 2) := by decide +kernel
theorem r_X9_drift_122 {x0 x1 x2 x3 x4 x5 : Value} {st : List Value} {h : AH} : Run M_X9_drift 122 [x0, x1, x2, x3, x4, x5] st h = Run M_X9_drift 124 [x0, x1, x2, x3, x4, x5] (.int (nI 16) :: st) h := R_bipush d_X9_drift_122 (by decide)
theorem d_X9_drift_124 : decode (mB M_X9_drift) 124 = .ok (.iaload, 1) := by decide +kernel
theorem r_X9_drift_124 {x0 x1 x2 x3 x4 x5 : Value} {a : Nat} {i : Int32} {st : List Value} {h : AH} : Run M_X9_drift 124 [x0, x1, x2, x3, x4, x5] (.int i :: .ref a :: st) h = if (gI 0 h a i).isSome = true then Run M_X9_drift 125 [x0, x1, x2, x3, x4, x5] (.int ((gI 0 h a i).getD 0) :: st) h else none := R_iaload d_X9_drift_124
theorem d_X9_drift_125 : decode (mB M_X9_drift) 125 = .ok (.ireturn, 1) := by decide +kernel
theorem r_X9_drift_125 {x0 x1 x2 x3 x4 x5 : Value} {v : Int32} {h : AH} : Run M_X9_drift 125 [x0, x1, x2, x3, x4, x5] [.int v] h = some (h, some (.int v)) := R_ireturn d_X9_drift_125 rfl rfl
theorem d_X9_findWeights_0 : decode (mB M_X9_findWeights) 0 = .ok (.iconst 0, 1) := by decide +kernel
theorem r_X9_findWeights_0 {x0 x1 x2 x3 x4 x5 : Value} {st : List Value} {h : AH} : Run M_X9_findWeights 0 [x0, x1, x2, x3, x4, x5] st h = Run M_X9_findWeights 1 [x0, x1, x2, x3, x4, x5] (.int (nI 0) :: st) h := R_iconst d_X9_findWeights_0 (by decide)
theorem d_X9_findWeights_1 : decode (mB M_X9_findWeights) 1 = .ok (.istore_n 2, 1) := by decide +kernel
theorem r_X9_findWeights_1 {x0 x1 x2 x3 x4 x5 : Value} {a : Int32} {st : List Value} {h : AH} (hc : x1.category = 1) : Run M_X9_findWeights 1 [x0, x1, x2, x3, x4, x5] (.int a :: st) h = Run M_X9_findWeights 2 [x0, x1, .int a, x3, x4, x5] st h := R_istore_n d_X9_findWeights_1 (Nat.lt_of_lt_of_le (by decide : 2 < 6) (Nat.le_refl 6)) (catP_of rfl hc)
theorem d_X9_findWeights_2 : decode (mB M_X9_findWeights) 2 = .ok (.iload_n 2, 1) := by decide +kernel
theorem r_X9_findWeights_2 {x0 x1 x3 x4 x5 : Value} {a : Int32} {st : List Value} {h : AH} : Run M_X9_findWeights 2 [x0, x1, .int a, x3, x4, x5] st h = Run M_X9_findWeights 3 [x0, x1, .int a, x3, x4, x5] (.int a :: st) h := R_iload_n d_X9_findWeights_2 rfl
theorem d_X9_findWeights_3 : decode (mB M_X9_findWeights) 3 = .ok (.sipush 420, 3) := by decide +kernel
theorem r_X9_findWeights_3 {x0 x1 x2 x3 x4 x5 : Value} {st : List Value} {h : AH} : Run M_X9_findWeights 3 [x0, x1, x2, x3, x4, x5] st h = Run M_X9_findWeights 6 [x0, x1, x2, x3, x4, x5] (.int (nI 420) :: st) h := R_sipush d_X9_findWeights_3 (by decide)
theorem d_X9_findWeights_6 : decode (mB M_X9_findWeights) 6 = .ok (.if_icmp .gt 24, 3) := by decide +kernel
theorem r_X9_findWeights_6 {x0 x1 x2 x3 x4 x5 : Value} {x y : Int32} {st : List Value} {h : AH} : Run M_X9_findWeights 6 [x0, x1, x2, x3, x4, x5] (.int y :: .int x :: st) h = if y < x then Run M_X9_findWeights 30 [x0, x1, x2, x3, x4, x5] st h else Run M_X9_findWeights 9 [x0, x1, x2, x3, x4, x5] st h := R_icmp_gt d_X9_findWeights_6 (by decide)
theorem d_X9_findWeights_9 : decode (mB M_X9_findWeights) 9 = .ok (.aload_n 0, 1) := by decide +kernel
theorem r_X9_findWeights_9 {x1 x2 x3 x4 x5 : Value} {a : Nat} {st : List Value} {h : AH} : Run M_X9_findWeights 9 [.ref a, x1, x2, x3, x4, x5] st h = Run M_X9_findWeights 10 [.ref a, x1, x2, x3, x4, x5] (.ref a :: st) h := R_aload_n d_X9_findWeights_9 rfl
theorem d_X9_findWeights_10 : decode (mB M_X9_findWeights) 10 = .ok (.getfield 69, 3) := by decide +kernel
theorem r_X9_findWeights_10 {x0 x1 x2 x3 x4 x5 : Value} {a : Nat} {st : List Value} {h : AH} : Run M_X9_findWeights 10 [x0, x1, x2, x3, x4, x5] (.ref a :: st) h = if (gF h a 9 34).isSome = true then Run M_X9_findWeights 13 [x0, x1, x2, x3, x4, x5] ((gF h a 9 34).getD .null :: st) h else none := R_getfield d_X9_findWeights_10 rfl
theorem d_X9_findWeights_13 : decode (mB M_X9_findWeights) 13 = .ok (.iload_n 2, 1) := by decide +kernel
theorem r_X9_findWeights_13 {x0 x1 x3 x4 x5 : Value} {a : Int32} {st : List Value} {h : AH} : Run M_X9_findWeights 13 [x0, x1, .int a, x3, x4, x5] st h = Run M_X9_findWeights 14 [x0, x1, .int a, x3, x4, x5] (.int a :: st) h := R_iload_n d_X9_findWeights_13 rfl
theorem d_X9_findWeights_14 : decode (mB M_X9_findWeights) 14 = .ok (.iload_n 2, 1) := by decide +kernel
theorem r_X9_findWeights_14 {x0 x1 x3 x4 x5 : Value} {a : Int32} {st : List Value} {h : AH} : Run M_X9_findWeights 14 [x0, x1, .int a, x3, x4, x5] st h = Run M_X9_findWeights 15 [x0, x1, .int a, x3, x4, x5] (.int a :: st) h := R_iload_n d_X9_findWeights_14 rfl
theorem d_X9_findWeights_15 : decode (mB M_X9_findWeights) 15 = .ok (.ifCond .ne 7, 3) := by decide +kernel
theorem r_X9_findWeights_15 {x0 x1 x2 x3 x4 x5 : Value} {x : Int32} {st : List Value} {h : AH} : Run M_X9_findWeights 15 [x0, x1, x2, x3, x4, x5] (.int x :: st) h = if x = nI 0 then Run M_X9_findWeights 18 [x0, x1, x2, x3, x4, x5] st h else Run M_X9_findWeights 22 [x0, x1, x2, x3, x4, x5] st h := R_if_ne d_X9_findWeights_15 (by decide)
theorem d_X9_findWeights_18 : decode (mB M_X9_findWeights) 18 = .ok (.lconst 1, 1) := by decide +kernel
theorem r_X9_findWeights_18 {x0 x1 x2 x3 x4 x5 : Value} {st : List Value} {h : AH} : Run M_X9_findWeights 18 [x0, x1, x2, x3, x4, x5] st h = Run M_X9_findWeights 19 [x0, x1, x2, x3, x4, x5] (.long (lN 1) :: st) h := R_lconst d_X9_findWeights_18 (by decide)
theorem d_X9_findWeights_19 : decode (mB M_X9_findWeights) 19 = .ok (.goto 4, 3) := by decide +kernel
theorem r_X9_findWeights_19 {x0 x1 x2 x3 x4 x5 : Value} {st : List Value} {h : AH} : Run M_X9_findWeights 19 [x0, x1, x2, x3, x4, x5] st h = Run M_X9_findWeights 23 [x0, x1, x2, x3, x4, x5] st h := R_goto d_X9_findWeights_19 (by decide)
theorem d_X9_findWeights_22 : decode (mB M_X9_findWeights) 22 = .ok (.lconst 0, 1) := by decide +kernel
theorem r_X9_findWeights_22 {x0 x1 x2 x3 x4 x5 : Value} {st : List Value} {h : AH} : Run M_X9_findWeights 22 [x0, x1, x2, x3, x4, x5] st h = Run M_X9_findWeights 23 [x0, x1, x2, x3, x4, x5] (.long (lN 0) :: st) h := R_lconst d_X9_findWeights_22 (by decide)
theorem d_X9_findWeights_23 : decode (mB M_X9_findWeights) 23 = .ok (.lastore, 1) := by decide +kernel
theorem r_X9_findWeights_23 {x0 x1 x2 x3 x4 x5 : Value} {a : Nat} {i : Int32} {x : Int64} {st : List Value} {h : AH} : Run M_X9_findWeights 23 [x0, x1, x2, x3, x4, x5] (.long x :: .int i :: .ref a :: st) h = if (pJ h a i x).isSome = true then Run M_X9_findWeights 24 [x0, x1, x2, x3, x4, x5] st ((pJ h a i x).getD h) else none := R_lastore d_X9_findWeights_23
theorem d_X9_findWeights_24 : decode (mB M_X9_findWeights) 24 = .ok (.iinc 2 1, 3) := by decide +kernel
theorem r_X9_findWeights_24 {x0 x1 x3 x4 x5 : Value} {a : Int32} {st : List Value} {h : AH} (hc : x1.category = 1) : Run M_X9_findWeights 24 [x0, x1, .int a, x3, x4, x5] st h = Run M_X9_findWeights 27 [x0, x1, .int (a + (nI 1)), x3, x4, x5] st h := R_iinc d_X9_findWeights_24 (by decide) rfl (catP_of rfl hc)
theorem d_X9_findWeights_27 : decode (mB M_X9_findWeights) 27 = .ok (.goto (-25), 3) := by decide +kernel
theorem r_X9_findWeights_27 {x0 x1 x2 x3 x4 x5 : Value} {st : List Value} {h : AH} : Run M_X9_findWeights 27 [x0, x1, x2, x3, x4, x5] st h = Run M_X9_findWeights 2 [x0, x1, x2, x3, x4, x5] st h := R_goto d_X9_findWeights_27 (by decide)
theorem d_X9_findWeights_30 : decode (mB M_X9_findWeights) 30 = .ok (.iconst 0, 1) := by decide +kernel
theorem r_X9_findWeights_30 {x0 x1 x2 x3 x4 x5 : Value} {st : List Value} {h : AH} : Run M_X9_findWeights 30 [x0, x1, x2, x3, x4, x5] st h = Run M_X9_findWeights 31 [x0, x1, x2, x3, x4, x5] (.int (nI 0) :: st) h := R_iconst d_X9_findWeights_30 (by decide)
theorem d_X9_findWeights_31 : decode (mB M_X9_findWeights) 31 = .ok (.istore_n 2, 1) := by decide +kernel
theorem r_X9_findWeights_31 {x0 x1 x2 x3 x4 x5 : Value} {a : Int32} {st : List Value} {h : AH} (hc : x1.category = 1) : Run M_X9_findWeights 31 [x0, x1, x2, x3, x4, x5] (.int a :: st) h = Run M_X9_findWeights 32 [x0, x1, .int a, x3, x4, x5] st h := R_istore_n d_X9_findWeights_31 (Nat.lt_of_lt_of_le (by decide : 2 < 6) (Nat.le_refl 6)) (catP_of rfl hc)
theorem d_X9_findWeights_32 : decode (mB M_X9_findWeights) 32 = .ok (.iload_n 2, 1) := by decide +kernel
theorem r_X9_findWeights_32 {x0 x1 x3 x4 x5 : Value} {a : Int32} {st : List Value} {h : AH} : Run M_X9_findWeights 32 [x0, x1, .int a, x3, x4, x5] st h = Run M_X9_findWeights 33 [x0, x1, .int a, x3, x4, x5] (.int a :: st) h := R_iload_n d_X9_findWeights_32 rfl
theorem d_X9_findWeights_33 : decode (mB M_X9_findWeights) 33 = .ok (.iload_n 1, 1) := by decide +kernel
theorem r_X9_findWeights_33 {x0 x2 x3 x4 x5 : Value} {a : Int32} {st : List Value} {h : AH} : Run M_X9_findWeights 33 [x0, .int a, x2, x3, x4, x5] st h = Run M_X9_findWeights 34 [x0, .int a, x2, x3, x4, x5] (.int a :: st) h := R_iload_n d_X9_findWeights_33 rfl
theorem d_X9_findWeights_34 : decode (mB M_X9_findWeights) 34 = .ok (.if_icmp .ge 143, 3) := by decide +kernel
theorem r_X9_findWeights_34 {x0 x1 x2 x3 x4 x5 : Value} {x y : Int32} {st : List Value} {h : AH} : Run M_X9_findWeights 34 [x0, x1, x2, x3, x4, x5] (.int y :: .int x :: st) h = if y ≤ x then Run M_X9_findWeights 177 [x0, x1, x2, x3, x4, x5] st h else Run M_X9_findWeights 37 [x0, x1, x2, x3, x4, x5] st h := R_icmp_ge d_X9_findWeights_34 (by decide)
theorem d_X9_findWeights_37 : decode (mB M_X9_findWeights) 37 = .ok (.iconst 0, 1) := by decide +kernel
theorem r_X9_findWeights_37 {x0 x1 x2 x3 x4 x5 : Value} {st : List Value} {h : AH} : Run M_X9_findWeights 37 [x0, x1, x2, x3, x4, x5] st h = Run M_X9_findWeights 38 [x0, x1, x2, x3, x4, x5] (.int (nI 0) :: st) h := R_iconst d_X9_findWeights_37 (by decide)
theorem d_X9_findWeights_38 : decode (mB M_X9_findWeights) 38 = .ok (.istore_n 3, 1) := by decide +kernel
theorem r_X9_findWeights_38 {x0 x1 x2 x3 x4 x5 : Value} {a : Int32} {st : List Value} {h : AH} (hc : x2.category = 1) : Run M_X9_findWeights 38 [x0, x1, x2, x3, x4, x5] (.int a :: st) h = Run M_X9_findWeights 39 [x0, x1, x2, .int a, x4, x5] st h := R_istore_n d_X9_findWeights_38 (Nat.lt_of_lt_of_le (by decide : 3 < 6) (Nat.le_refl 6)) (catP_of rfl hc)
theorem d_X9_findWeights_39 : decode (mB M_X9_findWeights) 39 = .ok (.iload_n 3, 1) := by decide +kernel
theorem r_X9_findWeights_39 {x0 x1 x2 x4 x5 : Value} {a : Int32} {st : List Value} {h : AH} : Run M_X9_findWeights 39 [x0, x1, x2, .int a, x4, x5] st h = Run M_X9_findWeights 40 [x0, x1, x2, .int a, x4, x5] (.int a :: st) h := R_iload_n d_X9_findWeights_39 rfl
theorem d_X9_findWeights_40 : decode (mB M_X9_findWeights) 40 = .ok (.sipush 420, 3) := by decide +kernel
theorem r_X9_findWeights_40 {x0 x1 x2 x3 x4 x5 : Value} {st : List Value} {h : AH} : Run M_X9_findWeights 40 [x0, x1, x2, x3, x4, x5] st h = Run M_X9_findWeights 43 [x0, x1, x2, x3, x4, x5] (.int (nI 420) :: st) h := R_sipush d_X9_findWeights_40 (by decide)
theorem d_X9_findWeights_43 : decode (mB M_X9_findWeights) 43 = .ok (.if_icmp .gt 49, 3) := by decide +kernel
theorem r_X9_findWeights_43 {x0 x1 x2 x3 x4 x5 : Value} {x y : Int32} {st : List Value} {h : AH} : Run M_X9_findWeights 43 [x0, x1, x2, x3, x4, x5] (.int y :: .int x :: st) h = if y < x then Run M_X9_findWeights 92 [x0, x1, x2, x3, x4, x5] st h else Run M_X9_findWeights 46 [x0, x1, x2, x3, x4, x5] st h := R_icmp_gt d_X9_findWeights_43 (by decide)
theorem d_X9_findWeights_46 : decode (mB M_X9_findWeights) 46 = .ok (.aload_n 0, 1) := by decide +kernel
theorem r_X9_findWeights_46 {x1 x2 x3 x4 x5 : Value} {a : Nat} {st : List Value} {h : AH} : Run M_X9_findWeights 46 [.ref a, x1, x2, x3, x4, x5] st h = Run M_X9_findWeights 47 [.ref a, x1, x2, x3, x4, x5] (.ref a :: st) h := R_aload_n d_X9_findWeights_46 rfl
theorem d_X9_findWeights_47 : decode (mB M_X9_findWeights) 47 = .ok (.getfield 73, 3) := by decide +kernel
theorem r_X9_findWeights_47 {x0 x1 x2 x3 x4 x5 : Value} {a : Nat} {st : List Value} {h : AH} : Run M_X9_findWeights 47 [x0, x1, x2, x3, x4, x5] (.ref a :: st) h = if (gF h a 9 35).isSome = true then Run M_X9_findWeights 50 [x0, x1, x2, x3, x4, x5] ((gF h a 9 35).getD .null :: st) h else none := R_getfield d_X9_findWeights_47 rfl
theorem d_X9_findWeights_50 : decode (mB M_X9_findWeights) 50 = .ok (.iload_n 3, 1) := by decide +kernel
theorem r_X9_findWeights_50 {x0 x1 x2 x4 x5 : Value} {a : Int32} {st : List Value} {h : AH} : Run M_X9_findWeights 50 [x0, x1, x2, .int a, x4, x5] st h = Run M_X9_findWeights 51 [x0, x1, x2, .int a, x4, x5] (.int a :: st) h := R_iload_n d_X9_findWeights_50 rfl
theorem d_X9_findWeights_51 : decode (mB M_X9_findWeights) 51 = .ok (.aload_n 0, 1) := by decide +kernel
theorem r_X9_findWeights_51 {x1 x2 x3 x4 x5 : Value} {a : Nat} {st : List Value} {h : AH} : Run M_X9_findWeights 51 [.ref a, x1, x2, x3, x4, x5] st h = Run M_X9_findWeights 52 [.ref a, x1, x2, x3, x4, x5] (.ref a :: st) h := R_aload_n d_X9_findWeights_51 rfl
theorem d_X9_findWeights_52 : decode (mB M_X9_findWeights) 52 = .ok (.getfield 69, 3) := by decide +kernel
theorem r_X9_findWeights_52 {x0 x1 x2 x3 x4 x5 : Value} {a : Nat} {st : List Value} {h : AH} : Run M_X9_findWeights 52 [x0, x1, x2, x3, x4, x5] (.ref a :: st) h = if (gF h a 9 34).isSome = true then Run M_X9_findWeights 55 [x0, x1, x2, x3, x4, x5] ((gF h a 9 34).getD .null :: st) h else none := R_getfield d_X9_findWeights_52 rfl
theorem d_X9_findWeights_55 : decode (mB M_X9_findWeights) 55 = .ok (.iload_n 3, 1) := by decide +kernel
theorem r_X9_findWeights_55 {x0 x1 x2 x4 x5 : Value} {a : Int32} {st : List Value} {h : AH} : Run M_X9_findWeights 55 [x0, x1, x2, .int a, x4, x5] st h = Run M_X9_findWeights 56 [x0, x1, x2, .int a, x4, x5] (.int a :: st) h := R_iload_n d_X9_findWeights_55 rfl
theorem d_X9_findWeights_56 : decode (mB M_X9_findWeights) 56 = .ok (.laload, 1) := by decide +kernel
theorem r_X9_findWeights_56 {x0 x1 x2 x3 x4 x5 : Value} {a : Nat} {i : Int32} {st : List Value} {h : AH} : Run M_X9_findWeights 56 [x0, x1, x2, x3, x4, x5] (.int i :: .ref a :: st) h = if (gJ h a i).isSome = true then Run M_X9_findWeights 57 [x0, x1, x2, x3, x4, x5] (.long ((gJ h a i).getD 0) :: st) h else none := R_laload d_X9_findWeights_56
theorem d_X9_findWeights_57 : decode (mB M_X9_findWeights) 57 = .ok (.lastore, 1) := by decide +kernel
theorem r_X9_findWeights_57 {x0 x1 x2 x3 x4 x5 : Value} {a : Nat} {i : Int32} {x : Int64} {st : List Value} {h : AH} : Run M_X9_findWeights 57 [x0, x1, x2, x3, x4, x5] (.long x :: .int i :: .ref a :: st) h = if (pJ h a i x).isSome = true then Run M_X9_findWeights 58 [x0, x1, x2, x3, x4, x5] st ((pJ h a i x).getD h) else none := R_lastore d_X9_findWeights_57
theorem d_X9_findWeights_58 : decode (mB M_X9_findWeights) 58 = .ok (.aload_n 0, 1) := by decide +kernel
theorem r_X9_findWeights_58 {x1 x2 x3 x4 x5 : Value} {a : Nat} {st : List Value} {h : AH} : Run M_X9_findWeights 58 [.ref a, x1, x2, x3, x4, x5] st h = Run M_X9_findWeights 59 [.ref a, x1, x2, x3, x4, x5] (.ref a :: st) h := R_aload_n d_X9_findWeights_58 rfl
theorem d_X9_findWeights_59 : decode (mB M_X9_findWeights) 59 = .ok (.getfield 69, 3) := by decide +kernel
theorem r_X9_findWeights_59 {x0 x1 x2 x3 x4 x5 : Value} {a : Nat} {st : List Value} {h : AH} : Run M_X9_findWeights 59 [x0, x1, x2, x3, x4, x5] (.ref a :: st) h = if (gF h a 9 34).isSome = true then Run M_X9_findWeights 62 [x0, x1, x2, x3, x4, x5] ((gF h a 9 34).getD .null :: st) h else none := R_getfield d_X9_findWeights_59 rfl
theorem d_X9_findWeights_62 : decode (mB M_X9_findWeights) 62 = .ok (.iload_n 3, 1) := by decide +kernel
theorem r_X9_findWeights_62 {x0 x1 x2 x4 x5 : Value} {a : Int32} {st : List Value} {h : AH} : Run M_X9_findWeights 62 [x0, x1, x2, .int a, x4, x5] st h = Run M_X9_findWeights 63 [x0, x1, x2, .int a, x4, x5] (.int a :: st) h := R_iload_n d_X9_findWeights_62 rfl
theorem d_X9_findWeights_63 : decode (mB M_X9_findWeights) 63 = .ok (.aload_n 0, 1) := by decide +kernel
theorem r_X9_findWeights_63 {x1 x2 x3 x4 x5 : Value} {a : Nat} {st : List Value} {h : AH} : Run M_X9_findWeights 63 [.ref a, x1, x2, x3, x4, x5] st h = Run M_X9_findWeights 64 [.ref a, x1, x2, x3, x4, x5] (.ref a :: st) h := R_aload_n d_X9_findWeights_63 rfl
theorem d_X9_findWeights_64 : decode (mB M_X9_findWeights) 64 = .ok (.getfield 73, 3) := by decide +kernel
theorem r_X9_findWeights_64 {x0 x1 x2 x3 x4 x5 : Value} {a : Nat} {st : List Value} {h : AH} : Run M_X9_findWeights 64 [x0, x1, x2, x3, x4, x5] (.ref a :: st) h = if (gF h a 9 35).isSome = true then Run M_X9_findWeights 67 [x0, x1, x2, x3, x4, x5] ((gF h a 9 35).getD .null :: st) h else none := R_getfield d_X9_findWeights_64 rfl
theorem d_X9_findWeights_67 : decode (mB M_X9_findWeights) 67 = .ok (.iload_n 3, 1) := by decide +kernel
theorem r_X9_findWeights_67 {x0 x1 x2 x4 x5 : Value} {a : Int32} {st : List Value} {h : AH} : Run M_X9_findWeights 67 [x0, x1, x2, .int a, x4, x5] st h = Run M_X9_findWeights 68 [x0, x1, x2, .int a, x4, x5] (.int a :: st) h := R_iload_n d_X9_findWeights_67 rfl
theorem d_X9_findWeights_68 : decode (mB M_X9_findWeights) 68 = .ok (.laload, 1) := by decide +kernel
theorem r_X9_findWeights_68 {x0 x1 x2 x3 x4 x5 : Value} {a : Nat} {i : Int32} {st : List Value} {h : AH} : Run M_X9_findWeights 68 [x0, x1, x2, x3, x4, x5] (.int i :: .ref a :: st) h = if (gJ h a i).isSome = true then Run M_X9_findWeights 69 [x0, x1, x2, x3, x4, x5] (.long ((gJ h a i).getD 0) :: st) h else none := R_laload d_X9_findWeights_68
theorem d_X9_findWeights_69 : decode (mB M_X9_findWeights) 69 = .ok (.aload_n 0, 1) := by decide +kernel
theorem r_X9_findWeights_69 {x1 x2 x3 x4 x5 : Value} {a : Nat} {st : List Value} {h : AH} : Run M_X9_findWeights 69 [.ref a, x1, x2, x3, x4, x5] st h = Run M_X9_findWeights 70 [.ref a, x1, x2, x3, x4, x5] (.ref a :: st) h := R_aload_n d_X9_findWeights_69 rfl
theorem d_X9_findWeights_70 : decode (mB M_X9_findWeights) 70 = .ok (.getfield 23, 3) := by decide +kernel
theorem r_X9_findWeights_70 {x0 x1 x2 x3 x4 x5 : Value} {a : Nat} {st : List Value} {h : AH} : Run M_X9_findWeights 70 [x0, x1, x2, x3, x4, x5] (.ref a :: st) h = if (gF h a 9 5).isSome = true then Run M_X9_findWeights 73 [x0, x1, x2, x3, x4, x5] ((gF h a 9 5).getD .null :: st) h else none := R_getfield d_X9_findWeights_70 rfl
theorem d_X9_findWeights_73 : decode (mB M_X9_findWeights) 73 = .ok (.iload_n 2, 1) := by decide +kernel
theorem r_X9_findWeights_73 {x0 x1 x3 x4 x5 : Value} {a : Int32} {st : List Value} {h : AH} : Run M_X9_findWeights 73 [x0, x1, .int a, x3, x4, x5] st h = Run M_X9_findWeights 74 [x0, x1, .int a, x3, x4, x5] (.int a :: st) h := R_iload_n d_X9_findWeights_73 rfl
theorem d_X9_findWeights_74 : decode (mB M_X9_findWeights) 74 = .ok (.iaload, 1) := by decide +kernel
theorem r_X9_findWeights_74 {x0 x1 x2 x3 x4 x5 : Value} {a : Nat} {i : Int32} {st : List Value} {h : AH} : Run M_X9_findWeights 74 [x0, x1, x2, x3, x4, x5] (.int i :: .ref a :: st) h = if (gI 0 h a i).isSome = true then Run M_X9_findWeights 75 [x0, x1, x2, x3, x4, x5] (.int ((gI 0 h a i).getD 0) :: st) h else none := R_iaload d_X9_findWeights_74
theorem d_X9_findWeights_75 : decode (mB M_X9_findWeights) 75 = .ok (.i2l, 1) := by decide +kernel
theorem r_X9_findWeights_75 {x0 x1 x2 x3 x4 x5 : Value} {x : Int32} {st : List Value} {h : AH} : Run M_X9_findWeights 75 [x0, x1, x2, x3, x4, x5] (.int x :: st) h = Run M_X9_findWeights 76 [x0, x1, x2, x3, x4, x5] (.long x.toInt64 :: st) h := R_i2l d_X9_findWeights_75
theorem d_X9_findWeights_76 : decode (mB M_X9_findWeights) 76 = .ok (.lmul, 1) := by decide +kernel
theorem r_X9_findWeights_76 {x0 x1 x2 x3 x4 x5 : Value} {x y : Int64} {st : List Value} {h : AH} : Run M_X9_findWeights 76 [x0, x1, x2, x3, x4, x5] (.long y :: .long x :: st) h = Run M_X9_findWeights 77 [x0, x1, x2, x3, x4, x5] (.long (x * y) :: st) h := R_lmul d_X9_findWeights_76
theorem d_X9_findWeights_77 : decode (mB M_X9_findWeights) 77 = .ok (.aload_n 0, 1) := by decide +kernel
theorem r_X9_findWeights_77 {x1 x2 x3 x4 x5 : Value} {a : Nat} {st : List Value} {h : AH} : Run M_X9_findWeights 77 [.ref a, x1, x2, x3, x4, x5] st h = Run M_X9_findWeights 78 [.ref a, x1, x2, x3, x4, x5] (.ref a :: st) h := R_aload_n d_X9_findWeights_77 rfl
theorem d_X9_findWeights_78 : decode (mB M_X9_findWeights) 78 = .ok (.getfield 29, 3) := by decide +kernel
theorem r_X9_findWeights_78 {x0 x1 x2 x3 x4 x5 : Value} {a : Nat} {st : List Value} {h : AH} : Run M_X9_findWeights 78 [x0, x1, x2, x3, x4, x5] (.ref a :: st) h = if (gF h a 9 7).isSome = true then Run M_X9_findWeights 81 [x0, x1, x2, x3, x4, x5] ((gF h a 9 7).getD .null :: st) h else none := R_getfield d_X9_findWeights_78 rfl
theorem d_X9_findWeights_81 : decode (mB M_X9_findWeights) 81 = .ok (.iload_n 2, 1) := by decide +kernel
theorem r_X9_findWeights_81 {x0 x1 x3 x4 x5 : Value} {a : Int32} {st : List Value} {h : AH} : Run M_X9_findWeights 81 [x0, x1, .int a, x3, x4, x5] st h = Run M_X9_findWeights 82 [x0, x1, .int a, x3, x4, x5] (.int a :: st) h := R_iload_n d_X9_findWeights_81 rfl
theorem d_X9_findWeights_82 : decode (mB M_X9_findWeights) 82 = .ok (.iaload, 1) := by decide +kernel
theorem r_X9_findWeights_82 {x0 x1 x2 x3 x4 x5 : Value} {a : Nat} {i : Int32} {st : List Value} {h : AH} : Run M_X9_findWeights 82 [x0, x1, x2, x3, x4, x5] (.int i :: .ref a :: st) h = if (gI 0 h a i).isSome = true then Run M_X9_findWeights 83 [x0, x1, x2, x3, x4, x5] (.int ((gI 0 h a i).getD 0) :: st) h else none := R_iaload d_X9_findWeights_82
theorem d_X9_findWeights_83 : decode (mB M_X9_findWeights) 83 = .ok (.i2l, 1) := by decide +kernel
theorem r_X9_findWeights_83 {x0 x1 x2 x3 x4 x5 : Value} {x : Int32} {st : List Value} {h : AH} : Run M_X9_findWeights 83 [x0, x1, x2, x3, x4, x5] (.int x :: st) h = Run M_X9_findWeights 84 [x0, x1, x2, x3, x4, x5] (.long x.toInt64 :: st) h := R_i2l d_X9_findWeights_83
theorem d_X9_findWeights_84 : decode (mB M_X9_findWeights) 84 = .ok (.lmul, 1) := by decide +kernel
theorem r_X9_findWeights_84 {x0 x1 x2 x3 x4 x5 : Value} {x y : Int64} {st : List Value} {h : AH} : Run M_X9_findWeights 84 [x0, x1, x2, x3, x4, x5] (.long y :: .long x :: st) h = Run M_X9_findWeights 85 [x0, x1, x2, x3, x4, x5] (.long (x * y) :: st) h := R_lmul d_X9_findWeights_84
theorem d_X9_findWeights_85 : decode (mB M_X9_findWeights) 85 = .ok (.lastore, 1) := by decide +kernel
theorem r_X9_findWeights_85 {x0 x1 x2 x3 x4 x5 : Value} {a : Nat} {i : Int32} {x : Int64} {st : List Value} {h : AH} : Run M_X9_findWeights 85 [x0, x1, x2, x3, x4, x5] (.long x :: .int i :: .ref a :: st) h = if (pJ h a i x).isSome = true then Run M_X9_findWeights 86 [x0, x1, x2, x3, x4, x5] st ((pJ h a i x).getD h) else none := R_lastore d_X9_findWeights_85
theorem d_X9_findWeights_86 : decode (mB M_X9_findWeights) 86 = .ok (.iinc 3 1, 3) := by decide +kernel
theorem r_X9_findWeights_86 {x0 x1 x2 x4 x5 : Value} {a : Int32} {st : List Value} {h : AH} (hc : x2.category = 1) : Run M_X9_findWeights 86 [x0, x1, x2, .int a, x4, x5] st h = Run M_X9_findWeights 89 [x0, x1, x2, .int (a + (nI 1)), x4, x5] st h := R_iinc d_X9_findWeights_86 (by decide) rfl (catP_of rfl hc)
theorem d_X9_findWeights_89 : decode (mB M_X9_findWeights) 89 = .ok (.goto (-50), 3) := by decide +kernel
theorem r_X9_findWeights_89 {x0 x1 x2 x3 x4 x5 : Value} {st : List Value} {h : AH} : Run M_X9_findWeights 89 [x0, x1, x2, x3, x4, x5] st h = Run M_X9_findWeights 39 [x0, x1, x2, x3, x4, x5] st h := R_goto d_X9_findWeights_89 (by decide)
theorem d_X9_findWeights_92 : decode (mB M_X9_findWeights) 92 = .ok (.iconst 0, 1) := by decide +kernel
theorem r_X9_findWeights_92 {x0 x1 x2 x3 x4 x5 : Value} {st : List Value} {h : AH} : Run M_X9_findWeights 92 [x0, x1, x2, x3, x4, x5] st h = Run M_X9_findWeights 93 [x0, x1, x2, x3, x4, x5] (.int (nI 0) :: st) h := R_iconst d_X9_findWeights_92 (by decide)
theorem d_X9_findWeights_93 : decode (mB M_X9_findWeights) 93 = .ok (.istore_n 3, 1) := by decide +kernel
theorem r_X9_findWeights_93 {x0 x1 x2 x3 x4 x5 : Value} {a : Int32} {st : List Value} {h : AH} (hc : x2.category = 1) : Run M_X9_findWeights 93 [x0, x1, x2, x3, x4, x5] (.int a :: st) h = Run M_X9_findWeights 94 [x0, x1, x2, .int a, x4, x5] st h := R_istore_n d_X9_findWeights_93 (Nat.lt_of_lt_of_le (by decide : 3 < 6) (Nat.le_refl 6)) (catP_of rfl hc)
theorem d_X9_findWeights_94 : decode (mB M_X9_findWeights) 94 = .ok (.iload_n 3, 1) := by decide +kernel
theorem r_X9_findWeights_94 {x0 x1 x2 x4 x5 : Value} {a : Int32} {st : List Value} {h : AH} : Run M_X9_findWeights 94 [x0, x1, x2, .int a, x4, x5] st h = Run M_X9_findWeights 95 [x0, x1, x2, .int a, x4, x5] (.int a :: st) h := R_iload_n d_X9_findWeights_94 rfl
theorem d_X9_findWeights_95 : decode (mB M_X9_findWeights) 95 = .ok (.aload_n 0, 1) := by decide +kernel
theorem r_X9_findWeights_95 {x1 x2 x3 x4 x5 : Value} {a : Nat} {st : List Value} {h : AH} : Run M_X9_findWeights 95 [.ref a, x1, x2, x3, x4, x5] st h = Run M_X9_findWeights 96 [.ref a, x1, x2, x3, x4, x5] (.ref a :: st) h := R_aload_n d_X9_findWeights_95 rfl
theorem d_X9_findWeights_96 : decode (mB M_X9_findWeights) 96 = .ok (.getfield 29, 3) := by decide +kernel
theorem r_X9_findWeights_96 {x0 x1 x2 x3 x4 x5 : Value} {a : Nat} {st : List Value} {h : AH} : Run M_X9_findWeights 96 [x0, x1, x2, x3, x4, x5] (.ref a :: st) h = if (gF h a 9 7).isSome = true then Run M_X9_findWeights 99 [x0, x1, x2, x3, x4, x5] ((gF h a 9 7).getD .null :: st) h else none := R_getfield d_X9_findWeights_96 rfl
theorem d_X9_findWeights_99 : decode (mB M_X9_findWeights) 99 = .ok (.iload_n 2, 1) := by decide +kernel
theorem r_X9_findWeights_99 {x0 x1 x3 x4 x5 : Value} {a : Int32} {st : List Value} {h : AH} : Run M_X9_findWeights 99 [x0, x1, .int a, x3, x4, x5] st h = Run M_X9_findWeights 100 [x0, x1, .int a, x3, x4, x5] (.int a :: st) h := R_iload_n d_X9_findWeights_99 rfl
theorem d_X9_findWeights_100 : decode (mB M_X9_findWeights) 100 = .ok (.iaload, 1) := by decide +kernel
theorem r_X9_findWeights_100 {x0 x1 x2 x3 x4 x5 : Value} {a : Nat} {i : Int32} {st : List Value} {h : AH} : Run M_X9_findWeights 100 [x0, x1, x2, x3, x4, x5] (.int i :: .ref a :: st) h = if (gI 0 h a i).isSome = true then Run M_X9_findWeights 101 [x0, x1, x2, x3, x4, x5] (.int ((gI 0 h a i).getD 0) :: st) h else none := R_iaload d_X9_findWeights_100
theorem d_X9_findWeights_101 : decode (mB M_X9_findWeights) 101 = .ok (.if_icmp .ge 70, 3) := by decide +kernel
theorem r_X9_findWeights_101 {x0 x1 x2 x3 x4 x5 : Value} {x y : Int32} {st : List Value} {h : AH} : Run M_X9_findWeights 101 [x0, x1, x2, x3, x4, x5] (.int y :: .int x :: st) h = if y ≤ x then Run M_X9_findWeights 171 [x0, x1, x2, x3, x4, x5] st h else Run M_X9_findWeights 104 [x0, x1, x2, x3, x4, x5] st h := R_icmp_ge d_X9_findWeights_101 (by decide)
theorem d_X9_findWeights_104 : decode (mB M_X9_findWeights) 104 = .ok (.aload_n 0, 1) := by decide +kernel
theorem r_X9_findWeights_104 {x1 x2 x3 x4 x5 : Value} {a : Nat} {st : List Value} {h : AH} : Run M_X9_findWeights 104 [.ref a, x1, x2, x3, x4, x5] st h = Run M_X9_findWeights 105 [.ref a, x1, x2, x3, x4, x5] (.ref a :: st) h := R_aload_n d_X9_findWeights_104 rfl
theorem d_X9_findWeights_105 : decode (mB M_X9_findWeights) 105 = .ok (.getfield 32, 3) := by decide +kernel
theorem r_X9_findWeights_105 {x0 x1 x2 x3 x4 x5 : Value} {a : Nat} {st : List Value} {h : AH} : Run M_X9_findWeights 105 [x0, x1, x2, x3, x4, x5] (.ref a :: st) h = if (gF h a 9 8).isSome = true then Run M_X9_findWeights 108 [x0, x1, x2, x3, x4, x5] ((gF h a 9 8).getD .null :: st) h else none := R_getfield d_X9_findWeights_105 rfl
theorem d_X9_findWeights_108 : decode (mB M_X9_findWeights) 108 = .ok (.iconst 4, 1) := by decide +kernel
theorem r_X9_findWeights_108 {x0 x1 x2 x3 x4 x5 : Value} {st : List Value} {h : AH} : Run M_X9_findWeights 108 [x0, x1, x2, x3, x4, x5] st h = Run M_X9_findWeights 109 [x0, x1, x2, x3, x4, x5] (.int (nI 4) :: st) h := R_iconst d_X9_findWeights_108 (by decide)
theorem d_X9_findWeights_109 : decode (mB M_X9_findWeights) 109 = .ok (.iload_n 2, 1) := by decide +kernel
theorem r_X9_findWeights_109 {x0 x1 x3 x4 x5 : Value} {a : Int32} {st : List Value} {h : AH} : Run M_X9_findWeights 109 [x0, x1, .int a, x3, x4, x5] st h = Run M_X9_findWeights 110 [x0, x1, .int a, x3, x4, x5] (.int a :: st) h := R_iload_n d_X9_findWeights_109 rfl
theorem d_X9_findWeights_110 : decode (mB M_X9_findWeights) 110 = .ok (.imul, 1) := by decide +kernel
theorem r_X9_findWeights_110 {x0 x1 x2 x3 x4 x5 : Value} {x y : Int32} {st : List Value} {h : AH} : Run M_X9_findWeights 110 [x0, x1, x2, x3, x4, x5] (.int y :: .int x :: st) h = Run M_X9_findWeights 111 [x0, x1, x2, x3, x4, x5] (.int (x * y) :: st) h := R_imul d_X9_findWeights_110
theorem d_X9_findWeights_111 : decode (mB M_X9_findWeights) 111 = .ok (.iload_n 3, 1) := by decide +kernel
theorem r_X9_findWeights_111 {x0 x1 x2 x4 x5 : Value} {a : Int32} {st : List Value} {h : AH} : Run M_X9_findWeights 111 [x0, x1, x2, .int a, x4, x5] st h = Run M_X9_findWeights 112 [x0, x1, x2, .int a, x4, x5] (.int a :: st) h := R_iload_n d_X9_findWeights_111 rfl
theorem d_X9_findWeights_112 : decode (mB M_X9_findWeights) 112 = .ok (.iadd, 1) := by decide +kernel
theorem r_X9_findWeights_112 {x0 x1 x2 x3 x4 x5 : Value} {x y : Int32} {st : List Value} {h : AH} : Run M_X9_findWeights 112 [x0, x1, x2, x3, x4, x5] (.int y :: .int x :: st) h = Run M_X9_findWeights 113 [x0, x1, x2, x3, x4, x5] (.int (x + y) :: st) h := R_iadd d_X9_findWeights_112
theorem d_X9_findWeights_113 : decode (mB M_X9_findWeights) 113 = .ok (.iaload, 1) := by decide +kernel
theorem r_X9_findWeights_113 {x0 x1 x2 x3 x4 x5 : Value} {a : Nat} {i : Int32} {st : List Value} {h : AH} : Run M_X9_findWeights 113 [x0, x1, x2, x3, x4, x5] (.int i :: .ref a :: st) h = if (gI 0 h a i).isSome = true then Run M_X9_findWeights 114 [x0, x1, x2, x3, x4, x5] (.int ((gI 0 h a i).getD 0) :: st) h else none := R_iaload d_X9_findWeights_113
theorem d_X9_findWeights_114 : decode (mB M_X9_findWeights) 114 = .ok (.istore 4, 2) := by decide +kernel
theorem r_X9_findWeights_114 {x0 x1 x2 x3 x4 x5 : Value} {a : Int32} {st : List Value} {h : AH} (hc : x3.category = 1) : Run M_X9_findWeights 114 [x0, x1, x2, x3, x4, x5] (.int a :: st) h = Run M_X9_findWeights 116 [x0, x1, x2, x3, .int a, x5] st h := R_istore d_X9_findWeights_114 (Nat.lt_of_lt_of_le (by decide : 4 < 6) (Nat.le_refl 6)) (catP_of rfl hc)
theorem d_X9_findWeights_116 : decode (mB M_X9_findWeights) 116 = .ok (.iload 4, 2) := by decide +kernel
theorem r_X9_findWeights_116 {x0 x1 x2 x3 x5 : Value} {a : Int32} {st : List Value} {h : AH} : Run M_X9_findWeights 116 [x0, x1, x2, x3, .int a, x5] st h = Run M_X9_findWeights 118 [x0, x1, x2, x3, .int a, x5] (.int a :: st) h := R_iload d_X9_findWeights_116 rfl
theorem d_X9_findWeights_118 : decode (mB M_X9_findWeights) 118 = .ok (.istore 5, 2) := by decide +kernel
theorem r_X9_findWeights_118 {x0 x1 x2 x3 x4 x5 : Value} {a : Int32} {st : List Value} {h : AH} (hc : x4.category = 1) : Run M_X9_findWeights 118 [x0, x1, x2, x3, x4, x5] (.int a :: st) h = Run M_X9_findWeights 120 [x0, x1, x2, x3, x4, .int a] st h := R_istore d_X9_findWeights_118 (Nat.lt_of_lt_of_le (by decide : 5 < 6) (Nat.le_refl 6)) (catP_of rfl hc)
theorem d_X9_findWeights_120 : decode (mB M_X9_findWeights) 120 = .ok (.iload 5, 2) := by decide +kernel
theorem r_X9_findWeights_120 {x0 x1 x2 x3 x4 : Value} {a : Int32} {st : List Value} {h : AH} : Run M_X9_findWeights 120 [x0, x1, x2, x3, x4, .int a] st h = Run M_X9_findWeights 122 [x0, x1, x2, x3, x4, .int a] (.int a :: st) h := R_iload d_X9_findWeights_120 rfl
theorem d_X9_findWeights_122 : decode (mB M_X9_findWeights) 122 = .ok (.sipush 420, 3) := by decide +kernel
theorem r_X9_findWeights_122 {x0 x1 x2 x3 x4 x5 : Value} {st : List Value} {h : AH} : Run M_X9_findWeights 122 [x0, x1, x2, x3, x4, x5] st h = Run M_X9_findWeights 125 [x0, x1, x2, x3, x4, x5] (.int (nI 420) :: st) h := R_sipush d_X9_findWeights_122 (by decide)
theorem d_X9_findWeights_125 : decode (mB M_X9_findWeights) 125 = .ok (.if_icmp .gt 40, 3) := by decide +kernel
theorem r_X9_findWeights_125 {x0 x1 x2 x3 x4 x5 : Value} {x y : Int32} {st : List Value} {h : AH} : Run M_X9_findWeights 125 [x0, x1, x2, x3, x4, x5] (.int y :: .int x :: st) h = if y < x then Run M_X9_findWeights 165 [x0, x1, x2, x3, x4, x5] st h else Run M_X9_findWeights 128 [x0, x1, x2, x3, x4, x5] st h := R_icmp_gt d_X9_findWeights_125 (by decide)
theorem d_X9_findWeights_128 : decode (mB M_X9_findWeights) 128 = .ok (.aload_n 0, 1) := by decide +kernel
theorem r_X9_findWeights_128 {x1 x2 x3 x4 x5 : Value} {a : Nat} {st : List Value} {h : AH} : Run M_X9_findWeights 128 [.ref a, x1, x2, x3, x4, x5] st h = Run M_X9_findWeights 129 [.ref a, x1, x2, x3, x4, x5] (.ref a :: st) h := R_aload_n d_X9_findWeights_128 rfl
theorem d_X9_findWeights_129 : decode (mB M_X9_findWeights) 129 = .ok (.getfield 69, 3) := by decide +kernel
theorem r_X9_findWeights_129 {x0 x1 x2 x3 x4 x5 : Value} {a : Nat} {st : List Value} {h : AH} : Run M_X9_findWeights 129 [x0, x1, x2, x3, x4, x5] (.ref a :: st) h = if (gF h a 9 34).isSome = true then Run M_X9_findWeights 132 [x0, x1, x2, x3, x4, x5] ((gF h a 9 34).getD .null :: st) h else none := R_getfield d_X9_findWeights_129 rfl
theorem d_X9_findWeights_132 : decode (mB M_X9_findWeights) 132 = .ok (.iload 5, 2) := by decide +kernel
theorem r_X9_findWeights_132 {x0 x1 x2 x3 x4 : Value} {a : Int32} {st : List Value} {h : AH} : Run M_X9_findWeights 132 [x0, x1, x2, x3, x4, .int a] st h = Run M_X9_findWeights 134 [x0, x1, x2, x3, x4, .int a] (.int a :: st) h := R_iload d_X9_findWeights_132 rfl
theorem d_X9_findWeights_134 : decode (mB M_X9_findWeights) 134 = .ok (.dup2, 1) := by decide +kernel
theorem r_X9_findWeights_134 {x0 x1 x2 x3 x4 x5 : Value} {x : Nat} {y : Int32} {st : List Value} {h : AH} : Run M_X9_findWeights 134 [x0, x1, x2, x3, x4, x5] (.int y :: .ref x :: st) h = Run M_X9_findWeights 135 [x0, x1, x2, x3, x4, x5] (.int y :: .ref x :: .int y :: .ref x :: st) h := R_dup2 d_X9_findWeights_134
theorem d_X9_findWeights_135 : decode (mB M_X9_findWeights) 135 = .ok (.laload, 1) := by decide +kernel
theorem r_X9_findWeights_135 {x0 x1 x2 x3 x4 x5 : Value} {a : Nat} {i : Int32} {st : List Value} {h : AH} : Run M_X9_findWeights 135 [x0, x1, x2, x3, x4, x5] (.int i :: .ref a :: st) h = if (gJ h a i).isSome = true then Run M_X9_findWeights 136 [x0, x1, x2, x3, x4, x5] (.long ((gJ h a i).getD 0) :: st) h else none := R_laload d_X9_findWeights_135
theorem d_X9_findWeights_136 : decode (mB M_X9_findWeights) 136 = .ok (.aload_n 0, 1) := by decide +kernel
theorem r_X9_findWeights_136 {x1 x2 x3 x4 x5 : Value} {a : Nat} {st : List Value} {h : AH} : Run M_X9_findWeights 136 [.ref a, x1, x2, x3, x4, x5] st h = Run M_X9_findWeights 137 [.ref a, x1, x2, x3, x4, x5] (.ref a :: st) h := R_aload_n d_X9_findWeights_136 rfl
theorem d_X9_findWeights_137 : decode (mB M_X9_findWeights) 137 = .ok (.getfield 73, 3) := by decide +kernel
theorem r_X9_findWeights_137 {x0 x1 x2 x3 x4 x5 : Value} {a : Nat} {st : List Value} {h : AH} : Run M_X9_findWeights 137 [x0, x1, x2, x3, x4, x5] (.ref a :: st) h = if (gF h a 9 35).isSome = true then Run M_X9_findWeights 140 [x0, x1, x2, x3, x4, x5] ((gF h a 9 35).getD .null :: st) h else none := R_getfield d_X9_findWeights_137 rfl
theorem d_X9_findWeights_140 : decode (mB M_X9_findWeights) 140 = .ok (.iload 5, 2) := by decide +kernel
theorem r_X9_findWeights_140 {x0 x1 x2 x3 x4 : Value} {a : Int32} {st : List Value} {h : AH} : Run M_X9_findWeights 140 [x0, x1, x2, x3, x4, .int a] st h = Run M_X9_findWeights 142 [x0, x1, x2, x3, x4, .int a] (.int a :: st) h := R_iload d_X9_findWeights_140 rfl
theorem d_X9_findWeights_142 : decode (mB M_X9_findWeights) 142 = .ok (.iload 4, 2) := by decide +kernel
theorem r_X9_findWeights_142 {x0 x1 x2 x3 x5 : Value} {a : Int32} {st : List Value} {h : AH} : Run M_X9_findWeights 142 [x0, x1, x2, x3, .int a, x5] st h = Run M_X9_findWeights 144 [x0, x1, x2, x3, .int a, x5] (.int a :: st) h := R_iload d_X9_findWeights_142 rfl
theorem d_X9_findWeights_144 : decode (mB M_X9_findWeights) 144 = .ok (.isub, 1) := by decide +kernel
theorem r_X9_findWeights_144 {x0 x1 x2 x3 x4 x5 : Value} {x y : Int32} {st : List Value} {h : AH} : Run M_X9_findWeights 144 [x0, x1, x2, x3, x4, x5] (.int y :: .int x :: st) h = Run M_X9_findWeights 145 [x0, x1, x2, x3, x4, x5] (.int (x - y) :: st) h := R_isub d_X9_findWeights_144
theorem d_X9_findWeights_145 : decode (mB M_X9_findWeights) 145 = .ok (.laload, 1) := by decide +kernel
theorem r_X9_findWeights_145 {x0 x1 x2 x3 x4 x5 : Value} {a : Nat} {i : Int32} {st : List Value} {h : AH} : Run M_X9_findWeights 145 [x0, x1, x2, x3, x4, x5] (.int i :: .ref a :: st) h = if (gJ h a i).isSome = true then Run M_X9_findWeights 146 [x0, x1, x2, x3, x4, x5] (.long ((gJ h a i).getD 0) :: st) h else none := R_laload d_X9_findWeights_145
theorem d_X9_findWeights_146 : decode (mB M_X9_findWeights) 146 = .ok (.bipush 8, 2) := by decide +kernel
theorem r_X9_findWeights_146 {x0 x1 x2 x3 x4 x5 : Value} {st : List Value} {h : AH} : Run M_X9_findWeights 146 [x0, x1, x2, x3, x4, x5] st h = Run M_X9_findWeights 148 [x0, x1, x2, x3, x4, x5] (.int (nI 8) :: st) h := R_bipush d_X9_findWeights_146 (by decide)
theorem d_X9_findWeights_148 : decode (mB M_X9_findWeights) 148 = .ok (.aload_n 0, 1) := by decide +kernel
theorem r_X9_findWeights_148 {x1 x2 x3 x4 x5 : Value} {a : Nat} {st : List Value} {h : AH} : Run M_X9_findWeights 148 [.ref a, x1, x2, x3, x4, x5] st h = Run M_X9_findWeights 149 [.ref a, x1, x2, x3, x4, x5] (.ref a :: st) h := R_aload_n d_X9_findWeights_148 rfl
theorem d_X9_findWeights_149 : decode (mB M_X9_findWeights) 149 = .ok (.getfield 23, 3) := by decide +kernel
theorem r_X9_findWeights_149 {x0 x1 x2 x3 x4 x5 : Value} {a : Nat} {st : List Value} {h : AH} : Run M_X9_findWeights 149 [x0, x1, x2, x3, x4, x5] (.ref a :: st) h = if (gF h a 9 5).isSome = true then Run M_X9_findWeights 152 [x0, x1, x2, x3, x4, x5] ((gF h a 9 5).getD .null :: st) h else none := R_getfield d_X9_findWeights_149 rfl
theorem d_X9_findWeights_152 : decode (mB M_X9_findWeights) 152 = .ok (.iload_n 2, 1) := by decide +kernel
theorem r_X9_findWeights_152 {x0 x1 x3 x4 x5 : Value} {a : Int32} {st : List Value} {h : AH} : Run M_X9_findWeights 152 [x0, x1, .int a, x3, x4, x5] st h = Run M_X9_findWeights 153 [x0, x1, .int a, x3, x4, x5] (.int a :: st) h := R_iload_n d_X9_findWeights_152 rfl
theorem d_X9_findWeights_153 : decode (mB M_X9_findWeights) 153 = .ok (.iaload, 1) := by decide +kernel
theorem r_X9_findWeights_153 {x0 x1 x2 x3 x4 x5 : Value} {a : Nat} {i : Int32} {st : List Value} {h : AH} : Run M_X9_findWeights 153 [x0, x1, x2, x3, x4, x5] (.int i :: .ref a :: st) h = if (gI 0 h a i).isSome = true then Run M_X9_findWeights 154 [x0, x1, x2, x3, x4, x5] (.int ((gI 0 h a i).getD 0) :: st) h else none := R_iaload d_X9_findWeights_153
theorem d_X9_findWeights_154 : decode (mB M_X9_findWeights) 154 = .ok (.isub, 1) := by decide +kernel
theorem r_X9_findWeights_154 {x0 x1 x2 x3 x4 x5 : Value} {x y : Int32} {st : List Value} {h : AH} : Run M_X9_findWeights 154 [x0, x1, x2, x3, x4, x5] (.int y :: .int x :: st) h = Run M_X9_findWeights 155 [x0, x1, x2, x3, x4, x5] (.int (x - y) :: st) h := R_isub d_X9_findWeights_154
theorem d_X9_findWeights_155 : decode (mB M_X9_findWeights) 155 = .ok (.i2l, 1) := by decide +kernel
theorem r_X9_findWeights_155 {x0 x1 x2 x3 x4 x5 : Value} {x : Int32} {st : List Value} {h : AH} : Run M_X9_findWeights 155 [x0, x1, x2, x3, x4, x5] (.int x :: st) h = Run M_X9_findWeights 156 [x0, x1, x2, x3, x4, x5] (.long x.toInt64 :: st) h := R_i2l d_X9_findWeights_155
theorem d_X9_findWeights_156 : decode (mB M_X9_findWeights) 156 = .ok (.lmul, 1) := by decide +kernel
theorem r_X9_findWeights_156 {x0 x1 x2 x3 x4 x5 : Value} {x y : Int64} {st : List Value} {h : AH} : Run M_X9_findWeights 156 [x0, x1, x2, x3, x4, x5] (.long y :: .long x :: st) h = Run M_X9_findWeights 157 [x0, x1, x2, x3, x4, x5] (.long (x * y) :: st) h := R_lmul d_X9_findWeights_156
theorem d_X9_findWeights_157 : decode (mB M_X9_findWeights) 157 = .ok (.ladd, 1) := by decide +kernel
theorem r_X9_findWeights_157 {x0 x1 x2 x3 x4 x5 : Value} {x y : Int64} {st : List Value} {h : AH} : Run M_X9_findWeights 157 [x0, x1, x2, x3, x4, x5] (.long y :: .long x :: st) h = Run M_X9_findWeights 158 [x0, x1, x2, x3, x4, x5] (.long (x + y) :: st) h := R_ladd d_X9_findWeights_157
theorem d_X9_findWeights_158 : decode (mB M_X9_findWeights) 158 = .ok (.lastore, 1) := by decide +kernel
theorem r_X9_findWeights_158 {x0 x1 x2 x3 x4 x5 : Value} {a : Nat} {i : Int32} {x : Int64} {st : List Value} {h : AH} : Run M_X9_findWeights 158 [x0, x1, x2, x3, x4, x5] (.long x :: .int i :: .ref a :: st) h = if (pJ h a i x).isSome = true then Run M_X9_findWeights 159 [x0, x1, x2, x3, x4, x5] st ((pJ h a i x).getD h) else none := R_lastore d_X9_findWeights_158
theorem d_X9_findWeights_159 : decode (mB M_X9_findWeights) 159 = .ok (.iinc 5 1, 3) := by decide +kernel
theorem r_X9_findWeights_159 {x0 x1 x2 x3 x4 : Value} {a : Int32} {st : List Value} {h : AH} (hc : x4.category = 1) : Run M_X9_findWeights 159 [x0, x1, x2, x3, x4, .int a] st h = Run M_X9_findWeights 162 [x0, x1, x2, x3, x4, .int (a + (nI 1))] st h := R_iinc d_X9_findWeights_159 (by decide) rfl (catP_of rfl hc)
theorem d_X9_findWeights_162 : decode (mB M_X9_findWeights) 162 = .ok (.goto (-42), 3) := by decide +kernel
theorem r_X9_findWeights_162 {x0 x1 x2 x3 x4 x5 : Value} {st : List Value} {h : AH} : Run M_X9_findWeights 162 [x0, x1, x2, x3, x4, x5] st h = Run M_X9_findWeights 120 [x0, x1, x2, x3, x4, x5] st h := R_goto d_X9_findWeights_162 (by decide)
theorem d_X9_findWeights_165 : decode (mB M_X9_findWeights) 165 = .ok (.iinc 3 1, 3) := by decide +kernel
theorem r_X9_findWeights_165 {x0 x1 x2 x4 x5 : Value} {a : Int32} {st : List Value} {h : AH} (hc : x2.category = 1) : Run M_X9_findWeights 165 [x0, x1, x2, .int a, x4, x5] st h = Run M_X9_findWeights 168 [x0, x1, x2, .int (a + (nI 1)), x4, x5] st h := R_iinc d_X9_findWeights_165 (by decide) rfl (catP_of rfl hc)
theorem d_X9_findWeights_168 : decode (mB M_X9_findWeights) 168 = .ok (.goto (-74), 3) := by decide +kernel
theorem r_X9_findWeights_168 {x0 x1 x2 x3 x4 x5 : Value} {st : List Value} {h : AH} : Run M_X9_findWeights 168 [x0, x1, x2, x3, x4, x5] st h = Run M_X9_findWeights 94 [x0, x1, x2, x3, x4, x5] st h := R_goto d_X9_findWeights_168 (by decide)
theorem d_X9_findWeights_171 : decode (mB M_X9_findWeights) 171 = .ok (.iinc 2 1, 3) := by decide +kernel
theorem r_X9_findWeights_171 {x0 x1 x3 x4 x5 : Value} {a : Int32} {st : List Value} {h : AH} (hc : x1.category = 1) : Run M_X9_findWeights 171 [x0, x1, .int a, x3, x4, x5] st h = Run M_X9_findWeights 174 [x0, x1, .int (a + (nI 1)), x3, x4, x5] st h := R_iinc d_X9_findWeights_171 (by decide) rfl (catP_of rfl hc)
theorem d_X9_findWeights_174 : decode (mB M_X9_findWeights) 174 = .ok (.goto (-142), 3) := by decide +kernel
theorem r_X9_findWeights_174 {x0 x1 x2 x3 x4 x5 : Value} {st : List Value} {h : AH} : Run M_X9_findWeights 174 [x0, x1, x2, x3, x4, x5] st h = Run M_X9_findWeights 32 [x0, x1, x2, x3, x4, x5] st h := R_goto d_X9_findWeights_174 (by decide)
theorem d_X9_findWeights_177 : decode (mB M_X9_findWeights) 177 = .ok (.return_, 1) := by decide +kernel
theorem r_X9_findWeights_177 {x0 x1 x2 x3 x4 x5 : Value} {h : AH} : Run M_X9_findWeights 177 [x0, x1, x2, x3, x4, x5] [] h = some (h, none) := R_return d_X9_findWeights_177 rfl
theorem d_X9_whole_0 : decode (mB M_X9_whole) 0 = .ok (.lconst 1, 1) := by decide +kernel
theorem r_X9_whole_0 {x0 x1 x2 x3 x4 x5 : Value} {st : List Value} {h : AH} : Run M_X9_whole 0 [x0, x1, x2, x3, x4, x5] st h = Run M_X9_whole 1 [x0, x1, x2, x3, x4, x5] (.long (lN 1) :: st) h := R_lconst d_X9_whole_0 (by decide)
theorem d_X9_whole_1 : decode (mB M_X9_whole) 1 = .ok (.lstore_n 3, 1) := by decide +kernel
theorem r_X9_whole_1 {x0 x1 x2 x3 x4 x5 : Value} {a : Int64} {st : List Value} {h : AH} (hc : x2.category = 1) : Run M_X9_whole 1 [x0, x1, x2, x3, x4, x5] (.long a :: st) h = Run M_X9_whole 2 [x0, x1, x2, .long a, .null, x5] st h := R_lstore_n d_X9_whole_1 (Nat.lt_of_lt_of_le (by decide : 4 < 6) (Nat.le_refl 6)) (catP_of rfl hc)
theorem d_X9_whole_2 : decode (mB M_X9_whole) 2 = .ok (.iload_n 1, 1) := by decide +kernel
theorem r_X9_whole_2 {x0 x2 x3 x4 x5 : Value} {a : Int32} {st : List Value} {h : AH} : Run M_X9_whole 2 [x0, .int a, x2, x3, x4, x5] st h = Run M_X9_whole 3 [x0, .int a, x2, x3, x4, x5] (.int a :: st) h := R_iload_n d_X9_whole_2 rfl
theorem d_X9_whole_3 : decode (mB M_X9_whole) 3 = .ok (.istore 5, 2) := by decide +kernel
theorem r_X9_whole_3 {x0 x1 x2 x3 x4 x5 : Value} {a : Int32} {st : List Value} {h : AH} (hc : x4.category = 1) : Run M_X9_whole 3 [x0, x1, x2, x3, x4, x5] (.int a :: st) h = Run M_X9_whole 5 [x0, x1, x2, x3, x4, .int a] st h := R_istore d_X9_whole_3 (Nat.lt_of_lt_of_le (by decide : 5 < 6) (Nat.le_refl 6)) (catP_of rfl hc)
theorem d_X9_whole_5 : decode (mB M_X9_whole) 5 = .ok (.iload 5, 2) := by decide +kernel
theorem r_X9_whole_5 {x0 x1 x2 x3 x4 : Value} {a : Int32} {st : List Value} {h : AH} : Run M_X9_whole 5 [x0, x1, x2, x3, x4, .int a] st h = Run M_X9_whole 7 [x0, x1, x2, x3, x4, .int a] (.int a :: st) h := R_iload d_X9_whole_5 rfl
theorem d_X9_whole_7 : decode (mB M_X9_whole) 7 = .ok (.iload_n 2, 1) := by decide +kernel
theorem r_X9_whole_7 {x0 x1 x3 x4 x5 : Value} {a : Int32} {st : List Value} {h : AH} : Run M_X9_whole 7 [x0, x1, .int a, x3, x4, x5] st h = Run M_X9_whole 8 [x0, x1, .int a, x3, x4, x5] (.int a :: st) h := R_iload_n d_X9_whole_7 rfl
theorem d_X9_whole_8 : decode (mB M_X9_whole) 8 = .ok (.if_icmp .ge 23, 3) := by decide +kernel
theorem r_X9_whole_8 {x0 x1 x2 x3 x4 x5 : Value} {x y : Int32} {st : List Value} {h : AH} : Run M_X9_whole 8 [x0, x1, x2, x3, x4, x5] (.int y :: .int x :: st) h = if y ≤ x then Run M_X9_whole 31 [x0, x1, x2, x3, x4, x5] st h else Run M_X9_whole 11 [x0, x1, x2, x3, x4, x5] st h := R_icmp_ge d_X9_whole_8 (by decide)
theorem d_X9_whole_11 : decode (mB M_X9_whole) 11 = .ok (.lload_n 3, 1) := by decide +kernel
theorem r_X9_whole_11 {x0 x1 x2 x4 x5 : Value} {a : Int64} {st : List Value} {h : AH} : Run M_X9_whole 11 [x0, x1, x2, .long a, x4, x5] st h = Run M_X9_whole 12 [x0, x1, x2, .long a, x4, x5] (.long a :: st) h := R_lload_n d_X9_whole_11 rfl
theorem d_X9_whole_12 : decode (mB M_X9_whole) 12 = .ok (.bipush 8, 2) := by decide +kernel
theorem r_X9_whole_12 {x0 x1 x2 x3 x4 x5 : Value} {st : List Value} {h : AH} : Run M_X9_whole 12 [x0, x1, x2, x3, x4, x5] st h = Run M_X9_whole 14 [x0, x1, x2, x3, x4, x5] (.int (nI 8) :: st) h := R_bipush d_X9_whole_12 (by decide)
theorem d_X9_whole_14 : decode (mB M_X9_whole) 14 = .ok (.aload_n 0, 1) := by decide +kernel
theorem r_X9_whole_14 {x1 x2 x3 x4 x5 : Value} {a : Nat} {st : List Value} {h : AH} : Run M_X9_whole 14 [.ref a, x1, x2, x3, x4, x5] st h = Run M_X9_whole 15 [.ref a, x1, x2, x3, x4, x5] (.ref a :: st) h := R_aload_n d_X9_whole_14 rfl
theorem d_X9_whole_15 : decode (mB M_X9_whole) 15 = .ok (.getfield 29, 3) := by decide +kernel
theorem r_X9_whole_15 {x0 x1 x2 x3 x4 x5 : Value} {a : Nat} {st : List Value} {h : AH} : Run M_X9_whole 15 [x0, x1, x2, x3, x4, x5] (.ref a :: st) h = if (gF h a 9 7).isSome = true then Run M_X9_whole 18 [x0, x1, x2, x3, x4, x5] ((gF h a 9 7).getD .null :: st) h else none := R_getfield d_X9_whole_15 rfl
theorem d_X9_whole_18 : decode (mB M_X9_whole) 18 = .ok (.iload 5, 2) := by decide +kernel
theorem r_X9_whole_18 {x0 x1 x2 x3 x4 : Value} {a : Int32} {st : List Value} {h : AH} : Run M_X9_whole 18 [x0, x1, x2, x3, x4, .int a] st h = Run M_X9_whole 20 [x0, x1, x2, x3, x4, .int a] (.int a :: st) h := R_iload d_X9_whole_18 rfl
theorem d_X9_whole_20 : decode (mB M_X9_whole) 20 = .ok (.iaload, 1) := by decide +kernel
theorem r_X9_whole_20 {x0 x1 x2 x3 x4 x5 : Value} {a : Nat} {i : Int32} {st : List Value} {h : AH} : Run M_X9_whole 20 [x0, x1, x2, x3, x4, x5] (.int i :: .ref a :: st) h = if (gI 0 h a i).isSome = true then Run M_X9_whole 21 [x0, x1, x2, x3, x4, x5] (.int ((gI 0 h a i).getD 0) :: st) h else none := R_iaload d_X9_whole_20
theorem d_X9_whole_21 : decode (mB M_X9_whole) 21 = .ok (.imul, 1) := by decide +kernel
theorem r_X9_whole_21 {x0 x1 x2 x3 x4 x5 : Value} {x y : Int32} {st : List Value} {h : AH} : Run M_X9_whole 21 [x0, x1, x2, x3, x4, x5] (.int y :: .int x :: st) h = Run M_X9_whole 22 [x0, x1, x2, x3, x4, x5] (.int (x * y) :: st) h := R_imul d_X9_whole_21
theorem d_X9_whole_22 : decode (mB M_X9_whole) 22 = .ok (.i2l, 1) := by decide +kernel
theorem r_X9_whole_22 {x0 x1 x2 x3 x4 x5 : Value} {x : Int32} {st : List Value} {h : AH} : Run M_X9_whole 22 [x0, x1, x2, x3, x4, x5] (.int x :: st) h = Run M_X9_whole 23 [x0, x1, x2, x3, x4, x5] (.long x.toInt64 :: st) h := R_i2l d_X9_whole_22
theorem d_X9_whole_23 : decode (mB M_X9_whole) 23 = .ok (.lmul, 1) := by decide +kernel
theorem r_X9_whole_23 {x0 x1 x2 x3 x4 x5 : Value} {x y : Int64} {st : List Value} {h : AH} : Run M_X9_whole 23 [x0, x1, x2, x3, x4, x5] (.long y :: .long x :: st) h = Run M_X9_whole 24 [x0, x1, x2, x3, x4, x5] (.long (x * y) :: st) h := R_lmul d_X9_whole_23
theorem d_X9_whole_24 : decode (mB M_X9_whole) 24 = .ok (.lstore_n 3, 1) := by decide +kernel
theorem r_X9_whole_24 {x0 x1 x2 x3 x4 x5 : Value} {a : Int64} {st : List Value} {h : AH} (hc : x2.category = 1) : Run M_X9_whole 24 [x0, x1, x2, x3, x4, x5] (.long a :: st) h = Run M_X9_whole 25 [x0, x1, x2, .long a, .null, x5] st h := R_lstore_n d_X9_whole_24 (Nat.lt_of_lt_of_le (by decide : 4 < 6) (Nat.le_refl 6)) (catP_of rfl hc)
theorem d_X9_whole_25 : decode (mB M_X9_whole) 25 = .ok (.iinc 5 1, 3) := by decide +kernel
theorem r_X9_whole_25 {x0 x1 x2 x3 x4 : Value} {a : Int32} {st : List Value} {h : AH} (hc : x4.category = 1) : Run M_X9_whole 25 [x0, x1, x2, x3, x4, .int a] st h = Run M_X9_whole 28 [x0, x1, x2, x3, x4, .int (a + (nI 1))] st h := R_iinc d_X9_whole_25 (by decide) rfl (catP_of rfl hc)
theorem d_X9_whole_28 : decode (mB M_X9_whole) 28 = .ok (.goto (-23), 3) := by decide +kernel
theorem r_X9_whole_28 {x0 x1 x2 x3 x4 x5 : Value} {st : List Value} {h : AH} : Run M_X9_whole 28 [x0, x1, x2, x3, x4, x5] st h = Run M_X9_whole 5 [x0, x1, x2, x3, x4, x5] st h := R_goto d_X9_whole_28 (by decide)
theorem d_X9_whole_31 : decode (mB M_X9_whole) 31 = .ok (.lload_n 3, 1) := by decide +kernel
theorem r_X9_whole_31 {x0 x1 x2 x4 x5 : Value} {a : Int64} {st : List Value} {h : AH} : Run M_X9_whole 31 [x0, x1, x2, .long a, x4, x5] st h = Run M_X9_whole 32 [x0, x1, x2, .long a, x4, x5] (.long a :: st) h := R_lload_n d_X9_whole_31 rfl
theorem d_X9_whole_32 : decode (mB M_X9_whole) 32 = .ok (.lreturn, 1) := by decide +kernel
theorem r_X9_whole_32 {x0 x1 x2 x3 x4 x5 : Value} {v : Int64} {h : AH} : Run M_X9_whole 32 [x0, x1, x2, x3, x4, x5] [.long v] h = some (h, some (.long v)) := R_lreturn d_X9_whole_32 rfl
theorem d_X9_ends_0 : decode (mB M_X9_ends) 0 = .ok (.iload_n 1, 1) := by decide +kernel
theorem r_X9_ends_0 {x0 x2 : Value} {a : Int32} {st : List Value} {h : AH} : Run M_X9_ends 0 [x0, .int a, x2] st h = Run M_X9_ends 1 [x0, .int a, x2] (.int a :: st) h := R_iload_n d_X9_ends_0 rfl
theorem d_X9_ends_1 : decode (mB M_X9_ends) 1 = .ok (.invokestatic 213, 3) := by decide +kernel
theorem r_X9_ends_1 {x0 x1 x2 : Value} {p0 : Int32} {h : AH} : Run M_X9_ends 1 [x0, x1, x2] (.int p0 :: []) h = if (Call M_X9_isTenth h [.int p0]).isSome = true then Run M_X9_ends 4 [x0, x1, x2] (rL (Call M_X9_isTenth h [.int p0]) ++ []) (cH (Call M_X9_isTenth h [.int p0])) else none := R_stat d_X9_ends_1 rfl rfl rfl rfl (Nat.le_of_ble_eq_true rfl)
theorem d_X9_ends_4 : decode (mB M_X9_ends) 4 = .ok (.ifCond .eq 12, 3) := by decide +kernel
theorem r_X9_ends_4 {x0 x1 x2 : Value} {x : Int32} {st : List Value} {h : AH} : Run M_X9_ends 4 [x0, x1, x2] (.int x :: st) h = if x = nI 0 then Run M_X9_ends 16 [x0, x1, x2] st h else Run M_X9_ends 7 [x0, x1, x2] st h := R_if_eq d_X9_ends_4 (by decide)
theorem d_X9_ends_7 : decode (mB M_X9_ends) 7 = .ok (.iload_n 2, 1) := by decide +kernel
theorem r_X9_ends_7 {x0 x1 : Value} {a : Int32} {st : List Value} {h : AH} : Run M_X9_ends 7 [x0, x1, .int a] st h = Run M_X9_ends 8 [x0, x1, .int a] (.int a :: st) h := R_iload_n d_X9_ends_7 rfl
theorem d_X9_ends_8 : decode (mB M_X9_ends) 8 = .ok (.iconst 0, 1) := by decide +kernel
theorem r_X9_ends_8 {x0 x1 x2 : Value} {st : List Value} {h : AH} : Run M_X9_ends 8 [x0, x1, x2] st h = Run M_X9_ends 9 [x0, x1, x2] (.int (nI 0) :: st) h := R_iconst d_X9_ends_8 (by decide)
theorem d_X9_ends_9 : decode (mB M_X9_ends) 9 = .ok (.iconst 1, 1) := by decide +kernel
theorem r_X9_ends_9 {x0 x1 x2 : Value} {st : List Value} {h : AH} : Run M_X9_ends 9 [x0, x1, x2] st h = Run M_X9_ends 10 [x0, x1, x2] (.int (nI 1) :: st) h := R_iconst d_X9_ends_9 (by decide)
theorem d_X9_ends_10 : decode (mB M_X9_ends) 10 = .ok (.invokestatic 85, 3) := by decide +kernel
theorem r_X9_ends_10 {x0 x1 x2 : Value} {p0 : Int32} {p1 : Int32} {p2 : Int32} {h : AH} : Run M_X9_ends 10 [x0, x1, x2] (.int p2 :: .int p1 :: .int p0 :: []) h = if (Call M_X9_in h [.int p0, .int p1, .int p2]).isSome = true then Run M_X9_ends 13 [x0, x1, x2] (rL (Call M_X9_in h [.int p0, .int p1, .int p2]) ++ []) (cH (Call M_X9_in h [.int p0, .int p1, .int p2])) else none := R_stat d_X9_ends_10 rfl rfl rfl rfl (Nat.le_of_ble_eq_true rfl)
theorem d_X9_ends_13 : decode (mB M_X9_ends) 13 = .ok (.ifCond .ne 7, 3) := by decide +kernel
theorem r_X9_ends_13 {x0 x1 x2 : Value} {x : Int32} {st : List Value} {h : AH} : Run M_X9_ends 13 [x0, x1, x2] (.int x :: st) h = if x = nI 0 then Run M_X9_ends 16 [x0, x1, x2] st h else Run M_X9_ends 20 [x0, x1, x2] st h := R_if_ne d_X9_ends_13 (by decide)
theorem d_X9_ends_16 : decode (mB M_X9_ends) 16 = .ok (.ldc2_w 216, 3) := by decide +kernel
theorem r_X9_ends_16 {x0 x1 x2 : Value} {st : List Value} {h : AH} : Run M_X9_ends 16 [x0, x1, x2] st h = Run M_X9_ends 19 [x0, x1, x2] (.long (-1000000002) :: st) h := R_ldc2_w d_X9_ends_16 (by decide)
theorem d_X9_ends_19 : decode (mB M_X9_ends) 19 = .ok (.lreturn, 1) := by decide +kernel
theorem r_X9_ends_19 {x0 x1 x2 : Value} {v : Int64} {h : AH} : Run M_X9_ends 19 [x0, x1, x2] [.long v] h = some (h, some (.long v)) := R_lreturn d_X9_ends_19 rfl
theorem d_X9_ends_20 : decode (mB M_X9_ends) 20 = .ok (.aload_n 0, 1) := by decide +kernel
theorem r_X9_ends_20 {x1 x2 : Value} {a : Nat} {st : List Value} {h : AH} : Run M_X9_ends 20 [.ref a, x1, x2] st h = Run M_X9_ends 21 [.ref a, x1, x2] (.ref a :: st) h := R_aload_n d_X9_ends_20 rfl
theorem d_X9_ends_21 : decode (mB M_X9_ends) 21 = .ok (.aload_n 0, 1) := by decide +kernel
theorem r_X9_ends_21 {x1 x2 : Value} {a : Nat} {st : List Value} {h : AH} : Run M_X9_ends 21 [.ref a, x1, x2] st h = Run M_X9_ends 22 [.ref a, x1, x2] (.ref a :: st) h := R_aload_n d_X9_ends_21 rfl
theorem d_X9_ends_22 : decode (mB M_X9_ends) 22 = .ok (.getfield 82, 3) := by decide +kernel
theorem r_X9_ends_22 {x0 x1 x2 : Value} {a : Nat} {st : List Value} {h : AH} : Run M_X9_ends 22 [x0, x1, x2] (.ref a :: st) h = if (gF h a 9 3).isSome = true then Run M_X9_ends 25 [x0, x1, x2] ((gF h a 9 3).getD .null :: st) h else none := R_getfield d_X9_ends_22 rfl
theorem d_X9_ends_25 : decode (mB M_X9_ends) 25 = .ok (.invokevirtual 218, 3) := by decide +kernel
theorem r_X9_ends_25 {x0 x1 x2 : Value} {p0 : Int32} {a : Nat} {h : AH} : Run M_X9_ends 25 [x0, x1, x2] (.int p0 :: .ref a :: []) h = if refO h 9 (some (.ref a)) = true then (if (Call M_X9_findWeights h [.ref a, .int p0]).isSome = true then Run M_X9_ends 28 [x0, x1, x2] (rL (Call M_X9_findWeights h [.ref a, .int p0]) ++ []) (cH (Call M_X9_findWeights h [.ref a, .int p0])) else none) else none := R_virt d_X9_ends_25 rfl rfl rfl rfl rfl (Nat.le_of_ble_eq_true rfl)
theorem d_X9_ends_28 : decode (mB M_X9_ends) 28 = .ok (.aload_n 0, 1) := by decide +kernel
theorem r_X9_ends_28 {x1 x2 : Value} {a : Nat} {st : List Value} {h : AH} : Run M_X9_ends 28 [.ref a, x1, x2] st h = Run M_X9_ends 29 [.ref a, x1, x2] (.ref a :: st) h := R_aload_n d_X9_ends_28 rfl
theorem d_X9_ends_29 : decode (mB M_X9_ends) 29 = .ok (.getfield 69, 3) := by decide +kernel
theorem r_X9_ends_29 {x0 x1 x2 : Value} {a : Nat} {st : List Value} {h : AH} : Run M_X9_ends 29 [x0, x1, x2] (.ref a :: st) h = if (gF h a 9 34).isSome = true then Run M_X9_ends 32 [x0, x1, x2] ((gF h a 9 34).getD .null :: st) h else none := R_getfield d_X9_ends_29 rfl
theorem d_X9_ends_32 : decode (mB M_X9_ends) 32 = .ok (.iload_n 1, 1) := by decide +kernel
theorem r_X9_ends_32 {x0 x2 : Value} {a : Int32} {st : List Value} {h : AH} : Run M_X9_ends 32 [x0, .int a, x2] st h = Run M_X9_ends 33 [x0, .int a, x2] (.int a :: st) h := R_iload_n d_X9_ends_32 rfl
theorem d_X9_ends_33 : decode (mB M_X9_ends) 33 = .ok (.laload, 1) := by decide +kernel
theorem r_X9_ends_33 {x0 x1 x2 : Value} {a : Nat} {i : Int32} {st : List Value} {h : AH} : Run M_X9_ends 33 [x0, x1, x2] (.int i :: .ref a :: st) h = if (gJ h a i).isSome = true then Run M_X9_ends 34 [x0, x1, x2] (.long ((gJ h a i).getD 0) :: st) h else none := R_laload d_X9_ends_33
theorem d_X9_ends_34 : decode (mB M_X9_ends) 34 = .ok (.aload_n 0, 1) := by decide +kernel
theorem r_X9_ends_34 {x1 x2 : Value} {a : Nat} {st : List Value} {h : AH} : Run M_X9_ends 34 [.ref a, x1, x2] st h = Run M_X9_ends 35 [.ref a, x1, x2] (.ref a :: st) h := R_aload_n d_X9_ends_34 rfl
theorem d_X9_ends_35 : decode (mB M_X9_ends) 35 = .ok (.iconst 0, 1) := by decide +kernel
theorem r_X9_ends_35 {x0 x1 x2 : Value} {st : List Value} {h : AH} : Run M_X9_ends 35 [x0, x1, x2] st h = Run M_X9_ends 36 [x0, x1, x2] (.int (nI 0) :: st) h := R_iconst d_X9_ends_35 (by decide)
theorem d_X9_ends_36 : decode (mB M_X9_ends) 36 = .ok (.aload_n 0, 1) := by decide +kernel
theorem r_X9_ends_36 {x1 x2 : Value} {a : Nat} {st : List Value} {h : AH} : Run M_X9_ends 36 [.ref a, x1, x2] st h = Run M_X9_ends 37 [.ref a, x1, x2] (.ref a :: st) h := R_aload_n d_X9_ends_36 rfl
theorem d_X9_ends_37 : decode (mB M_X9_ends) 37 = .ok (.getfield 82, 3) := by decide +kernel
theorem r_X9_ends_37 {x0 x1 x2 : Value} {a : Nat} {st : List Value} {h : AH} : Run M_X9_ends 37 [x0, x1, x2] (.ref a :: st) h = if (gF h a 9 3).isSome = true then Run M_X9_ends 40 [x0, x1, x2] ((gF h a 9 3).getD .null :: st) h else none := R_getfield d_X9_ends_37 rfl
theorem d_X9_ends_40 : decode (mB M_X9_ends) 40 = .ok (.invokevirtual 221, 3) := by decide +kernel
theorem r_X9_ends_40 {x0 x1 x2 : Value} {p0 : Int32} {p1 : Int32} {a : Nat} {w0 : Value} {h : AH} : Run M_X9_ends 40 [x0, x1, x2] (.int p1 :: .int p0 :: .ref a :: [w0]) h = if refO h 9 (some (.ref a)) = true then (if (Call M_X9_whole h [.ref a, .int p0, .int p1]).isSome = true then Run M_X9_ends 43 [x0, x1, x2] (rL (Call M_X9_whole h [.ref a, .int p0, .int p1]) ++ [w0]) (cH (Call M_X9_whole h [.ref a, .int p0, .int p1])) else none) else none := R_virt d_X9_ends_40 rfl rfl rfl rfl rfl (Nat.le_of_ble_eq_true rfl)
theorem d_X9_ends_43 : decode (mB M_X9_ends) 43 = .ok (.iload_n 2, 1) := by decide +kernel
theorem r_X9_ends_43 {x0 x1 : Value} {a : Int32} {st : List Value} {h : AH} : Run M_X9_ends 43 [x0, x1, .int a] st h = Run M_X9_ends 44 [x0, x1, .int a] (.int a :: st) h := R_iload_n d_X9_ends_43 rfl
theorem d_X9_ends_44 : decode (mB M_X9_ends) 44 = .ok (.invokestatic 225, 3) := by decide +kernel
theorem r_X9_ends_44 {x0 x1 x2 : Value} {p0 : Int64} {p1 : Int64} {p2 : Int32} {h : AH} : Run M_X9_ends 44 [x0, x1, x2] (.int p2 :: .long p1 :: .long p0 :: []) h = if (Call M_X9_share h [.long p0, .long p1, .int p2]).isSome = true then Run M_X9_ends 47 [x0, x1, x2] (rL (Call M_X9_share h [.long p0, .long p1, .int p2]) ++ []) (cH (Call M_X9_share h [.long p0, .long p1, .int p2])) else none := R_stat d_X9_ends_44 rfl rfl rfl rfl (Nat.le_of_ble_eq_true rfl)
theorem d_X9_ends_47 : decode (mB M_X9_ends) 47 = .ok (.lreturn, 1) := by decide +kernel
theorem r_X9_ends_47 {x0 x1 x2 : Value} {v : Int64} {h : AH} : Run M_X9_ends 47 [x0, x1, x2] [.long v] h = some (h, some (.long v)) := R_lreturn d_X9_ends_47 rfl
theorem d_X9_by_0 : decode (mB M_X9_by) 0 = .ok (.iload_n 1, 1) := by decide +kernel
theorem r_X9_by_0 {x0 x2 x3 x4 x5 : Value} {a : Int32} {st : List Value} {h : AH} : Run M_X9_by 0 [x0, .int a, x2, x3, x4, x5] st h = Run M_X9_by 1 [x0, .int a, x2, x3, x4, x5] (.int a :: st) h := R_iload_n d_X9_by_0 rfl
theorem d_X9_by_1 : decode (mB M_X9_by) 1 = .ok (.invokestatic 213, 3) := by decide +kernel
theorem r_X9_by_1 {x0 x1 x2 x3 x4 x5 : Value} {p0 : Int32} {h : AH} : Run M_X9_by 1 [x0, x1, x2, x3, x4, x5] (.int p0 :: []) h = if (Call M_X9_isTenth h [.int p0]).isSome = true then Run M_X9_by 4 [x0, x1, x2, x3, x4, x5] (rL (Call M_X9_isTenth h [.int p0]) ++ []) (cH (Call M_X9_isTenth h [.int p0])) else none := R_stat d_X9_by_1 rfl rfl rfl rfl (Nat.le_of_ble_eq_true rfl)
theorem d_X9_by_4 : decode (mB M_X9_by) 4 = .ok (.ifCond .eq 12, 3) := by decide +kernel
theorem r_X9_by_4 {x0 x1 x2 x3 x4 x5 : Value} {x : Int32} {st : List Value} {h : AH} : Run M_X9_by 4 [x0, x1, x2, x3, x4, x5] (.int x :: st) h = if x = nI 0 then Run M_X9_by 16 [x0, x1, x2, x3, x4, x5] st h else Run M_X9_by 7 [x0, x1, x2, x3, x4, x5] st h := R_if_eq d_X9_by_4 (by decide)
theorem d_X9_by_7 : decode (mB M_X9_by) 7 = .ok (.iload_n 2, 1) := by decide +kernel
theorem r_X9_by_7 {x0 x1 x3 x4 x5 : Value} {a : Int32} {st : List Value} {h : AH} : Run M_X9_by 7 [x0, x1, .int a, x3, x4, x5] st h = Run M_X9_by 8 [x0, x1, .int a, x3, x4, x5] (.int a :: st) h := R_iload_n d_X9_by_7 rfl
theorem d_X9_by_8 : decode (mB M_X9_by) 8 = .ok (.iconst 0, 1) := by decide +kernel
theorem r_X9_by_8 {x0 x1 x2 x3 x4 x5 : Value} {st : List Value} {h : AH} : Run M_X9_by 8 [x0, x1, x2, x3, x4, x5] st h = Run M_X9_by 9 [x0, x1, x2, x3, x4, x5] (.int (nI 0) :: st) h := R_iconst d_X9_by_8 (by decide)
theorem d_X9_by_9 : decode (mB M_X9_by) 9 = .ok (.iconst 1, 1) := by decide +kernel
theorem r_X9_by_9 {x0 x1 x2 x3 x4 x5 : Value} {st : List Value} {h : AH} : Run M_X9_by 9 [x0, x1, x2, x3, x4, x5] st h = Run M_X9_by 10 [x0, x1, x2, x3, x4, x5] (.int (nI 1) :: st) h := R_iconst d_X9_by_9 (by decide)
theorem d_X9_by_10 : decode (mB M_X9_by) 10 = .ok (.invokestatic 85, 3) := by decide +kernel
theorem r_X9_by_10 {x0 x1 x2 x3 x4 x5 : Value} {p0 : Int32} {p1 : Int32} {p2 : Int32} {h : AH} : Run M_X9_by 10 [x0, x1, x2, x3, x4, x5] (.int p2 :: .int p1 :: .int p0 :: []) h = if (Call M_X9_in h [.int p0, .int p1, .int p2]).isSome = true then Run M_X9_by 13 [x0, x1, x2, x3, x4, x5] (rL (Call M_X9_in h [.int p0, .int p1, .int p2]) ++ []) (cH (Call M_X9_in h [.int p0, .int p1, .int p2])) else none := R_stat d_X9_by_10 rfl rfl rfl rfl (Nat.le_of_ble_eq_true rfl)
theorem d_X9_by_13 : decode (mB M_X9_by) 13 = .ok (.ifCond .ne 7, 3) := by decide +kernel
theorem r_X9_by_13 {x0 x1 x2 x3 x4 x5 : Value} {x : Int32} {st : List Value} {h : AH} : Run M_X9_by 13 [x0, x1, x2, x3, x4, x5] (.int x :: st) h = if x = nI 0 then Run M_X9_by 16 [x0, x1, x2, x3, x4, x5] st h else Run M_X9_by 20 [x0, x1, x2, x3, x4, x5] st h := R_if_ne d_X9_by_13 (by decide)
theorem d_X9_by_16 : decode (mB M_X9_by) 16 = .ok (.ldc2_w 216, 3) := by decide +kernel
theorem r_X9_by_16 {x0 x1 x2 x3 x4 x5 : Value} {st : List Value} {h : AH} : Run M_X9_by 16 [x0, x1, x2, x3, x4, x5] st h = Run M_X9_by 19 [x0, x1, x2, x3, x4, x5] (.long (-1000000002) :: st) h := R_ldc2_w d_X9_by_16 (by decide)
theorem d_X9_by_19 : decode (mB M_X9_by) 19 = .ok (.lreturn, 1) := by decide +kernel
theorem r_X9_by_19 {x0 x1 x2 x3 x4 x5 : Value} {v : Int64} {h : AH} : Run M_X9_by 19 [x0, x1, x2, x3, x4, x5] [.long v] h = some (h, some (.long v)) := R_lreturn d_X9_by_19 rfl
theorem d_X9_by_20 : decode (mB M_X9_by) 20 = .ok (.aload_n 0, 1) := by decide +kernel
theorem r_X9_by_20 {x1 x2 x3 x4 x5 : Value} {a : Nat} {st : List Value} {h : AH} : Run M_X9_by 20 [.ref a, x1, x2, x3, x4, x5] st h = Run M_X9_by 21 [.ref a, x1, x2, x3, x4, x5] (.ref a :: st) h := R_aload_n d_X9_by_20 rfl
theorem d_X9_by_21 : decode (mB M_X9_by) 21 = .ok (.aload_n 0, 1) := by decide +kernel
theorem r_X9_by_21 {x1 x2 x3 x4 x5 : Value} {a : Nat} {st : List Value} {h : AH} : Run M_X9_by 21 [.ref a, x1, x2, x3, x4, x5] st h = Run M_X9_by 22 [.ref a, x1, x2, x3, x4, x5] (.ref a :: st) h := R_aload_n d_X9_by_21 rfl
theorem d_X9_by_22 : decode (mB M_X9_by) 22 = .ok (.getfield 82, 3) := by decide +kernel
theorem r_X9_by_22 {x0 x1 x2 x3 x4 x5 : Value} {a : Nat} {st : List Value} {h : AH} : Run M_X9_by 22 [x0, x1, x2, x3, x4, x5] (.ref a :: st) h = if (gF h a 9 3).isSome = true then Run M_X9_by 25 [x0, x1, x2, x3, x4, x5] ((gF h a 9 3).getD .null :: st) h else none := R_getfield d_X9_by_22 rfl
theorem d_X9_by_25 : decode (mB M_X9_by) 25 = .ok (.invokevirtual 218, 3) := by decide +kernel
theorem r_X9_by_25 {x0 x1 x2 x3 x4 x5 : Value} {p0 : Int32} {a : Nat} {h : AH} : Run M_X9_by 25 [x0, x1, x2, x3, x4, x5] (.int p0 :: .ref a :: []) h = if refO h 9 (some (.ref a)) = true then (if (Call M_X9_findWeights h [.ref a, .int p0]).isSome = true then Run M_X9_by 28 [x0, x1, x2, x3, x4, x5] (rL (Call M_X9_findWeights h [.ref a, .int p0]) ++ []) (cH (Call M_X9_findWeights h [.ref a, .int p0])) else none) else none := R_virt d_X9_by_25 rfl rfl rfl rfl rfl (Nat.le_of_ble_eq_true rfl)
theorem d_X9_by_28 : decode (mB M_X9_by) 28 = .ok (.lconst 0, 1) := by decide +kernel
theorem r_X9_by_28 {x0 x1 x2 x3 x4 x5 : Value} {st : List Value} {h : AH} : Run M_X9_by 28 [x0, x1, x2, x3, x4, x5] st h = Run M_X9_by 29 [x0, x1, x2, x3, x4, x5] (.long (lN 0) :: st) h := R_lconst d_X9_by_28 (by decide)
theorem d_X9_by_29 : decode (mB M_X9_by) 29 = .ok (.lstore_n 3, 1) := by decide +kernel
theorem r_X9_by_29 {x0 x1 x2 x3 x4 x5 : Value} {a : Int64} {st : List Value} {h : AH} (hc : x2.category = 1) : Run M_X9_by 29 [x0, x1, x2, x3, x4, x5] (.long a :: st) h = Run M_X9_by 30 [x0, x1, x2, .long a, .null, x5] st h := R_lstore_n d_X9_by_29 (Nat.lt_of_lt_of_le (by decide : 4 < 6) (Nat.le_refl 6)) (catP_of rfl hc)
theorem d_X9_by_30 : decode (mB M_X9_by) 30 = .ok (.iconst 0, 1) := by decide +kernel
theorem r_X9_by_30 {x0 x1 x2 x3 x4 x5 : Value} {st : List Value} {h : AH} : Run M_X9_by 30 [x0, x1, x2, x3, x4, x5] st h = Run M_X9_by 31 [x0, x1, x2, x3, x4, x5] (.int (nI 0) :: st) h := R_iconst d_X9_by_30 (by decide)
theorem d_X9_by_31 : decode (mB M_X9_by) 31 = .ok (.istore 5, 2) := by decide +kernel
theorem r_X9_by_31 {x0 x1 x2 x3 x4 x5 : Value} {a : Int32} {st : List Value} {h : AH} (hc : x4.category = 1) : Run M_X9_by 31 [x0, x1, x2, x3, x4, x5] (.int a :: st) h = Run M_X9_by 33 [x0, x1, x2, x3, x4, .int a] st h := R_istore d_X9_by_31 (Nat.lt_of_lt_of_le (by decide : 5 < 6) (Nat.le_refl 6)) (catP_of rfl hc)
theorem d_X9_by_33 : decode (mB M_X9_by) 33 = .ok (.iload 5, 2) := by decide +kernel
theorem r_X9_by_33 {x0 x1 x2 x3 x4 : Value} {a : Int32} {st : List Value} {h : AH} : Run M_X9_by 33 [x0, x1, x2, x3, x4, .int a] st h = Run M_X9_by 35 [x0, x1, x2, x3, x4, .int a] (.int a :: st) h := R_iload d_X9_by_33 rfl
theorem d_X9_by_35 : decode (mB M_X9_by) 35 = .ok (.iload_n 1, 1) := by decide +kernel
theorem r_X9_by_35 {x0 x2 x3 x4 x5 : Value} {a : Int32} {st : List Value} {h : AH} : Run M_X9_by 35 [x0, .int a, x2, x3, x4, x5] st h = Run M_X9_by 36 [x0, .int a, x2, x3, x4, x5] (.int a :: st) h := R_iload_n d_X9_by_35 rfl
theorem d_X9_by_36 : decode (mB M_X9_by) 36 = .ok (.if_icmp .gt 19, 3) := by decide +kernel
theorem r_X9_by_36 {x0 x1 x2 x3 x4 x5 : Value} {x y : Int32} {st : List Value} {h : AH} : Run M_X9_by 36 [x0, x1, x2, x3, x4, x5] (.int y :: .int x :: st) h = if y < x then Run M_X9_by 55 [x0, x1, x2, x3, x4, x5] st h else Run M_X9_by 39 [x0, x1, x2, x3, x4, x5] st h := R_icmp_gt d_X9_by_36 (by decide)
theorem d_X9_by_39 : decode (mB M_X9_by) 39 = .ok (.lload_n 3, 1) := by decide +kernel
theorem r_X9_by_39 {x0 x1 x2 x4 x5 : Value} {a : Int64} {st : List Value} {h : AH} : Run M_X9_by 39 [x0, x1, x2, .long a, x4, x5] st h = Run M_X9_by 40 [x0, x1, x2, .long a, x4, x5] (.long a :: st) h := R_lload_n d_X9_by_39 rfl
theorem d_X9_by_40 : decode (mB M_X9_by) 40 = .ok (.aload_n 0, 1) := by decide +kernel
theorem r_X9_by_40 {x1 x2 x3 x4 x5 : Value} {a : Nat} {st : List Value} {h : AH} : Run M_X9_by 40 [.ref a, x1, x2, x3, x4, x5] st h = Run M_X9_by 41 [.ref a, x1, x2, x3, x4, x5] (.ref a :: st) h := R_aload_n d_X9_by_40 rfl
theorem d_X9_by_41 : decode (mB M_X9_by) 41 = .ok (.getfield 69, 3) := by decide +kernel
theorem r_X9_by_41 {x0 x1 x2 x3 x4 x5 : Value} {a : Nat} {st : List Value} {h : AH} : Run M_X9_by 41 [x0, x1, x2, x3, x4, x5] (.ref a :: st) h = if (gF h a 9 34).isSome = true then Run M_X9_by 44 [x0, x1, x2, x3, x4, x5] ((gF h a 9 34).getD .null :: st) h else none := R_getfield d_X9_by_41 rfl
theorem d_X9_by_44 : decode (mB M_X9_by) 44 = .ok (.iload 5, 2) := by decide +kernel
theorem r_X9_by_44 {x0 x1 x2 x3 x4 : Value} {a : Int32} {st : List Value} {h : AH} : Run M_X9_by 44 [x0, x1, x2, x3, x4, .int a] st h = Run M_X9_by 46 [x0, x1, x2, x3, x4, .int a] (.int a :: st) h := R_iload d_X9_by_44 rfl
theorem d_X9_by_46 : decode (mB M_X9_by) 46 = .ok (.laload, 1) := by decide +kernel
theorem r_X9_by_46 {x0 x1 x2 x3 x4 x5 : Value} {a : Nat} {i : Int32} {st : List Value} {h : AH} : Run M_X9_by 46 [x0, x1, x2, x3, x4, x5] (.int i :: .ref a :: st) h = if (gJ h a i).isSome = true then Run M_X9_by 47 [x0, x1, x2, x3, x4, x5] (.long ((gJ h a i).getD 0) :: st) h else none := R_laload d_X9_by_46
theorem d_X9_by_47 : decode (mB M_X9_by) 47 = .ok (.ladd, 1) := by decide +kernel
theorem r_X9_by_47 {x0 x1 x2 x3 x4 x5 : Value} {x y : Int64} {st : List Value} {h : AH} : Run M_X9_by 47 [x0, x1, x2, x3, x4, x5] (.long y :: .long x :: st) h = Run M_X9_by 48 [x0, x1, x2, x3, x4, x5] (.long (x + y) :: st) h := R_ladd d_X9_by_47
theorem d_X9_by_48 : decode (mB M_X9_by) 48 = .ok (.lstore_n 3, 1) := by decide +kernel
theorem r_X9_by_48 {x0 x1 x2 x3 x4 x5 : Value} {a : Int64} {st : List Value} {h : AH} (hc : x2.category = 1) : Run M_X9_by 48 [x0, x1, x2, x3, x4, x5] (.long a :: st) h = Run M_X9_by 49 [x0, x1, x2, .long a, .null, x5] st h := R_lstore_n d_X9_by_48 (Nat.lt_of_lt_of_le (by decide : 4 < 6) (Nat.le_refl 6)) (catP_of rfl hc)
theorem d_X9_by_49 : decode (mB M_X9_by) 49 = .ok (.iinc 5 1, 3) := by decide +kernel
theorem r_X9_by_49 {x0 x1 x2 x3 x4 : Value} {a : Int32} {st : List Value} {h : AH} (hc : x4.category = 1) : Run M_X9_by 49 [x0, x1, x2, x3, x4, .int a] st h = Run M_X9_by 52 [x0, x1, x2, x3, x4, .int (a + (nI 1))] st h := R_iinc d_X9_by_49 (by decide) rfl (catP_of rfl hc)
theorem d_X9_by_52 : decode (mB M_X9_by) 52 = .ok (.goto (-19), 3) := by decide +kernel
theorem r_X9_by_52 {x0 x1 x2 x3 x4 x5 : Value} {st : List Value} {h : AH} : Run M_X9_by 52 [x0, x1, x2, x3, x4, x5] st h = Run M_X9_by 33 [x0, x1, x2, x3, x4, x5] st h := R_goto d_X9_by_52 (by decide)
theorem d_X9_by_55 : decode (mB M_X9_by) 55 = .ok (.lload_n 3, 1) := by decide +kernel
theorem r_X9_by_55 {x0 x1 x2 x4 x5 : Value} {a : Int64} {st : List Value} {h : AH} : Run M_X9_by 55 [x0, x1, x2, .long a, x4, x5] st h = Run M_X9_by 56 [x0, x1, x2, .long a, x4, x5] (.long a :: st) h := R_lload_n d_X9_by_55 rfl
theorem d_X9_by_56 : decode (mB M_X9_by) 56 = .ok (.aload_n 0, 1) := by decide +kernel
theorem r_X9_by_56 {x1 x2 x3 x4 x5 : Value} {a : Nat} {st : List Value} {h : AH} : Run M_X9_by 56 [.ref a, x1, x2, x3, x4, x5] st h = Run M_X9_by 57 [.ref a, x1, x2, x3, x4, x5] (.ref a :: st) h := R_aload_n d_X9_by_56 rfl
theorem d_X9_by_57 : decode (mB M_X9_by) 57 = .ok (.iconst 0, 1) := by decide +kernel
theorem r_X9_by_57 {x0 x1 x2 x3 x4 x5 : Value} {st : List Value} {h : AH} : Run M_X9_by 57 [x0, x1, x2, x3, x4, x5] st h = Run M_X9_by 58 [x0, x1, x2, x3, x4, x5] (.int (nI 0) :: st) h := R_iconst d_X9_by_57 (by decide)
theorem d_X9_by_58 : decode (mB M_X9_by) 58 = .ok (.aload_n 0, 1) := by decide +kernel
theorem r_X9_by_58 {x1 x2 x3 x4 x5 : Value} {a : Nat} {st : List Value} {h : AH} : Run M_X9_by 58 [.ref a, x1, x2, x3, x4, x5] st h = Run M_X9_by 59 [.ref a, x1, x2, x3, x4, x5] (.ref a :: st) h := R_aload_n d_X9_by_58 rfl
theorem d_X9_by_59 : decode (mB M_X9_by) 59 = .ok (.getfield 82, 3) := by decide +kernel
theorem r_X9_by_59 {x0 x1 x2 x3 x4 x5 : Value} {a : Nat} {st : List Value} {h : AH} : Run M_X9_by 59 [x0, x1, x2, x3, x4, x5] (.ref a :: st) h = if (gF h a 9 3).isSome = true then Run M_X9_by 62 [x0, x1, x2, x3, x4, x5] ((gF h a 9 3).getD .null :: st) h else none := R_getfield d_X9_by_59 rfl
theorem d_X9_by_62 : decode (mB M_X9_by) 62 = .ok (.invokevirtual 221, 3) := by decide +kernel
theorem r_X9_by_62 {x0 x1 x2 x3 x4 x5 : Value} {p0 : Int32} {p1 : Int32} {a : Nat} {w0 : Value} {h : AH} : Run M_X9_by 62 [x0, x1, x2, x3, x4, x5] (.int p1 :: .int p0 :: .ref a :: [w0]) h = if refO h 9 (some (.ref a)) = true then (if (Call M_X9_whole h [.ref a, .int p0, .int p1]).isSome = true then Run M_X9_by 65 [x0, x1, x2, x3, x4, x5] (rL (Call M_X9_whole h [.ref a, .int p0, .int p1]) ++ [w0]) (cH (Call M_X9_whole h [.ref a, .int p0, .int p1])) else none) else none := R_virt d_X9_by_62 rfl rfl rfl rfl rfl (Nat.le_of_ble_eq_true rfl)
theorem d_X9_by_65 : decode (mB M_X9_by) 65 = .ok (.iload_n 2, 1) := by decide +kernel
theorem r_X9_by_65 {x0 x1 x3 x4 x5 : Value} {a : Int32} {st : List Value} {h : AH} : Run M_X9_by 65 [x0, x1, .int a, x3, x4, x5] st h = Run M_X9_by 66 [x0, x1, .int a, x3, x4, x5] (.int a :: st) h := R_iload_n d_X9_by_65 rfl
theorem d_X9_by_66 : decode (mB M_X9_by) 66 = .ok (.invokestatic 225, 3) := by decide +kernel
theorem r_X9_by_66 {x0 x1 x2 x3 x4 x5 : Value} {p0 : Int64} {p1 : Int64} {p2 : Int32} {h : AH} : Run M_X9_by 66 [x0, x1, x2, x3, x4, x5] (.int p2 :: .long p1 :: .long p0 :: []) h = if (Call M_X9_share h [.long p0, .long p1, .int p2]).isSome = true then Run M_X9_by 69 [x0, x1, x2, x3, x4, x5] (rL (Call M_X9_share h [.long p0, .long p1, .int p2]) ++ []) (cH (Call M_X9_share h [.long p0, .long p1, .int p2])) else none := R_stat d_X9_by_66 rfl rfl rfl rfl (Nat.le_of_ble_eq_true rfl)
theorem d_X9_by_69 : decode (mB M_X9_by) 69 = .ok (.lreturn, 1) := by decide +kernel
theorem r_X9_by_69 {x0 x1 x2 x3 x4 x5 : Value} {v : Int64} {h : AH} : Run M_X9_by 69 [x0, x1, x2, x3, x4, x5] [.long v] h = some (h, some (.long v)) := R_lreturn d_X9_by_69 rfl
theorem d_X9_mean_0 : decode (mB M_X9_mean) 0 = .ok (.iload_n 1, 1) := by decide +kernel
theorem r_X9_mean_0 {x0 x2 x3 x4 : Value} {a : Int32} {st : List Value} {h : AH} : Run M_X9_mean 0 [x0, .int a, x2, x3, x4] st h = Run M_X9_mean 1 [x0, .int a, x2, x3, x4] (.int a :: st) h := R_iload_n d_X9_mean_0 rfl
theorem d_X9_mean_1 : decode (mB M_X9_mean) 1 = .ok (.iconst 0, 1) := by decide +kernel
theorem r_X9_mean_1 {x0 x1 x2 x3 x4 : Value} {st : List Value} {h : AH} : Run M_X9_mean 1 [x0, x1, x2, x3, x4] st h = Run M_X9_mean 2 [x0, x1, x2, x3, x4] (.int (nI 0) :: st) h := R_iconst d_X9_mean_1 (by decide)
theorem d_X9_mean_2 : decode (mB M_X9_mean) 2 = .ok (.iconst 1, 1) := by decide +kernel
theorem r_X9_mean_2 {x0 x1 x2 x3 x4 : Value} {st : List Value} {h : AH} : Run M_X9_mean 2 [x0, x1, x2, x3, x4] st h = Run M_X9_mean 3 [x0, x1, x2, x3, x4] (.int (nI 1) :: st) h := R_iconst d_X9_mean_2 (by decide)
theorem d_X9_mean_3 : decode (mB M_X9_mean) 3 = .ok (.invokestatic 85, 3) := by decide +kernel
theorem r_X9_mean_3 {x0 x1 x2 x3 x4 : Value} {p0 : Int32} {p1 : Int32} {p2 : Int32} {h : AH} : Run M_X9_mean 3 [x0, x1, x2, x3, x4] (.int p2 :: .int p1 :: .int p0 :: []) h = if (Call M_X9_in h [.int p0, .int p1, .int p2]).isSome = true then Run M_X9_mean 6 [x0, x1, x2, x3, x4] (rL (Call M_X9_in h [.int p0, .int p1, .int p2]) ++ []) (cH (Call M_X9_in h [.int p0, .int p1, .int p2])) else none := R_stat d_X9_mean_3 rfl rfl rfl rfl (Nat.le_of_ble_eq_true rfl)
theorem d_X9_mean_6 : decode (mB M_X9_mean) 6 = .ok (.ifCond .ne 7, 3) := by decide +kernel
theorem r_X9_mean_6 {x0 x1 x2 x3 x4 : Value} {x : Int32} {st : List Value} {h : AH} : Run M_X9_mean 6 [x0, x1, x2, x3, x4] (.int x :: st) h = if x = nI 0 then Run M_X9_mean 9 [x0, x1, x2, x3, x4] st h else Run M_X9_mean 13 [x0, x1, x2, x3, x4] st h := R_if_ne d_X9_mean_6 (by decide)
theorem d_X9_mean_9 : decode (mB M_X9_mean) 9 = .ok (.ldc2_w 216, 3) := by decide +kernel
theorem r_X9_mean_9 {x0 x1 x2 x3 x4 : Value} {st : List Value} {h : AH} : Run M_X9_mean 9 [x0, x1, x2, x3, x4] st h = Run M_X9_mean 12 [x0, x1, x2, x3, x4] (.long (-1000000002) :: st) h := R_ldc2_w d_X9_mean_9 (by decide)
theorem d_X9_mean_12 : decode (mB M_X9_mean) 12 = .ok (.lreturn, 1) := by decide +kernel
theorem r_X9_mean_12 {x0 x1 x2 x3 x4 : Value} {v : Int64} {h : AH} : Run M_X9_mean 12 [x0, x1, x2, x3, x4] [.long v] h = some (h, some (.long v)) := R_lreturn d_X9_mean_12 rfl
theorem d_X9_mean_13 : decode (mB M_X9_mean) 13 = .ok (.aload_n 0, 1) := by decide +kernel
theorem r_X9_mean_13 {x1 x2 x3 x4 : Value} {a : Nat} {st : List Value} {h : AH} : Run M_X9_mean 13 [.ref a, x1, x2, x3, x4] st h = Run M_X9_mean 14 [.ref a, x1, x2, x3, x4] (.ref a :: st) h := R_aload_n d_X9_mean_13 rfl
theorem d_X9_mean_14 : decode (mB M_X9_mean) 14 = .ok (.aload_n 0, 1) := by decide +kernel
theorem r_X9_mean_14 {x1 x2 x3 x4 : Value} {a : Nat} {st : List Value} {h : AH} : Run M_X9_mean 14 [.ref a, x1, x2, x3, x4] st h = Run M_X9_mean 15 [.ref a, x1, x2, x3, x4] (.ref a :: st) h := R_aload_n d_X9_mean_14 rfl
theorem d_X9_mean_15 : decode (mB M_X9_mean) 15 = .ok (.getfield 82, 3) := by decide +kernel
theorem r_X9_mean_15 {x0 x1 x2 x3 x4 : Value} {a : Nat} {st : List Value} {h : AH} : Run M_X9_mean 15 [x0, x1, x2, x3, x4] (.ref a :: st) h = if (gF h a 9 3).isSome = true then Run M_X9_mean 18 [x0, x1, x2, x3, x4] ((gF h a 9 3).getD .null :: st) h else none := R_getfield d_X9_mean_15 rfl
theorem d_X9_mean_18 : decode (mB M_X9_mean) 18 = .ok (.invokevirtual 218, 3) := by decide +kernel
theorem r_X9_mean_18 {x0 x1 x2 x3 x4 : Value} {p0 : Int32} {a : Nat} {h : AH} : Run M_X9_mean 18 [x0, x1, x2, x3, x4] (.int p0 :: .ref a :: []) h = if refO h 9 (some (.ref a)) = true then (if (Call M_X9_findWeights h [.ref a, .int p0]).isSome = true then Run M_X9_mean 21 [x0, x1, x2, x3, x4] (rL (Call M_X9_findWeights h [.ref a, .int p0]) ++ []) (cH (Call M_X9_findWeights h [.ref a, .int p0])) else none) else none := R_virt d_X9_mean_18 rfl rfl rfl rfl rfl (Nat.le_of_ble_eq_true rfl)
theorem d_X9_mean_21 : decode (mB M_X9_mean) 21 = .ok (.lconst 0, 1) := by decide +kernel
theorem r_X9_mean_21 {x0 x1 x2 x3 x4 : Value} {st : List Value} {h : AH} : Run M_X9_mean 21 [x0, x1, x2, x3, x4] st h = Run M_X9_mean 22 [x0, x1, x2, x3, x4] (.long (lN 0) :: st) h := R_lconst d_X9_mean_21 (by decide)
theorem d_X9_mean_22 : decode (mB M_X9_mean) 22 = .ok (.lstore_n 2, 1) := by decide +kernel
theorem r_X9_mean_22 {x0 x1 x2 x3 x4 : Value} {a : Int64} {st : List Value} {h : AH} (hc : x1.category = 1) : Run M_X9_mean 22 [x0, x1, x2, x3, x4] (.long a :: st) h = Run M_X9_mean 23 [x0, x1, .long a, .null, x4] st h := R_lstore_n d_X9_mean_22 (Nat.lt_of_lt_of_le (by decide : 3 < 5) (Nat.le_refl 5)) (catP_of rfl hc)
theorem d_X9_mean_23 : decode (mB M_X9_mean) 23 = .ok (.iconst 0, 1) := by decide +kernel
theorem r_X9_mean_23 {x0 x1 x2 x3 x4 : Value} {st : List Value} {h : AH} : Run M_X9_mean 23 [x0, x1, x2, x3, x4] st h = Run M_X9_mean 24 [x0, x1, x2, x3, x4] (.int (nI 0) :: st) h := R_iconst d_X9_mean_23 (by decide)
theorem d_X9_mean_24 : decode (mB M_X9_mean) 24 = .ok (.istore 4, 2) := by decide +kernel
theorem r_X9_mean_24 {x0 x1 x2 x3 x4 : Value} {a : Int32} {st : List Value} {h : AH} (hc : x3.category = 1) : Run M_X9_mean 24 [x0, x1, x2, x3, x4] (.int a :: st) h = Run M_X9_mean 26 [x0, x1, x2, x3, .int a] st h := R_istore d_X9_mean_24 (Nat.lt_of_lt_of_le (by decide : 4 < 5) (Nat.le_refl 5)) (catP_of rfl hc)
theorem d_X9_mean_26 : decode (mB M_X9_mean) 26 = .ok (.iload 4, 2) := by decide +kernel
theorem r_X9_mean_26 {x0 x1 x2 x3 : Value} {a : Int32} {st : List Value} {h : AH} : Run M_X9_mean 26 [x0, x1, x2, x3, .int a] st h = Run M_X9_mean 28 [x0, x1, x2, x3, .int a] (.int a :: st) h := R_iload d_X9_mean_26 rfl
theorem d_X9_mean_28 : decode (mB M_X9_mean) 28 = .ok (.sipush 420, 3) := by decide +kernel
theorem r_X9_mean_28 {x0 x1 x2 x3 x4 : Value} {st : List Value} {h : AH} : Run M_X9_mean 28 [x0, x1, x2, x3, x4] st h = Run M_X9_mean 31 [x0, x1, x2, x3, x4] (.int (nI 420) :: st) h := R_sipush d_X9_mean_28 (by decide)
theorem d_X9_mean_31 : decode (mB M_X9_mean) 31 = .ok (.if_icmp .gt 23, 3) := by decide +kernel
theorem r_X9_mean_31 {x0 x1 x2 x3 x4 : Value} {x y : Int32} {st : List Value} {h : AH} : Run M_X9_mean 31 [x0, x1, x2, x3, x4] (.int y :: .int x :: st) h = if y < x then Run M_X9_mean 54 [x0, x1, x2, x3, x4] st h else Run M_X9_mean 34 [x0, x1, x2, x3, x4] st h := R_icmp_gt d_X9_mean_31 (by decide)
theorem d_X9_mean_34 : decode (mB M_X9_mean) 34 = .ok (.lload_n 2, 1) := by decide +kernel
theorem r_X9_mean_34 {x0 x1 x3 x4 : Value} {a : Int64} {st : List Value} {h : AH} : Run M_X9_mean 34 [x0, x1, .long a, x3, x4] st h = Run M_X9_mean 35 [x0, x1, .long a, x3, x4] (.long a :: st) h := R_lload_n d_X9_mean_34 rfl
theorem d_X9_mean_35 : decode (mB M_X9_mean) 35 = .ok (.iload 4, 2) := by decide +kernel
theorem r_X9_mean_35 {x0 x1 x2 x3 : Value} {a : Int32} {st : List Value} {h : AH} : Run M_X9_mean 35 [x0, x1, x2, x3, .int a] st h = Run M_X9_mean 37 [x0, x1, x2, x3, .int a] (.int a :: st) h := R_iload d_X9_mean_35 rfl
theorem d_X9_mean_37 : decode (mB M_X9_mean) 37 = .ok (.i2l, 1) := by decide +kernel
theorem r_X9_mean_37 {x0 x1 x2 x3 x4 : Value} {x : Int32} {st : List Value} {h : AH} : Run M_X9_mean 37 [x0, x1, x2, x3, x4] (.int x :: st) h = Run M_X9_mean 38 [x0, x1, x2, x3, x4] (.long x.toInt64 :: st) h := R_i2l d_X9_mean_37
theorem d_X9_mean_38 : decode (mB M_X9_mean) 38 = .ok (.aload_n 0, 1) := by decide +kernel
theorem r_X9_mean_38 {x1 x2 x3 x4 : Value} {a : Nat} {st : List Value} {h : AH} : Run M_X9_mean 38 [.ref a, x1, x2, x3, x4] st h = Run M_X9_mean 39 [.ref a, x1, x2, x3, x4] (.ref a :: st) h := R_aload_n d_X9_mean_38 rfl
theorem d_X9_mean_39 : decode (mB M_X9_mean) 39 = .ok (.getfield 69, 3) := by decide +kernel
theorem r_X9_mean_39 {x0 x1 x2 x3 x4 : Value} {a : Nat} {st : List Value} {h : AH} : Run M_X9_mean 39 [x0, x1, x2, x3, x4] (.ref a :: st) h = if (gF h a 9 34).isSome = true then Run M_X9_mean 42 [x0, x1, x2, x3, x4] ((gF h a 9 34).getD .null :: st) h else none := R_getfield d_X9_mean_39 rfl
theorem d_X9_mean_42 : decode (mB M_X9_mean) 42 = .ok (.iload 4, 2) := by decide +kernel
theorem r_X9_mean_42 {x0 x1 x2 x3 : Value} {a : Int32} {st : List Value} {h : AH} : Run M_X9_mean 42 [x0, x1, x2, x3, .int a] st h = Run M_X9_mean 44 [x0, x1, x2, x3, .int a] (.int a :: st) h := R_iload d_X9_mean_42 rfl
theorem d_X9_mean_44 : decode (mB M_X9_mean) 44 = .ok (.laload, 1) := by decide +kernel
theorem r_X9_mean_44 {x0 x1 x2 x3 x4 : Value} {a : Nat} {i : Int32} {st : List Value} {h : AH} : Run M_X9_mean 44 [x0, x1, x2, x3, x4] (.int i :: .ref a :: st) h = if (gJ h a i).isSome = true then Run M_X9_mean 45 [x0, x1, x2, x3, x4] (.long ((gJ h a i).getD 0) :: st) h else none := R_laload d_X9_mean_44
theorem d_X9_mean_45 : decode (mB M_X9_mean) 45 = .ok (.lmul, 1) := by decide +kernel
theorem r_X9_mean_45 {x0 x1 x2 x3 x4 : Value} {x y : Int64} {st : List Value} {h : AH} : Run M_X9_mean 45 [x0, x1, x2, x3, x4] (.long y :: .long x :: st) h = Run M_X9_mean 46 [x0, x1, x2, x3, x4] (.long (x * y) :: st) h := R_lmul d_X9_mean_45
theorem d_X9_mean_46 : decode (mB M_X9_mean) 46 = .ok (.ladd, 1) := by decide +kernel
theorem r_X9_mean_46 {x0 x1 x2 x3 x4 : Value} {x y : Int64} {st : List Value} {h : AH} : Run M_X9_mean 46 [x0, x1, x2, x3, x4] (.long y :: .long x :: st) h = Run M_X9_mean 47 [x0, x1, x2, x3, x4] (.long (x + y) :: st) h := R_ladd d_X9_mean_46
theorem d_X9_mean_47 : decode (mB M_X9_mean) 47 = .ok (.lstore_n 2, 1) := by decide +kernel
theorem r_X9_mean_47 {x0 x1 x2 x3 x4 : Value} {a : Int64} {st : List Value} {h : AH} (hc : x1.category = 1) : Run M_X9_mean 47 [x0, x1, x2, x3, x4] (.long a :: st) h = Run M_X9_mean 48 [x0, x1, .long a, .null, x4] st h := R_lstore_n d_X9_mean_47 (Nat.lt_of_lt_of_le (by decide : 3 < 5) (Nat.le_refl 5)) (catP_of rfl hc)
theorem d_X9_mean_48 : decode (mB M_X9_mean) 48 = .ok (.iinc 4 1, 3) := by decide +kernel
theorem r_X9_mean_48 {x0 x1 x2 x3 : Value} {a : Int32} {st : List Value} {h : AH} (hc : x3.category = 1) : Run M_X9_mean 48 [x0, x1, x2, x3, .int a] st h = Run M_X9_mean 51 [x0, x1, x2, x3, .int (a + (nI 1))] st h := R_iinc d_X9_mean_48 (by decide) rfl (catP_of rfl hc)
theorem d_X9_mean_51 : decode (mB M_X9_mean) 51 = .ok (.goto (-25), 3) := by decide +kernel
theorem r_X9_mean_51 {x0 x1 x2 x3 x4 : Value} {st : List Value} {h : AH} : Run M_X9_mean 51 [x0, x1, x2, x3, x4] st h = Run M_X9_mean 26 [x0, x1, x2, x3, x4] st h := R_goto d_X9_mean_51 (by decide)
theorem d_X9_mean_54 : decode (mB M_X9_mean) 54 = .ok (.lload_n 2, 1) := by decide +kernel
theorem r_X9_mean_54 {x0 x1 x3 x4 : Value} {a : Int64} {st : List Value} {h : AH} : Run M_X9_mean 54 [x0, x1, .long a, x3, x4] st h = Run M_X9_mean 55 [x0, x1, .long a, x3, x4] (.long a :: st) h := R_lload_n d_X9_mean_54 rfl
theorem d_X9_mean_55 : decode (mB M_X9_mean) 55 = .ok (.aload_n 0, 1) := by decide +kernel
theorem r_X9_mean_55 {x1 x2 x3 x4 : Value} {a : Nat} {st : List Value} {h : AH} : Run M_X9_mean 55 [.ref a, x1, x2, x3, x4] st h = Run M_X9_mean 56 [.ref a, x1, x2, x3, x4] (.ref a :: st) h := R_aload_n d_X9_mean_55 rfl
theorem d_X9_mean_56 : decode (mB M_X9_mean) 56 = .ok (.iconst 0, 1) := by decide +kernel
theorem r_X9_mean_56 {x0 x1 x2 x3 x4 : Value} {st : List Value} {h : AH} : Run M_X9_mean 56 [x0, x1, x2, x3, x4] st h = Run M_X9_mean 57 [x0, x1, x2, x3, x4] (.int (nI 0) :: st) h := R_iconst d_X9_mean_56 (by decide)
theorem d_X9_mean_57 : decode (mB M_X9_mean) 57 = .ok (.aload_n 0, 1) := by decide +kernel
theorem r_X9_mean_57 {x1 x2 x3 x4 : Value} {a : Nat} {st : List Value} {h : AH} : Run M_X9_mean 57 [.ref a, x1, x2, x3, x4] st h = Run M_X9_mean 58 [.ref a, x1, x2, x3, x4] (.ref a :: st) h := R_aload_n d_X9_mean_57 rfl
theorem d_X9_mean_58 : decode (mB M_X9_mean) 58 = .ok (.getfield 82, 3) := by decide +kernel
theorem r_X9_mean_58 {x0 x1 x2 x3 x4 : Value} {a : Nat} {st : List Value} {h : AH} : Run M_X9_mean 58 [x0, x1, x2, x3, x4] (.ref a :: st) h = if (gF h a 9 3).isSome = true then Run M_X9_mean 61 [x0, x1, x2, x3, x4] ((gF h a 9 3).getD .null :: st) h else none := R_getfield d_X9_mean_58 rfl
theorem d_X9_mean_61 : decode (mB M_X9_mean) 61 = .ok (.invokevirtual 221, 3) := by decide +kernel
theorem r_X9_mean_61 {x0 x1 x2 x3 x4 : Value} {p0 : Int32} {p1 : Int32} {a : Nat} {w0 : Value} {h : AH} : Run M_X9_mean 61 [x0, x1, x2, x3, x4] (.int p1 :: .int p0 :: .ref a :: [w0]) h = if refO h 9 (some (.ref a)) = true then (if (Call M_X9_whole h [.ref a, .int p0, .int p1]).isSome = true then Run M_X9_mean 64 [x0, x1, x2, x3, x4] (rL (Call M_X9_whole h [.ref a, .int p0, .int p1]) ++ [w0]) (cH (Call M_X9_whole h [.ref a, .int p0, .int p1])) else none) else none := R_virt d_X9_mean_61 rfl rfl rfl rfl rfl (Nat.le_of_ble_eq_true rfl)
theorem d_X9_mean_64 : decode (mB M_X9_mean) 64 = .ok (.iload_n 1, 1) := by decide +kernel
theorem r_X9_mean_64 {x0 x2 x3 x4 : Value} {a : Int32} {st : List Value} {h : AH} : Run M_X9_mean 64 [x0, .int a, x2, x3, x4] st h = Run M_X9_mean 65 [x0, .int a, x2, x3, x4] (.int a :: st) h := R_iload_n d_X9_mean_64 rfl
theorem d_X9_mean_65 : decode (mB M_X9_mean) 65 = .ok (.invokestatic 225, 3) := by decide +kernel
theorem r_X9_mean_65 {x0 x1 x2 x3 x4 : Value} {p0 : Int64} {p1 : Int64} {p2 : Int32} {h : AH} : Run M_X9_mean 65 [x0, x1, x2, x3, x4] (.int p2 :: .long p1 :: .long p0 :: []) h = if (Call M_X9_share h [.long p0, .long p1, .int p2]).isSome = true then Run M_X9_mean 68 [x0, x1, x2, x3, x4] (rL (Call M_X9_share h [.long p0, .long p1, .int p2]) ++ []) (cH (Call M_X9_share h [.long p0, .long p1, .int p2])) else none := R_stat d_X9_mean_65 rfl rfl rfl rfl (Nat.le_of_ble_eq_true rfl)
theorem d_X9_mean_68 : decode (mB M_X9_mean) 68 = .ok (.lreturn, 1) := by decide +kernel
theorem r_X9_mean_68 {x0 x1 x2 x3 x4 : Value} {v : Int64} {h : AH} : Run M_X9_mean 68 [x0, x1, x2, x3, x4] [.long v] h = some (h, some (.long v)) := R_lreturn d_X9_mean_68 rfl
theorem d_X9_edge_0 : decode (mB M_X9_edge) 0 = .ok (.iload_n 1, 1) := by decide +kernel
theorem r_X9_edge_0 {x0 x2 x3 x4 : Value} {a : Int32} {st : List Value} {h : AH} : Run M_X9_edge 0 [x0, .int a, x2, x3, x4] st h = Run M_X9_edge 1 [x0, .int a, x2, x3, x4] (.int a :: st) h := R_iload_n d_X9_edge_0 rfl
theorem d_X9_edge_1 : decode (mB M_X9_edge) 1 = .ok (.iconst 0, 1) := by decide +kernel
theorem r_X9_edge_1 {x0 x1 x2 x3 x4 : Value} {st : List Value} {h : AH} : Run M_X9_edge 1 [x0, x1, x2, x3, x4] st h = Run M_X9_edge 2 [x0, x1, x2, x3, x4] (.int (nI 0) :: st) h := R_iconst d_X9_edge_1 (by decide)
theorem d_X9_edge_2 : decode (mB M_X9_edge) 2 = .ok (.iconst 1, 1) := by decide +kernel
theorem r_X9_edge_2 {x0 x1 x2 x3 x4 : Value} {st : List Value} {h : AH} : Run M_X9_edge 2 [x0, x1, x2, x3, x4] st h = Run M_X9_edge 3 [x0, x1, x2, x3, x4] (.int (nI 1) :: st) h := R_iconst d_X9_edge_2 (by decide)
theorem d_X9_edge_3 : decode (mB M_X9_edge) 3 = .ok (.invokestatic 85, 3) := by decide +kernel
theorem r_X9_edge_3 {x0 x1 x2 x3 x4 : Value} {p0 : Int32} {p1 : Int32} {p2 : Int32} {h : AH} : Run M_X9_edge 3 [x0, x1, x2, x3, x4] (.int p2 :: .int p1 :: .int p0 :: []) h = if (Call M_X9_in h [.int p0, .int p1, .int p2]).isSome = true then Run M_X9_edge 6 [x0, x1, x2, x3, x4] (rL (Call M_X9_in h [.int p0, .int p1, .int p2]) ++ []) (cH (Call M_X9_in h [.int p0, .int p1, .int p2])) else none := R_stat d_X9_edge_3 rfl rfl rfl rfl (Nat.le_of_ble_eq_true rfl)
theorem d_X9_edge_6 : decode (mB M_X9_edge) 6 = .ok (.ifCond .ne 6, 3) := by decide +kernel
theorem r_X9_edge_6 {x0 x1 x2 x3 x4 : Value} {x : Int32} {st : List Value} {h : AH} : Run M_X9_edge 6 [x0, x1, x2, x3, x4] (.int x :: st) h = if x = nI 0 then Run M_X9_edge 9 [x0, x1, x2, x3, x4] st h else Run M_X9_edge 12 [x0, x1, x2, x3, x4] st h := R_if_ne d_X9_edge_6 (by decide)
theorem d_X9_edge_9 : decode (mB M_X9_edge) 9 = .ok (.ldc 92, 2) := by decide +kernel
theorem r_X9_edge_9 {x0 x1 x2 x3 x4 : Value} {st : List Value} {h : AH} : Run M_X9_edge 9 [x0, x1, x2, x3, x4] st h = Run M_X9_edge 11 [x0, x1, x2, x3, x4] (.int (-1000000002) :: st) h := R_ldc d_X9_edge_9 (by decide)
theorem d_X9_edge_11 : decode (mB M_X9_edge) 11 = .ok (.ireturn, 1) := by decide +kernel
theorem r_X9_edge_11 {x0 x1 x2 x3 x4 : Value} {v : Int32} {h : AH} : Run M_X9_edge 11 [x0, x1, x2, x3, x4] [.int v] h = some (h, some (.int v)) := R_ireturn d_X9_edge_11 rfl rfl
theorem d_X9_edge_12 : decode (mB M_X9_edge) 12 = .ok (.aload_n 0, 1) := by decide +kernel
theorem r_X9_edge_12 {x1 x2 x3 x4 : Value} {a : Nat} {st : List Value} {h : AH} : Run M_X9_edge 12 [.ref a, x1, x2, x3, x4] st h = Run M_X9_edge 13 [.ref a, x1, x2, x3, x4] (.ref a :: st) h := R_aload_n d_X9_edge_12 rfl
theorem d_X9_edge_13 : decode (mB M_X9_edge) 13 = .ok (.aload_n 0, 1) := by decide +kernel
theorem r_X9_edge_13 {x1 x2 x3 x4 : Value} {a : Nat} {st : List Value} {h : AH} : Run M_X9_edge 13 [.ref a, x1, x2, x3, x4] st h = Run M_X9_edge 14 [.ref a, x1, x2, x3, x4] (.ref a :: st) h := R_aload_n d_X9_edge_13 rfl
theorem d_X9_edge_14 : decode (mB M_X9_edge) 14 = .ok (.getfield 82, 3) := by decide +kernel
theorem r_X9_edge_14 {x0 x1 x2 x3 x4 : Value} {a : Nat} {st : List Value} {h : AH} : Run M_X9_edge 14 [x0, x1, x2, x3, x4] (.ref a :: st) h = if (gF h a 9 3).isSome = true then Run M_X9_edge 17 [x0, x1, x2, x3, x4] ((gF h a 9 3).getD .null :: st) h else none := R_getfield d_X9_edge_14 rfl
theorem d_X9_edge_17 : decode (mB M_X9_edge) 17 = .ok (.invokevirtual 218, 3) := by decide +kernel
theorem r_X9_edge_17 {x0 x1 x2 x3 x4 : Value} {p0 : Int32} {a : Nat} {h : AH} : Run M_X9_edge 17 [x0, x1, x2, x3, x4] (.int p0 :: .ref a :: []) h = if refO h 9 (some (.ref a)) = true then (if (Call M_X9_findWeights h [.ref a, .int p0]).isSome = true then Run M_X9_edge 20 [x0, x1, x2, x3, x4] (rL (Call M_X9_findWeights h [.ref a, .int p0]) ++ []) (cH (Call M_X9_findWeights h [.ref a, .int p0])) else none) else none := R_virt d_X9_edge_17 rfl rfl rfl rfl rfl (Nat.le_of_ble_eq_true rfl)
theorem d_X9_edge_20 : decode (mB M_X9_edge) 20 = .ok (.iconst (-1), 1) := by decide +kernel
theorem r_X9_edge_20 {x0 x1 x2 x3 x4 : Value} {st : List Value} {h : AH} : Run M_X9_edge 20 [x0, x1, x2, x3, x4] st h = Run M_X9_edge 21 [x0, x1, x2, x3, x4] (.int (-1) :: st) h := R_iconst d_X9_edge_20 (by decide)
theorem d_X9_edge_21 : decode (mB M_X9_edge) 21 = .ok (.istore_n 2, 1) := by decide +kernel
theorem r_X9_edge_21 {x0 x1 x2 x3 x4 : Value} {a : Int32} {st : List Value} {h : AH} (hc : x1.category = 1) : Run M_X9_edge 21 [x0, x1, x2, x3, x4] (.int a :: st) h = Run M_X9_edge 22 [x0, x1, .int a, x3, x4] st h := R_istore_n d_X9_edge_21 (Nat.lt_of_lt_of_le (by decide : 2 < 5) (Nat.le_refl 5)) (catP_of rfl hc)
theorem d_X9_edge_22 : decode (mB M_X9_edge) 22 = .ok (.iconst 0, 1) := by decide +kernel
theorem r_X9_edge_22 {x0 x1 x2 x3 x4 : Value} {st : List Value} {h : AH} : Run M_X9_edge 22 [x0, x1, x2, x3, x4] st h = Run M_X9_edge 23 [x0, x1, x2, x3, x4] (.int (nI 0) :: st) h := R_iconst d_X9_edge_22 (by decide)
theorem d_X9_edge_23 : decode (mB M_X9_edge) 23 = .ok (.istore_n 3, 1) := by decide +kernel
theorem r_X9_edge_23 {x0 x1 x2 x3 x4 : Value} {a : Int32} {st : List Value} {h : AH} (hc : x2.category = 1) : Run M_X9_edge 23 [x0, x1, x2, x3, x4] (.int a :: st) h = Run M_X9_edge 24 [x0, x1, x2, .int a, x4] st h := R_istore_n d_X9_edge_23 (Nat.lt_of_lt_of_le (by decide : 3 < 5) (Nat.le_refl 5)) (catP_of rfl hc)
theorem d_X9_edge_24 : decode (mB M_X9_edge) 24 = .ok (.iconst 0, 1) := by decide +kernel
theorem r_X9_edge_24 {x0 x1 x2 x3 x4 : Value} {st : List Value} {h : AH} : Run M_X9_edge 24 [x0, x1, x2, x3, x4] st h = Run M_X9_edge 25 [x0, x1, x2, x3, x4] (.int (nI 0) :: st) h := R_iconst d_X9_edge_24 (by decide)
theorem d_X9_edge_25 : decode (mB M_X9_edge) 25 = .ok (.istore 4, 2) := by decide +kernel
theorem r_X9_edge_25 {x0 x1 x2 x3 x4 : Value} {a : Int32} {st : List Value} {h : AH} (hc : x3.category = 1) : Run M_X9_edge 25 [x0, x1, x2, x3, x4] (.int a :: st) h = Run M_X9_edge 27 [x0, x1, x2, x3, .int a] st h := R_istore d_X9_edge_25 (Nat.lt_of_lt_of_le (by decide : 4 < 5) (Nat.le_refl 5)) (catP_of rfl hc)
theorem d_X9_edge_27 : decode (mB M_X9_edge) 27 = .ok (.iload 4, 2) := by decide +kernel
theorem r_X9_edge_27 {x0 x1 x2 x3 : Value} {a : Int32} {st : List Value} {h : AH} : Run M_X9_edge 27 [x0, x1, x2, x3, .int a] st h = Run M_X9_edge 29 [x0, x1, x2, x3, .int a] (.int a :: st) h := R_iload d_X9_edge_27 rfl
theorem d_X9_edge_29 : decode (mB M_X9_edge) 29 = .ok (.sipush 420, 3) := by decide +kernel
theorem r_X9_edge_29 {x0 x1 x2 x3 x4 : Value} {st : List Value} {h : AH} : Run M_X9_edge 29 [x0, x1, x2, x3, x4] st h = Run M_X9_edge 32 [x0, x1, x2, x3, x4] (.int (nI 420) :: st) h := R_sipush d_X9_edge_29 (by decide)
theorem d_X9_edge_32 : decode (mB M_X9_edge) 32 = .ok (.if_icmp .gt 52, 3) := by decide +kernel
theorem r_X9_edge_32 {x0 x1 x2 x3 x4 : Value} {x y : Int32} {st : List Value} {h : AH} : Run M_X9_edge 32 [x0, x1, x2, x3, x4] (.int y :: .int x :: st) h = if y < x then Run M_X9_edge 84 [x0, x1, x2, x3, x4] st h else Run M_X9_edge 35 [x0, x1, x2, x3, x4] st h := R_icmp_gt d_X9_edge_32 (by decide)
theorem d_X9_edge_35 : decode (mB M_X9_edge) 35 = .ok (.iload_n 2, 1) := by decide +kernel
theorem r_X9_edge_35 {x0 x1 x3 x4 : Value} {a : Int32} {st : List Value} {h : AH} : Run M_X9_edge 35 [x0, x1, .int a, x3, x4] st h = Run M_X9_edge 36 [x0, x1, .int a, x3, x4] (.int a :: st) h := R_iload_n d_X9_edge_35 rfl
theorem d_X9_edge_36 : decode (mB M_X9_edge) 36 = .ok (.iconst (-1), 1) := by decide +kernel
theorem r_X9_edge_36 {x0 x1 x2 x3 x4 : Value} {st : List Value} {h : AH} : Run M_X9_edge 36 [x0, x1, x2, x3, x4] st h = Run M_X9_edge 37 [x0, x1, x2, x3, x4] (.int (-1) :: st) h := R_iconst d_X9_edge_36 (by decide)
theorem d_X9_edge_37 : decode (mB M_X9_edge) 37 = .ok (.if_icmp .ne 20, 3) := by decide +kernel
theorem r_X9_edge_37 {x0 x1 x2 x3 x4 : Value} {x y : Int32} {st : List Value} {h : AH} : Run M_X9_edge 37 [x0, x1, x2, x3, x4] (.int y :: .int x :: st) h = if x = y then Run M_X9_edge 40 [x0, x1, x2, x3, x4] st h else Run M_X9_edge 57 [x0, x1, x2, x3, x4] st h := R_icmp_ne d_X9_edge_37 (by decide)
theorem d_X9_edge_40 : decode (mB M_X9_edge) 40 = .ok (.aload_n 0, 1) := by decide +kernel
theorem r_X9_edge_40 {x1 x2 x3 x4 : Value} {a : Nat} {st : List Value} {h : AH} : Run M_X9_edge 40 [.ref a, x1, x2, x3, x4] st h = Run M_X9_edge 41 [.ref a, x1, x2, x3, x4] (.ref a :: st) h := R_aload_n d_X9_edge_40 rfl
theorem d_X9_edge_41 : decode (mB M_X9_edge) 41 = .ok (.getfield 69, 3) := by decide +kernel
theorem r_X9_edge_41 {x0 x1 x2 x3 x4 : Value} {a : Nat} {st : List Value} {h : AH} : Run M_X9_edge 41 [x0, x1, x2, x3, x4] (.ref a :: st) h = if (gF h a 9 34).isSome = true then Run M_X9_edge 44 [x0, x1, x2, x3, x4] ((gF h a 9 34).getD .null :: st) h else none := R_getfield d_X9_edge_41 rfl
theorem d_X9_edge_44 : decode (mB M_X9_edge) 44 = .ok (.iload 4, 2) := by decide +kernel
theorem r_X9_edge_44 {x0 x1 x2 x3 : Value} {a : Int32} {st : List Value} {h : AH} : Run M_X9_edge 44 [x0, x1, x2, x3, .int a] st h = Run M_X9_edge 46 [x0, x1, x2, x3, .int a] (.int a :: st) h := R_iload d_X9_edge_44 rfl
theorem d_X9_edge_46 : decode (mB M_X9_edge) 46 = .ok (.laload, 1) := by decide +kernel
theorem r_X9_edge_46 {x0 x1 x2 x3 x4 : Value} {a : Nat} {i : Int32} {st : List Value} {h : AH} : Run M_X9_edge 46 [x0, x1, x2, x3, x4] (.int i :: .ref a :: st) h = if (gJ h a i).isSome = true then Run M_X9_edge 47 [x0, x1, x2, x3, x4] (.long ((gJ h a i).getD 0) :: st) h else none := R_laload d_X9_edge_46
theorem d_X9_edge_47 : decode (mB M_X9_edge) 47 = .ok (.lconst 0, 1) := by decide +kernel
theorem r_X9_edge_47 {x0 x1 x2 x3 x4 : Value} {st : List Value} {h : AH} : Run M_X9_edge 47 [x0, x1, x2, x3, x4] st h = Run M_X9_edge 48 [x0, x1, x2, x3, x4] (.long (lN 0) :: st) h := R_lconst d_X9_edge_47 (by decide)
theorem d_X9_edge_48 : decode (mB M_X9_edge) 48 = .ok (.lcmp, 1) := by decide +kernel
theorem r_X9_edge_48 {x0 x1 x2 x3 x4 : Value} {x y : Int64} {st : List Value} {h : AH} : Run M_X9_edge 48 [x0, x1, x2, x3, x4] (.long y :: .long x :: st) h = Run M_X9_edge 49 [x0, x1, x2, x3, x4] (.int (lg_cmp x y) :: st) h := R_lcmp d_X9_edge_48
theorem d_X9_edge_49 : decode (mB M_X9_edge) 49 = .ok (.ifCond .le 8, 3) := by decide +kernel
theorem r_X9_edge_49 {x0 x1 x2 x3 x4 : Value} {x : Int32} {st : List Value} {h : AH} : Run M_X9_edge 49 [x0, x1, x2, x3, x4] (.int x :: st) h = if x ≤ nI 0 then Run M_X9_edge 57 [x0, x1, x2, x3, x4] st h else Run M_X9_edge 52 [x0, x1, x2, x3, x4] st h := R_if_le d_X9_edge_49 (by decide)
theorem d_X9_edge_52 : decode (mB M_X9_edge) 52 = .ok (.iload 4, 2) := by decide +kernel
theorem r_X9_edge_52 {x0 x1 x2 x3 : Value} {a : Int32} {st : List Value} {h : AH} : Run M_X9_edge 52 [x0, x1, x2, x3, .int a] st h = Run M_X9_edge 54 [x0, x1, x2, x3, .int a] (.int a :: st) h := R_iload d_X9_edge_52 rfl
theorem d_X9_edge_54 : decode (mB M_X9_edge) 54 = .ok (.goto 4, 3) := by decide +kernel
theorem r_X9_edge_54 {x0 x1 x2 x3 x4 : Value} {st : List Value} {h : AH} : Run M_X9_edge 54 [x0, x1, x2, x3, x4] st h = Run M_X9_edge 58 [x0, x1, x2, x3, x4] st h := R_goto d_X9_edge_54 (by decide)
theorem d_X9_edge_57 : decode (mB M_X9_edge) 57 = .ok (.iload_n 2, 1) := by decide +kernel
theorem r_X9_edge_57 {x0 x1 x3 x4 : Value} {a : Int32} {st : List Value} {h : AH} : Run M_X9_edge 57 [x0, x1, .int a, x3, x4] st h = Run M_X9_edge 58 [x0, x1, .int a, x3, x4] (.int a :: st) h := R_iload_n d_X9_edge_57 rfl
theorem d_X9_edge_58 : decode (mB M_X9_edge) 58 = .ok (.istore_n 2, 1) := by decide +kernel
theorem r_X9_edge_58 {x0 x1 x2 x3 x4 : Value} {a : Int32} {st : List Value} {h : AH} (hc : x1.category = 1) : Run M_X9_edge 58 [x0, x1, x2, x3, x4] (.int a :: st) h = Run M_X9_edge 59 [x0, x1, .int a, x3, x4] st h := R_istore_n d_X9_edge_58 (Nat.lt_of_lt_of_le (by decide : 2 < 5) (Nat.le_refl 5)) (catP_of rfl hc)
theorem d_X9_edge_59 : decode (mB M_X9_edge) 59 = .ok (.aload_n 0, 1) := by decide +kernel
theorem r_X9_edge_59 {x1 x2 x3 x4 : Value} {a : Nat} {st : List Value} {h : AH} : Run M_X9_edge 59 [.ref a, x1, x2, x3, x4] st h = Run M_X9_edge 60 [.ref a, x1, x2, x3, x4] (.ref a :: st) h := R_aload_n d_X9_edge_59 rfl
theorem d_X9_edge_60 : decode (mB M_X9_edge) 60 = .ok (.getfield 69, 3) := by decide +kernel
theorem r_X9_edge_60 {x0 x1 x2 x3 x4 : Value} {a : Nat} {st : List Value} {h : AH} : Run M_X9_edge 60 [x0, x1, x2, x3, x4] (.ref a :: st) h = if (gF h a 9 34).isSome = true then Run M_X9_edge 63 [x0, x1, x2, x3, x4] ((gF h a 9 34).getD .null :: st) h else none := R_getfield d_X9_edge_60 rfl
theorem d_X9_edge_63 : decode (mB M_X9_edge) 63 = .ok (.iload 4, 2) := by decide +kernel
theorem r_X9_edge_63 {x0 x1 x2 x3 : Value} {a : Int32} {st : List Value} {h : AH} : Run M_X9_edge 63 [x0, x1, x2, x3, .int a] st h = Run M_X9_edge 65 [x0, x1, x2, x3, .int a] (.int a :: st) h := R_iload d_X9_edge_63 rfl
theorem d_X9_edge_65 : decode (mB M_X9_edge) 65 = .ok (.laload, 1) := by decide +kernel
theorem r_X9_edge_65 {x0 x1 x2 x3 x4 : Value} {a : Nat} {i : Int32} {st : List Value} {h : AH} : Run M_X9_edge 65 [x0, x1, x2, x3, x4] (.int i :: .ref a :: st) h = if (gJ h a i).isSome = true then Run M_X9_edge 66 [x0, x1, x2, x3, x4] (.long ((gJ h a i).getD 0) :: st) h else none := R_laload d_X9_edge_65
theorem d_X9_edge_66 : decode (mB M_X9_edge) 66 = .ok (.lconst 0, 1) := by decide +kernel
theorem r_X9_edge_66 {x0 x1 x2 x3 x4 : Value} {st : List Value} {h : AH} : Run M_X9_edge 66 [x0, x1, x2, x3, x4] st h = Run M_X9_edge 67 [x0, x1, x2, x3, x4] (.long (lN 0) :: st) h := R_lconst d_X9_edge_66 (by decide)
theorem d_X9_edge_67 : decode (mB M_X9_edge) 67 = .ok (.lcmp, 1) := by decide +kernel
theorem r_X9_edge_67 {x0 x1 x2 x3 x4 : Value} {x y : Int64} {st : List Value} {h : AH} : Run M_X9_edge 67 [x0, x1, x2, x3, x4] (.long y :: .long x :: st) h = Run M_X9_edge 68 [x0, x1, x2, x3, x4] (.int (lg_cmp x y) :: st) h := R_lcmp d_X9_edge_67
theorem d_X9_edge_68 : decode (mB M_X9_edge) 68 = .ok (.ifCond .le 8, 3) := by decide +kernel
theorem r_X9_edge_68 {x0 x1 x2 x3 x4 : Value} {x : Int32} {st : List Value} {h : AH} : Run M_X9_edge 68 [x0, x1, x2, x3, x4] (.int x :: st) h = if x ≤ nI 0 then Run M_X9_edge 76 [x0, x1, x2, x3, x4] st h else Run M_X9_edge 71 [x0, x1, x2, x3, x4] st h := R_if_le d_X9_edge_68 (by decide)
theorem d_X9_edge_71 : decode (mB M_X9_edge) 71 = .ok (.iload 4, 2) := by decide +kernel
theorem r_X9_edge_71 {x0 x1 x2 x3 : Value} {a : Int32} {st : List Value} {h : AH} : Run M_X9_edge 71 [x0, x1, x2, x3, .int a] st h = Run M_X9_edge 73 [x0, x1, x2, x3, .int a] (.int a :: st) h := R_iload d_X9_edge_71 rfl
theorem d_X9_edge_73 : decode (mB M_X9_edge) 73 = .ok (.goto 4, 3) := by decide +kernel
theorem r_X9_edge_73 {x0 x1 x2 x3 x4 : Value} {st : List Value} {h : AH} : Run M_X9_edge 73 [x0, x1, x2, x3, x4] st h = Run M_X9_edge 77 [x0, x1, x2, x3, x4] st h := R_goto d_X9_edge_73 (by decide)
theorem d_X9_edge_76 : decode (mB M_X9_edge) 76 = .ok (.iload_n 3, 1) := by decide +kernel
theorem r_X9_edge_76 {x0 x1 x2 x4 : Value} {a : Int32} {st : List Value} {h : AH} : Run M_X9_edge 76 [x0, x1, x2, .int a, x4] st h = Run M_X9_edge 77 [x0, x1, x2, .int a, x4] (.int a :: st) h := R_iload_n d_X9_edge_76 rfl
theorem d_X9_edge_77 : decode (mB M_X9_edge) 77 = .ok (.istore_n 3, 1) := by decide +kernel
theorem r_X9_edge_77 {x0 x1 x2 x3 x4 : Value} {a : Int32} {st : List Value} {h : AH} (hc : x2.category = 1) : Run M_X9_edge 77 [x0, x1, x2, x3, x4] (.int a :: st) h = Run M_X9_edge 78 [x0, x1, x2, .int a, x4] st h := R_istore_n d_X9_edge_77 (Nat.lt_of_lt_of_le (by decide : 3 < 5) (Nat.le_refl 5)) (catP_of rfl hc)
theorem d_X9_edge_78 : decode (mB M_X9_edge) 78 = .ok (.iinc 4 1, 3) := by decide +kernel
theorem r_X9_edge_78 {x0 x1 x2 x3 : Value} {a : Int32} {st : List Value} {h : AH} (hc : x3.category = 1) : Run M_X9_edge 78 [x0, x1, x2, x3, .int a] st h = Run M_X9_edge 81 [x0, x1, x2, x3, .int (a + (nI 1))] st h := R_iinc d_X9_edge_78 (by decide) rfl (catP_of rfl hc)
theorem d_X9_edge_81 : decode (mB M_X9_edge) 81 = .ok (.goto (-54), 3) := by decide +kernel
theorem r_X9_edge_81 {x0 x1 x2 x3 x4 : Value} {st : List Value} {h : AH} : Run M_X9_edge 81 [x0, x1, x2, x3, x4] st h = Run M_X9_edge 27 [x0, x1, x2, x3, x4] st h := R_goto d_X9_edge_81 (by decide)
theorem d_X9_edge_84 : decode (mB M_X9_edge) 84 = .ok (.iload_n 1, 1) := by decide +kernel
theorem r_X9_edge_84 {x0 x2 x3 x4 : Value} {a : Int32} {st : List Value} {h : AH} : Run M_X9_edge 84 [x0, .int a, x2, x3, x4] st h = Run M_X9_edge 85 [x0, .int a, x2, x3, x4] (.int a :: st) h := R_iload_n d_X9_edge_84 rfl
theorem d_X9_edge_85 : decode (mB M_X9_edge) 85 = .ok (.ifCond .ne 7, 3) := by decide +kernel
theorem r_X9_edge_85 {x0 x1 x2 x3 x4 : Value} {x : Int32} {st : List Value} {h : AH} : Run M_X9_edge 85 [x0, x1, x2, x3, x4] (.int x :: st) h = if x = nI 0 then Run M_X9_edge 88 [x0, x1, x2, x3, x4] st h else Run M_X9_edge 92 [x0, x1, x2, x3, x4] st h := R_if_ne d_X9_edge_85 (by decide)
theorem d_X9_edge_88 : decode (mB M_X9_edge) 88 = .ok (.iload_n 2, 1) := by decide +kernel
theorem r_X9_edge_88 {x0 x1 x3 x4 : Value} {a : Int32} {st : List Value} {h : AH} : Run M_X9_edge 88 [x0, x1, .int a, x3, x4] st h = Run M_X9_edge 89 [x0, x1, .int a, x3, x4] (.int a :: st) h := R_iload_n d_X9_edge_88 rfl
theorem d_X9_edge_89 : decode (mB M_X9_edge) 89 = .ok (.goto 4, 3) := by decide +kernel
theorem r_X9_edge_89 {x0 x1 x2 x3 x4 : Value} {st : List Value} {h : AH} : Run M_X9_edge 89 [x0, x1, x2, x3, x4] st h = Run M_X9_edge 93 [x0, x1, x2, x3, x4] st h := R_goto d_X9_edge_89 (by decide)
theorem d_X9_edge_92 : decode (mB M_X9_edge) 92 = .ok (.iload_n 3, 1) := by decide +kernel
theorem r_X9_edge_92 {x0 x1 x2 x4 : Value} {a : Int32} {st : List Value} {h : AH} : Run M_X9_edge 92 [x0, x1, x2, .int a, x4] st h = Run M_X9_edge 93 [x0, x1, x2, .int a, x4] (.int a :: st) h := R_iload_n d_X9_edge_92 rfl
theorem d_X9_edge_93 : decode (mB M_X9_edge) 93 = .ok (.ireturn, 1) := by decide +kernel
theorem r_X9_edge_93 {x0 x1 x2 x3 x4 : Value} {v : Int32} {h : AH} : Run M_X9_edge 93 [x0, x1, x2, x3, x4] [.int v] h = some (h, some (.int v)) := R_ireturn d_X9_edge_93 rfl rfl
theorem d_X9_starts_0 : decode (mB M_X9_starts) 0 = .ok (.aload_n 0, 1) := by decide +kernel
theorem r_X9_starts_0 {x1 x2 x3 : Value} {a : Nat} {st : List Value} {h : AH} : Run M_X9_starts 0 [.ref a, x1, x2, x3] st h = Run M_X9_starts 1 [.ref a, x1, x2, x3] (.ref a :: st) h := R_aload_n d_X9_starts_0 rfl
theorem d_X9_starts_1 : decode (mB M_X9_starts) 1 = .ok (.iload_n 1, 1) := by decide +kernel
theorem r_X9_starts_1 {x0 x2 x3 : Value} {a : Int32} {st : List Value} {h : AH} : Run M_X9_starts 1 [x0, .int a, x2, x3] st h = Run M_X9_starts 2 [x0, .int a, x2, x3] (.int a :: st) h := R_iload_n d_X9_starts_1 rfl
theorem d_X9_starts_2 : decode (mB M_X9_starts) 2 = .ok (.invokevirtual 191, 3) := by decide +kernel
theorem r_X9_starts_2 {x0 x1 x2 x3 : Value} {p0 : Int32} {a : Nat} {h : AH} : Run M_X9_starts 2 [x0, x1, x2, x3] (.int p0 :: .ref a :: []) h = if refO h 9 (some (.ref a)) = true then (if (Call M_X9_isPart h [.ref a, .int p0]).isSome = true then Run M_X9_starts 5 [x0, x1, x2, x3] (rL (Call M_X9_isPart h [.ref a, .int p0]) ++ []) (cH (Call M_X9_isPart h [.ref a, .int p0])) else none) else none := R_virt d_X9_starts_2 rfl rfl rfl rfl rfl (Nat.le_of_ble_eq_true rfl)
theorem d_X9_starts_5 : decode (mB M_X9_starts) 5 = .ok (.ifCond .ne 7, 3) := by decide +kernel
theorem r_X9_starts_5 {x0 x1 x2 x3 : Value} {x : Int32} {st : List Value} {h : AH} : Run M_X9_starts 5 [x0, x1, x2, x3] (.int x :: st) h = if x = nI 0 then Run M_X9_starts 8 [x0, x1, x2, x3] st h else Run M_X9_starts 12 [x0, x1, x2, x3] st h := R_if_ne d_X9_starts_5 (by decide)
theorem d_X9_starts_8 : decode (mB M_X9_starts) 8 = .ok (.ldc2_w 229, 3) := by decide +kernel
theorem r_X9_starts_8 {x0 x1 x2 x3 : Value} {st : List Value} {h : AH} : Run M_X9_starts 8 [x0, x1, x2, x3] st h = Run M_X9_starts 11 [x0, x1, x2, x3] (.long (-1000000001) :: st) h := R_ldc2_w d_X9_starts_8 (by decide)
theorem d_X9_starts_11 : decode (mB M_X9_starts) 11 = .ok (.lreturn, 1) := by decide +kernel
theorem r_X9_starts_11 {x0 x1 x2 x3 : Value} {v : Int64} {h : AH} : Run M_X9_starts 11 [x0, x1, x2, x3] [.long v] h = some (h, some (.long v)) := R_lreturn d_X9_starts_11 rfl
theorem d_X9_starts_12 : decode (mB M_X9_starts) 12 = .ok (.iload_n 2, 1) := by decide +kernel
theorem r_X9_starts_12 {x0 x1 x3 : Value} {a : Int32} {st : List Value} {h : AH} : Run M_X9_starts 12 [x0, x1, .int a, x3] st h = Run M_X9_starts 13 [x0, x1, .int a, x3] (.int a :: st) h := R_iload_n d_X9_starts_12 rfl
theorem d_X9_starts_13 : decode (mB M_X9_starts) 13 = .ok (.invokestatic 213, 3) := by decide +kernel
theorem r_X9_starts_13 {x0 x1 x2 x3 : Value} {p0 : Int32} {h : AH} : Run M_X9_starts 13 [x0, x1, x2, x3] (.int p0 :: []) h = if (Call M_X9_isTenth h [.int p0]).isSome = true then Run M_X9_starts 16 [x0, x1, x2, x3] (rL (Call M_X9_isTenth h [.int p0]) ++ []) (cH (Call M_X9_isTenth h [.int p0])) else none := R_stat d_X9_starts_13 rfl rfl rfl rfl (Nat.le_of_ble_eq_true rfl)
theorem d_X9_starts_16 : decode (mB M_X9_starts) 16 = .ok (.ifCond .eq 12, 3) := by decide +kernel
theorem r_X9_starts_16 {x0 x1 x2 x3 : Value} {x : Int32} {st : List Value} {h : AH} : Run M_X9_starts 16 [x0, x1, x2, x3] (.int x :: st) h = if x = nI 0 then Run M_X9_starts 28 [x0, x1, x2, x3] st h else Run M_X9_starts 19 [x0, x1, x2, x3] st h := R_if_eq d_X9_starts_16 (by decide)
theorem d_X9_starts_19 : decode (mB M_X9_starts) 19 = .ok (.iload_n 3, 1) := by decide +kernel
theorem r_X9_starts_19 {x0 x1 x2 : Value} {a : Int32} {st : List Value} {h : AH} : Run M_X9_starts 19 [x0, x1, x2, .int a] st h = Run M_X9_starts 20 [x0, x1, x2, .int a] (.int a :: st) h := R_iload_n d_X9_starts_19 rfl
theorem d_X9_starts_20 : decode (mB M_X9_starts) 20 = .ok (.iconst 0, 1) := by decide +kernel
theorem r_X9_starts_20 {x0 x1 x2 x3 : Value} {st : List Value} {h : AH} : Run M_X9_starts 20 [x0, x1, x2, x3] st h = Run M_X9_starts 21 [x0, x1, x2, x3] (.int (nI 0) :: st) h := R_iconst d_X9_starts_20 (by decide)
theorem d_X9_starts_21 : decode (mB M_X9_starts) 21 = .ok (.iconst 1, 1) := by decide +kernel
theorem r_X9_starts_21 {x0 x1 x2 x3 : Value} {st : List Value} {h : AH} : Run M_X9_starts 21 [x0, x1, x2, x3] st h = Run M_X9_starts 22 [x0, x1, x2, x3] (.int (nI 1) :: st) h := R_iconst d_X9_starts_21 (by decide)
theorem d_X9_starts_22 : decode (mB M_X9_starts) 22 = .ok (.invokestatic 85, 3) := by decide +kernel
theorem r_X9_starts_22 {x0 x1 x2 x3 : Value} {p0 : Int32} {p1 : Int32} {p2 : Int32} {h : AH} : Run M_X9_starts 22 [x0, x1, x2, x3] (.int p2 :: .int p1 :: .int p0 :: []) h = if (Call M_X9_in h [.int p0, .int p1, .int p2]).isSome = true then Run M_X9_starts 25 [x0, x1, x2, x3] (rL (Call M_X9_in h [.int p0, .int p1, .int p2]) ++ []) (cH (Call M_X9_in h [.int p0, .int p1, .int p2])) else none := R_stat d_X9_starts_22 rfl rfl rfl rfl (Nat.le_of_ble_eq_true rfl)
theorem d_X9_starts_25 : decode (mB M_X9_starts) 25 = .ok (.ifCond .ne 7, 3) := by decide +kernel
theorem r_X9_starts_25 {x0 x1 x2 x3 : Value} {x : Int32} {st : List Value} {h : AH} : Run M_X9_starts 25 [x0, x1, x2, x3] (.int x :: st) h = if x = nI 0 then Run M_X9_starts 28 [x0, x1, x2, x3] st h else Run M_X9_starts 32 [x0, x1, x2, x3] st h := R_if_ne d_X9_starts_25 (by decide)
theorem d_X9_starts_28 : decode (mB M_X9_starts) 28 = .ok (.ldc2_w 216, 3) := by decide +kernel
theorem r_X9_starts_28 {x0 x1 x2 x3 : Value} {st : List Value} {h : AH} : Run M_X9_starts 28 [x0, x1, x2, x3] st h = Run M_X9_starts 31 [x0, x1, x2, x3] (.long (-1000000002) :: st) h := R_ldc2_w d_X9_starts_28 (by decide)
theorem d_X9_starts_31 : decode (mB M_X9_starts) 31 = .ok (.lreturn, 1) := by decide +kernel
theorem r_X9_starts_31 {x0 x1 x2 x3 : Value} {v : Int64} {h : AH} : Run M_X9_starts 31 [x0, x1, x2, x3] [.long v] h = some (h, some (.long v)) := R_lreturn d_X9_starts_31 rfl
theorem d_X9_starts_32 : decode (mB M_X9_starts) 32 = .ok (.aload_n 0, 1) := by decide +kernel
theorem r_X9_starts_32 {x1 x2 x3 : Value} {a : Nat} {st : List Value} {h : AH} : Run M_X9_starts 32 [.ref a, x1, x2, x3] st h = Run M_X9_starts 33 [.ref a, x1, x2, x3] (.ref a :: st) h := R_aload_n d_X9_starts_32 rfl
theorem d_X9_starts_33 : decode (mB M_X9_starts) 33 = .ok (.iload_n 1, 1) := by decide +kernel
theorem r_X9_starts_33 {x0 x2 x3 : Value} {a : Int32} {st : List Value} {h : AH} : Run M_X9_starts 33 [x0, .int a, x2, x3] st h = Run M_X9_starts 34 [x0, .int a, x2, x3] (.int a :: st) h := R_iload_n d_X9_starts_33 rfl
theorem d_X9_starts_34 : decode (mB M_X9_starts) 34 = .ok (.invokevirtual 218, 3) := by decide +kernel
theorem r_X9_starts_34 {x0 x1 x2 x3 : Value} {p0 : Int32} {a : Nat} {h : AH} : Run M_X9_starts 34 [x0, x1, x2, x3] (.int p0 :: .ref a :: []) h = if refO h 9 (some (.ref a)) = true then (if (Call M_X9_findWeights h [.ref a, .int p0]).isSome = true then Run M_X9_starts 37 [x0, x1, x2, x3] (rL (Call M_X9_findWeights h [.ref a, .int p0]) ++ []) (cH (Call M_X9_findWeights h [.ref a, .int p0])) else none) else none := R_virt d_X9_starts_34 rfl rfl rfl rfl rfl (Nat.le_of_ble_eq_true rfl)
theorem d_X9_starts_37 : decode (mB M_X9_starts) 37 = .ok (.aload_n 0, 1) := by decide +kernel
theorem r_X9_starts_37 {x1 x2 x3 : Value} {a : Nat} {st : List Value} {h : AH} : Run M_X9_starts 37 [.ref a, x1, x2, x3] st h = Run M_X9_starts 38 [.ref a, x1, x2, x3] (.ref a :: st) h := R_aload_n d_X9_starts_37 rfl
theorem d_X9_starts_38 : decode (mB M_X9_starts) 38 = .ok (.getfield 69, 3) := by decide +kernel
theorem r_X9_starts_38 {x0 x1 x2 x3 : Value} {a : Nat} {st : List Value} {h : AH} : Run M_X9_starts 38 [x0, x1, x2, x3] (.ref a :: st) h = if (gF h a 9 34).isSome = true then Run M_X9_starts 41 [x0, x1, x2, x3] ((gF h a 9 34).getD .null :: st) h else none := R_getfield d_X9_starts_38 rfl
theorem d_X9_starts_41 : decode (mB M_X9_starts) 41 = .ok (.iload_n 2, 1) := by decide +kernel
theorem r_X9_starts_41 {x0 x1 x3 : Value} {a : Int32} {st : List Value} {h : AH} : Run M_X9_starts 41 [x0, x1, .int a, x3] st h = Run M_X9_starts 42 [x0, x1, .int a, x3] (.int a :: st) h := R_iload_n d_X9_starts_41 rfl
theorem d_X9_starts_42 : decode (mB M_X9_starts) 42 = .ok (.laload, 1) := by decide +kernel
theorem r_X9_starts_42 {x0 x1 x2 x3 : Value} {a : Nat} {i : Int32} {st : List Value} {h : AH} : Run M_X9_starts 42 [x0, x1, x2, x3] (.int i :: .ref a :: st) h = if (gJ h a i).isSome = true then Run M_X9_starts 43 [x0, x1, x2, x3] (.long ((gJ h a i).getD 0) :: st) h else none := R_laload d_X9_starts_42
theorem d_X9_starts_43 : decode (mB M_X9_starts) 43 = .ok (.bipush 8, 2) := by decide +kernel
theorem r_X9_starts_43 {x0 x1 x2 x3 : Value} {st : List Value} {h : AH} : Run M_X9_starts 43 [x0, x1, x2, x3] st h = Run M_X9_starts 45 [x0, x1, x2, x3] (.int (nI 8) :: st) h := R_bipush d_X9_starts_43 (by decide)
theorem d_X9_starts_45 : decode (mB M_X9_starts) 45 = .ok (.aload_n 0, 1) := by decide +kernel
theorem r_X9_starts_45 {x1 x2 x3 : Value} {a : Nat} {st : List Value} {h : AH} : Run M_X9_starts 45 [.ref a, x1, x2, x3] st h = Run M_X9_starts 46 [.ref a, x1, x2, x3] (.ref a :: st) h := R_aload_n d_X9_starts_45 rfl
theorem d_X9_starts_46 : decode (mB M_X9_starts) 46 = .ok (.getfield 23, 3) := by decide +kernel
theorem r_X9_starts_46 {x0 x1 x2 x3 : Value} {a : Nat} {st : List Value} {h : AH} : Run M_X9_starts 46 [x0, x1, x2, x3] (.ref a :: st) h = if (gF h a 9 5).isSome = true then Run M_X9_starts 49 [x0, x1, x2, x3] ((gF h a 9 5).getD .null :: st) h else none := R_getfield d_X9_starts_46 rfl
theorem d_X9_starts_49 : decode (mB M_X9_starts) 49 = .ok (.iload_n 1, 1) := by decide +kernel
theorem r_X9_starts_49 {x0 x2 x3 : Value} {a : Int32} {st : List Value} {h : AH} : Run M_X9_starts 49 [x0, .int a, x2, x3] st h = Run M_X9_starts 50 [x0, .int a, x2, x3] (.int a :: st) h := R_iload_n d_X9_starts_49 rfl
theorem d_X9_starts_50 : decode (mB M_X9_starts) 50 = .ok (.iaload, 1) := by decide +kernel
theorem r_X9_starts_50 {x0 x1 x2 x3 : Value} {a : Nat} {i : Int32} {st : List Value} {h : AH} : Run M_X9_starts 50 [x0, x1, x2, x3] (.int i :: .ref a :: st) h = if (gI 0 h a i).isSome = true then Run M_X9_starts 51 [x0, x1, x2, x3] (.int ((gI 0 h a i).getD 0) :: st) h else none := R_iaload d_X9_starts_50
theorem d_X9_starts_51 : decode (mB M_X9_starts) 51 = .ok (.isub, 1) := by decide +kernel
theorem r_X9_starts_51 {x0 x1 x2 x3 : Value} {x y : Int32} {st : List Value} {h : AH} : Run M_X9_starts 51 [x0, x1, x2, x3] (.int y :: .int x :: st) h = Run M_X9_starts 52 [x0, x1, x2, x3] (.int (x - y) :: st) h := R_isub d_X9_starts_51
theorem d_X9_starts_52 : decode (mB M_X9_starts) 52 = .ok (.i2l, 1) := by decide +kernel
theorem r_X9_starts_52 {x0 x1 x2 x3 : Value} {x : Int32} {st : List Value} {h : AH} : Run M_X9_starts 52 [x0, x1, x2, x3] (.int x :: st) h = Run M_X9_starts 53 [x0, x1, x2, x3] (.long x.toInt64 :: st) h := R_i2l d_X9_starts_52
theorem d_X9_starts_53 : decode (mB M_X9_starts) 53 = .ok (.lmul, 1) := by decide +kernel
theorem r_X9_starts_53 {x0 x1 x2 x3 : Value} {x y : Int64} {st : List Value} {h : AH} : Run M_X9_starts 53 [x0, x1, x2, x3] (.long y :: .long x :: st) h = Run M_X9_starts 54 [x0, x1, x2, x3] (.long (x * y) :: st) h := R_lmul d_X9_starts_53
theorem d_X9_starts_54 : decode (mB M_X9_starts) 54 = .ok (.aload_n 0, 1) := by decide +kernel
theorem r_X9_starts_54 {x1 x2 x3 : Value} {a : Nat} {st : List Value} {h : AH} : Run M_X9_starts 54 [.ref a, x1, x2, x3] st h = Run M_X9_starts 55 [.ref a, x1, x2, x3] (.ref a :: st) h := R_aload_n d_X9_starts_54 rfl
theorem d_X9_starts_55 : decode (mB M_X9_starts) 55 = .ok (.iconst 0, 1) := by decide +kernel
theorem r_X9_starts_55 {x0 x1 x2 x3 : Value} {st : List Value} {h : AH} : Run M_X9_starts 55 [x0, x1, x2, x3] st h = Run M_X9_starts 56 [x0, x1, x2, x3] (.int (nI 0) :: st) h := R_iconst d_X9_starts_55 (by decide)
theorem d_X9_starts_56 : decode (mB M_X9_starts) 56 = .ok (.iload_n 1, 1) := by decide +kernel
theorem r_X9_starts_56 {x0 x2 x3 : Value} {a : Int32} {st : List Value} {h : AH} : Run M_X9_starts 56 [x0, .int a, x2, x3] st h = Run M_X9_starts 57 [x0, .int a, x2, x3] (.int a :: st) h := R_iload_n d_X9_starts_56 rfl
theorem d_X9_starts_57 : decode (mB M_X9_starts) 57 = .ok (.invokevirtual 221, 3) := by decide +kernel
theorem r_X9_starts_57 {x0 x1 x2 x3 : Value} {p0 : Int32} {p1 : Int32} {a : Nat} {w0 : Value} {h : AH} : Run M_X9_starts 57 [x0, x1, x2, x3] (.int p1 :: .int p0 :: .ref a :: [w0]) h = if refO h 9 (some (.ref a)) = true then (if (Call M_X9_whole h [.ref a, .int p0, .int p1]).isSome = true then Run M_X9_starts 60 [x0, x1, x2, x3] (rL (Call M_X9_whole h [.ref a, .int p0, .int p1]) ++ [w0]) (cH (Call M_X9_whole h [.ref a, .int p0, .int p1])) else none) else none := R_virt d_X9_starts_57 rfl rfl rfl rfl rfl (Nat.le_of_ble_eq_true rfl)
theorem d_X9_starts_60 : decode (mB M_X9_starts) 60 = .ok (.ldc2_w 231, 3) := by decide +kernel
theorem r_X9_starts_60 {x0 x1 x2 x3 : Value} {st : List Value} {h : AH} : Run M_X9_starts 60 [x0, x1, x2, x3] st h = Run M_X9_starts 63 [x0, x1, x2, x3] (.long (lN 8) :: st) h := R_ldc2_w d_X9_starts_60 (by decide)
theorem d_X9_starts_63 : decode (mB M_X9_starts) 63 = .ok (.lmul, 1) := by decide +kernel
theorem r_X9_starts_63 {x0 x1 x2 x3 : Value} {x y : Int64} {st : List Value} {h : AH} : Run M_X9_starts 63 [x0, x1, x2, x3] (.long y :: .long x :: st) h = Run M_X9_starts 64 [x0, x1, x2, x3] (.long (x * y) :: st) h := R_lmul d_X9_starts_63
theorem d_X9_starts_64 : decode (mB M_X9_starts) 64 = .ok (.iload_n 3, 1) := by decide +kernel
theorem r_X9_starts_64 {x0 x1 x2 : Value} {a : Int32} {st : List Value} {h : AH} : Run M_X9_starts 64 [x0, x1, x2, .int a] st h = Run M_X9_starts 65 [x0, x1, x2, .int a] (.int a :: st) h := R_iload_n d_X9_starts_64 rfl
theorem d_X9_starts_65 : decode (mB M_X9_starts) 65 = .ok (.invokestatic 225, 3) := by decide +kernel
theorem r_X9_starts_65 {x0 x1 x2 x3 : Value} {p0 : Int64} {p1 : Int64} {p2 : Int32} {h : AH} : Run M_X9_starts 65 [x0, x1, x2, x3] (.int p2 :: .long p1 :: .long p0 :: []) h = if (Call M_X9_share h [.long p0, .long p1, .int p2]).isSome = true then Run M_X9_starts 68 [x0, x1, x2, x3] (rL (Call M_X9_share h [.long p0, .long p1, .int p2]) ++ []) (cH (Call M_X9_share h [.long p0, .long p1, .int p2])) else none := R_stat d_X9_starts_65 rfl rfl rfl rfl (Nat.le_of_ble_eq_true rfl)
theorem d_X9_starts_68 : decode (mB M_X9_starts) 68 = .ok (.lreturn, 1) := by decide +kernel
theorem r_X9_starts_68 {x0 x1 x2 x3 : Value} {v : Int64} {h : AH} : Run M_X9_starts 68 [x0, x1, x2, x3] [.long v] h = some (h, some (.long v)) := R_lreturn d_X9_starts_68 rfl
theorem d_X9_longer_0 : decode (mB M_X9_longer) 0 = .ok (.lconst 0, 1) := by decide +kernel
theorem r_X9_longer_0 {x0 x1 x2 x3 x4 x5 : Value} {st : List Value} {h : AH} : Run M_X9_longer 0 [x0, x1, x2, x3, x4, x5] st h = Run M_X9_longer 1 [x0, x1, x2, x3, x4, x5] (.long (lN 0) :: st) h := R_lconst d_X9_longer_0 (by decide)
theorem d_X9_longer_1 : decode (mB M_X9_longer) 1 = .ok (.lstore_n 3, 1) := by decide +kernel
theorem r_X9_longer_1 {x0 x1 x2 x3 x4 x5 : Value} {a : Int64} {st : List Value} {h : AH} (hc : x2.category = 1) : Run M_X9_longer 1 [x0, x1, x2, x3, x4, x5] (.long a :: st) h = Run M_X9_longer 2 [x0, x1, x2, .long a, .null, x5] st h := R_lstore_n d_X9_longer_1 (Nat.lt_of_lt_of_le (by decide : 4 < 6) (Nat.le_refl 6)) (catP_of rfl hc)
theorem d_X9_longer_2 : decode (mB M_X9_longer) 2 = .ok (.iconst 0, 1) := by decide +kernel
theorem r_X9_longer_2 {x0 x1 x2 x3 x4 x5 : Value} {st : List Value} {h : AH} : Run M_X9_longer 2 [x0, x1, x2, x3, x4, x5] st h = Run M_X9_longer 3 [x0, x1, x2, x3, x4, x5] (.int (nI 0) :: st) h := R_iconst d_X9_longer_2 (by decide)
theorem d_X9_longer_3 : decode (mB M_X9_longer) 3 = .ok (.istore 5, 2) := by decide +kernel
theorem r_X9_longer_3 {x0 x1 x2 x3 x4 x5 : Value} {a : Int32} {st : List Value} {h : AH} (hc : x4.category = 1) : Run M_X9_longer 3 [x0, x1, x2, x3, x4, x5] (.int a :: st) h = Run M_X9_longer 5 [x0, x1, x2, x3, x4, .int a] st h := R_istore d_X9_longer_3 (Nat.lt_of_lt_of_le (by decide : 5 < 6) (Nat.le_refl 6)) (catP_of rfl hc)
theorem d_X9_longer_5 : decode (mB M_X9_longer) 5 = .ok (.iload 5, 2) := by decide +kernel
theorem r_X9_longer_5 {x0 x1 x2 x3 x4 : Value} {a : Int32} {st : List Value} {h : AH} : Run M_X9_longer 5 [x0, x1, x2, x3, x4, .int a] st h = Run M_X9_longer 7 [x0, x1, x2, x3, x4, .int a] (.int a :: st) h := R_iload d_X9_longer_5 rfl
theorem d_X9_longer_7 : decode (mB M_X9_longer) 7 = .ok (.aload_n 0, 1) := by decide +kernel
theorem r_X9_longer_7 {x1 x2 x3 x4 x5 : Value} {a : Nat} {st : List Value} {h : AH} : Run M_X9_longer 7 [.ref a, x1, x2, x3, x4, x5] st h = Run M_X9_longer 8 [.ref a, x1, x2, x3, x4, x5] (.ref a :: st) h := R_aload_n d_X9_longer_7 rfl
theorem d_X9_longer_8 : decode (mB M_X9_longer) 8 = .ok (.getfield 29, 3) := by decide +kernel
theorem r_X9_longer_8 {x0 x1 x2 x3 x4 x5 : Value} {a : Nat} {st : List Value} {h : AH} : Run M_X9_longer 8 [x0, x1, x2, x3, x4, x5] (.ref a :: st) h = if (gF h a 9 7).isSome = true then Run M_X9_longer 11 [x0, x1, x2, x3, x4, x5] ((gF h a 9 7).getD .null :: st) h else none := R_getfield d_X9_longer_8 rfl
theorem d_X9_longer_11 : decode (mB M_X9_longer) 11 = .ok (.iload_n 1, 1) := by decide +kernel
theorem r_X9_longer_11 {x0 x2 x3 x4 x5 : Value} {a : Int32} {st : List Value} {h : AH} : Run M_X9_longer 11 [x0, .int a, x2, x3, x4, x5] st h = Run M_X9_longer 12 [x0, .int a, x2, x3, x4, x5] (.int a :: st) h := R_iload_n d_X9_longer_11 rfl
theorem d_X9_longer_12 : decode (mB M_X9_longer) 12 = .ok (.iaload, 1) := by decide +kernel
theorem r_X9_longer_12 {x0 x1 x2 x3 x4 x5 : Value} {a : Nat} {i : Int32} {st : List Value} {h : AH} : Run M_X9_longer 12 [x0, x1, x2, x3, x4, x5] (.int i :: .ref a :: st) h = if (gI 0 h a i).isSome = true then Run M_X9_longer 13 [x0, x1, x2, x3, x4, x5] (.int ((gI 0 h a i).getD 0) :: st) h else none := R_iaload d_X9_longer_12
theorem d_X9_longer_13 : decode (mB M_X9_longer) 13 = .ok (.if_icmp .ge 32, 3) := by decide +kernel
theorem r_X9_longer_13 {x0 x1 x2 x3 x4 x5 : Value} {x y : Int32} {st : List Value} {h : AH} : Run M_X9_longer 13 [x0, x1, x2, x3, x4, x5] (.int y :: .int x :: st) h = if y ≤ x then Run M_X9_longer 45 [x0, x1, x2, x3, x4, x5] st h else Run M_X9_longer 16 [x0, x1, x2, x3, x4, x5] st h := R_icmp_ge d_X9_longer_13 (by decide)
theorem d_X9_longer_16 : decode (mB M_X9_longer) 16 = .ok (.lload_n 3, 1) := by decide +kernel
theorem r_X9_longer_16 {x0 x1 x2 x4 x5 : Value} {a : Int64} {st : List Value} {h : AH} : Run M_X9_longer 16 [x0, x1, x2, .long a, x4, x5] st h = Run M_X9_longer 17 [x0, x1, x2, .long a, x4, x5] (.long a :: st) h := R_lload_n d_X9_longer_16 rfl
theorem d_X9_longer_17 : decode (mB M_X9_longer) 17 = .ok (.aload_n 0, 1) := by decide +kernel
theorem r_X9_longer_17 {x1 x2 x3 x4 x5 : Value} {a : Nat} {st : List Value} {h : AH} : Run M_X9_longer 17 [.ref a, x1, x2, x3, x4, x5] st h = Run M_X9_longer 18 [.ref a, x1, x2, x3, x4, x5] (.ref a :: st) h := R_aload_n d_X9_longer_17 rfl
theorem d_X9_longer_18 : decode (mB M_X9_longer) 18 = .ok (.getfield 32, 3) := by decide +kernel
theorem r_X9_longer_18 {x0 x1 x2 x3 x4 x5 : Value} {a : Nat} {st : List Value} {h : AH} : Run M_X9_longer 18 [x0, x1, x2, x3, x4, x5] (.ref a :: st) h = if (gF h a 9 8).isSome = true then Run M_X9_longer 21 [x0, x1, x2, x3, x4, x5] ((gF h a 9 8).getD .null :: st) h else none := R_getfield d_X9_longer_18 rfl
theorem d_X9_longer_21 : decode (mB M_X9_longer) 21 = .ok (.iconst 4, 1) := by decide +kernel
theorem r_X9_longer_21 {x0 x1 x2 x3 x4 x5 : Value} {st : List Value} {h : AH} : Run M_X9_longer 21 [x0, x1, x2, x3, x4, x5] st h = Run M_X9_longer 22 [x0, x1, x2, x3, x4, x5] (.int (nI 4) :: st) h := R_iconst d_X9_longer_21 (by decide)
theorem d_X9_longer_22 : decode (mB M_X9_longer) 22 = .ok (.iload_n 1, 1) := by decide +kernel
theorem r_X9_longer_22 {x0 x2 x3 x4 x5 : Value} {a : Int32} {st : List Value} {h : AH} : Run M_X9_longer 22 [x0, .int a, x2, x3, x4, x5] st h = Run M_X9_longer 23 [x0, .int a, x2, x3, x4, x5] (.int a :: st) h := R_iload_n d_X9_longer_22 rfl
theorem d_X9_longer_23 : decode (mB M_X9_longer) 23 = .ok (.imul, 1) := by decide +kernel
theorem r_X9_longer_23 {x0 x1 x2 x3 x4 x5 : Value} {x y : Int32} {st : List Value} {h : AH} : Run M_X9_longer 23 [x0, x1, x2, x3, x4, x5] (.int y :: .int x :: st) h = Run M_X9_longer 24 [x0, x1, x2, x3, x4, x5] (.int (x * y) :: st) h := R_imul d_X9_longer_23
theorem d_X9_longer_24 : decode (mB M_X9_longer) 24 = .ok (.iload 5, 2) := by decide +kernel
theorem r_X9_longer_24 {x0 x1 x2 x3 x4 : Value} {a : Int32} {st : List Value} {h : AH} : Run M_X9_longer 24 [x0, x1, x2, x3, x4, .int a] st h = Run M_X9_longer 26 [x0, x1, x2, x3, x4, .int a] (.int a :: st) h := R_iload d_X9_longer_24 rfl
theorem d_X9_longer_26 : decode (mB M_X9_longer) 26 = .ok (.iadd, 1) := by decide +kernel
theorem r_X9_longer_26 {x0 x1 x2 x3 x4 x5 : Value} {x y : Int32} {st : List Value} {h : AH} : Run M_X9_longer 26 [x0, x1, x2, x3, x4, x5] (.int y :: .int x :: st) h = Run M_X9_longer 27 [x0, x1, x2, x3, x4, x5] (.int (x + y) :: st) h := R_iadd d_X9_longer_26
theorem d_X9_longer_27 : decode (mB M_X9_longer) 27 = .ok (.iaload, 1) := by decide +kernel
theorem r_X9_longer_27 {x0 x1 x2 x3 x4 x5 : Value} {a : Nat} {i : Int32} {st : List Value} {h : AH} : Run M_X9_longer 27 [x0, x1, x2, x3, x4, x5] (.int i :: .ref a :: st) h = if (gI 0 h a i).isSome = true then Run M_X9_longer 28 [x0, x1, x2, x3, x4, x5] (.int ((gI 0 h a i).getD 0) :: st) h else none := R_iaload d_X9_longer_27
theorem d_X9_longer_28 : decode (mB M_X9_longer) 28 = .ok (.iload_n 2, 1) := by decide +kernel
theorem r_X9_longer_28 {x0 x1 x3 x4 x5 : Value} {a : Int32} {st : List Value} {h : AH} : Run M_X9_longer 28 [x0, x1, .int a, x3, x4, x5] st h = Run M_X9_longer 29 [x0, x1, .int a, x3, x4, x5] (.int a :: st) h := R_iload_n d_X9_longer_28 rfl
theorem d_X9_longer_29 : decode (mB M_X9_longer) 29 = .ok (.if_icmp .le 7, 3) := by decide +kernel
theorem r_X9_longer_29 {x0 x1 x2 x3 x4 x5 : Value} {x y : Int32} {st : List Value} {h : AH} : Run M_X9_longer 29 [x0, x1, x2, x3, x4, x5] (.int y :: .int x :: st) h = if x ≤ y then Run M_X9_longer 36 [x0, x1, x2, x3, x4, x5] st h else Run M_X9_longer 32 [x0, x1, x2, x3, x4, x5] st h := R_icmp_le d_X9_longer_29 (by decide)
theorem d_X9_longer_32 : decode (mB M_X9_longer) 32 = .ok (.lconst 1, 1) := by decide +kernel
theorem r_X9_longer_32 {x0 x1 x2 x3 x4 x5 : Value} {st : List Value} {h : AH} : Run M_X9_longer 32 [x0, x1, x2, x3, x4, x5] st h = Run M_X9_longer 33 [x0, x1, x2, x3, x4, x5] (.long (lN 1) :: st) h := R_lconst d_X9_longer_32 (by decide)
theorem d_X9_longer_33 : decode (mB M_X9_longer) 33 = .ok (.goto 4, 3) := by decide +kernel
theorem r_X9_longer_33 {x0 x1 x2 x3 x4 x5 : Value} {st : List Value} {h : AH} : Run M_X9_longer 33 [x0, x1, x2, x3, x4, x5] st h = Run M_X9_longer 37 [x0, x1, x2, x3, x4, x5] st h := R_goto d_X9_longer_33 (by decide)
theorem d_X9_longer_36 : decode (mB M_X9_longer) 36 = .ok (.lconst 0, 1) := by decide +kernel
theorem r_X9_longer_36 {x0 x1 x2 x3 x4 x5 : Value} {st : List Value} {h : AH} : Run M_X9_longer 36 [x0, x1, x2, x3, x4, x5] st h = Run M_X9_longer 37 [x0, x1, x2, x3, x4, x5] (.long (lN 0) :: st) h := R_lconst d_X9_longer_36 (by decide)
theorem d_X9_longer_37 : decode (mB M_X9_longer) 37 = .ok (.ladd, 1) := by decide +kernel
theorem r_X9_longer_37 {x0 x1 x2 x3 x4 x5 : Value} {x y : Int64} {st : List Value} {h : AH} : Run M_X9_longer 37 [x0, x1, x2, x3, x4, x5] (.long y :: .long x :: st) h = Run M_X9_longer 38 [x0, x1, x2, x3, x4, x5] (.long (x + y) :: st) h := R_ladd d_X9_longer_37
theorem d_X9_longer_38 : decode (mB M_X9_longer) 38 = .ok (.lstore_n 3, 1) := by decide +kernel
theorem r_X9_longer_38 {x0 x1 x2 x3 x4 x5 : Value} {a : Int64} {st : List Value} {h : AH} (hc : x2.category = 1) : Run M_X9_longer 38 [x0, x1, x2, x3, x4, x5] (.long a :: st) h = Run M_X9_longer 39 [x0, x1, x2, .long a, .null, x5] st h := R_lstore_n d_X9_longer_38 (Nat.lt_of_lt_of_le (by decide : 4 < 6) (Nat.le_refl 6)) (catP_of rfl hc)
theorem d_X9_longer_39 : decode (mB M_X9_longer) 39 = .ok (.iinc 5 1, 3) := by decide +kernel
theorem r_X9_longer_39 {x0 x1 x2 x3 x4 : Value} {a : Int32} {st : List Value} {h : AH} (hc : x4.category = 1) : Run M_X9_longer 39 [x0, x1, x2, x3, x4, .int a] st h = Run M_X9_longer 42 [x0, x1, x2, x3, x4, .int (a + (nI 1))] st h := R_iinc d_X9_longer_39 (by decide) rfl (catP_of rfl hc)
theorem d_X9_longer_42 : decode (mB M_X9_longer) 42 = .ok (.goto (-37), 3) := by decide +kernel
theorem r_X9_longer_42 {x0 x1 x2 x3 x4 x5 : Value} {st : List Value} {h : AH} : Run M_X9_longer 42 [x0, x1, x2, x3, x4, x5] st h = Run M_X9_longer 5 [x0, x1, x2, x3, x4, x5] st h := R_goto d_X9_longer_42 (by decide)
theorem d_X9_longer_45 : decode (mB M_X9_longer) 45 = .ok (.lload_n 3, 1) := by decide +kernel
theorem r_X9_longer_45 {x0 x1 x2 x4 x5 : Value} {a : Int64} {st : List Value} {h : AH} : Run M_X9_longer 45 [x0, x1, x2, .long a, x4, x5] st h = Run M_X9_longer 46 [x0, x1, x2, .long a, x4, x5] (.long a :: st) h := R_lload_n d_X9_longer_45 rfl
theorem d_X9_longer_46 : decode (mB M_X9_longer) 46 = .ok (.lreturn, 1) := by decide +kernel
theorem r_X9_longer_46 {x0 x1 x2 x3 x4 x5 : Value} {v : Int64} {h : AH} : Run M_X9_longer 46 [x0, x1, x2, x3, x4, x5] [.long v] h = some (h, some (.long v)) := R_lreturn d_X9_longer_46 rfl
theorem d_X9_isIt_0 : decode (mB M_X9_isIt) 0 = .ok (.iload_n 1, 1) := by decide +kernel
theorem r_X9_isIt_0 {x0 x2 x3 x4 x5 x6 x7 x8 x9 x10 x11 x12 x13 : Value} {a : Int32} {st : List Value} {h : AH} : Run M_X9_isIt 0 [x0, .int a, x2, x3, x4, x5, x6, x7, x8, x9, x10, x11, x12, x13] st h = Run M_X9_isIt 1 [x0, .int a, x2, x3, x4, x5, x6, x7, x8, x9, x10, x11, x12, x13] (.int a :: st) h := R_iload_n d_X9_isIt_0 rfl
theorem d_X9_isIt_1 : decode (mB M_X9_isIt) 1 = .ok (.invokestatic 213, 3) := by decide +kernel
theorem r_X9_isIt_1 {x0 x1 x2 x3 x4 x5 x6 x7 x8 x9 x10 x11 x12 x13 : Value} {p0 : Int32} {h : AH} : Run M_X9_isIt 1 [x0, x1, x2, x3, x4, x5, x6, x7, x8, x9, x10, x11, x12, x13] (.int p0 :: []) h = if (Call M_X9_isTenth h [.int p0]).isSome = true then Run M_X9_isIt 4 [x0, x1, x2, x3, x4, x5, x6, x7, x8, x9, x10, x11, x12, x13] (rL (Call M_X9_isTenth h [.int p0]) ++ []) (cH (Call M_X9_isTenth h [.int p0])) else none := R_stat d_X9_isIt_1 rfl rfl rfl rfl (Nat.le_of_ble_eq_true rfl)
theorem d_X9_isIt_4 : decode (mB M_X9_isIt) 4 = .ok (.ifCond .eq 32, 3) := by decide +kernel
theorem r_X9_isIt_4 {x0 x1 x2 x3 x4 x5 x6 x7 x8 x9 x10 x11 x12 x13 : Value} {x : Int32} {st : List Value} {h : AH} : Run M_X9_isIt 4 [x0, x1, x2, x3, x4, x5, x6, x7, x8, x9, x10, x11, x12, x13] (.int x :: st) h = if x = nI 0 then Run M_X9_isIt 36 [x0, x1, x2, x3, x4, x5, x6, x7, x8, x9, x10, x11, x12, x13] st h else Run M_X9_isIt 7 [x0, x1, x2, x3, x4, x5, x6, x7, x8, x9, x10, x11, x12, x13] st h := R_if_eq d_X9_isIt_4 (by decide)
theorem d_X9_isIt_7 : decode (mB M_X9_isIt) 7 = .ok (.iload_n 2, 1) := by decide +kernel
theorem r_X9_isIt_7 {x0 x1 x3 x4 x5 x6 x7 x8 x9 x10 x11 x12 x13 : Value} {a : Int32} {st : List Value} {h : AH} : Run M_X9_isIt 7 [x0, x1, .int a, x3, x4, x5, x6, x7, x8, x9, x10, x11, x12, x13] st h = Run M_X9_isIt 8 [x0, x1, .int a, x3, x4, x5, x6, x7, x8, x9, x10, x11, x12, x13] (.int a :: st) h := R_iload_n d_X9_isIt_7 rfl
theorem d_X9_isIt_8 : decode (mB M_X9_isIt) 8 = .ok (.iconst 0, 1) := by decide +kernel
theorem r_X9_isIt_8 {x0 x1 x2 x3 x4 x5 x6 x7 x8 x9 x10 x11 x12 x13 : Value} {st : List Value} {h : AH} : Run M_X9_isIt 8 [x0, x1, x2, x3, x4, x5, x6, x7, x8, x9, x10, x11, x12, x13] st h = Run M_X9_isIt 9 [x0, x1, x2, x3, x4, x5, x6, x7, x8, x9, x10, x11, x12, x13] (.int (nI 0) :: st) h := R_iconst d_X9_isIt_8 (by decide)
theorem d_X9_isIt_9 : decode (mB M_X9_isIt) 9 = .ok (.bipush 60, 2) := by decide +kernel
theorem r_X9_isIt_9 {x0 x1 x2 x3 x4 x5 x6 x7 x8 x9 x10 x11 x12 x13 : Value} {st : List Value} {h : AH} : Run M_X9_isIt 9 [x0, x1, x2, x3, x4, x5, x6, x7, x8, x9, x10, x11, x12, x13] st h = Run M_X9_isIt 11 [x0, x1, x2, x3, x4, x5, x6, x7, x8, x9, x10, x11, x12, x13] (.int (nI 60) :: st) h := R_bipush d_X9_isIt_9 (by decide)
theorem d_X9_isIt_11 : decode (mB M_X9_isIt) 11 = .ok (.invokestatic 85, 3) := by decide +kernel
theorem r_X9_isIt_11 {x0 x1 x2 x3 x4 x5 x6 x7 x8 x9 x10 x11 x12 x13 : Value} {p0 : Int32} {p1 : Int32} {p2 : Int32} {h : AH} : Run M_X9_isIt 11 [x0, x1, x2, x3, x4, x5, x6, x7, x8, x9, x10, x11, x12, x13] (.int p2 :: .int p1 :: .int p0 :: []) h = if (Call M_X9_in h [.int p0, .int p1, .int p2]).isSome = true then Run M_X9_isIt 14 [x0, x1, x2, x3, x4, x5, x6, x7, x8, x9, x10, x11, x12, x13] (rL (Call M_X9_in h [.int p0, .int p1, .int p2]) ++ []) (cH (Call M_X9_in h [.int p0, .int p1, .int p2])) else none := R_stat d_X9_isIt_11 rfl rfl rfl rfl (Nat.le_of_ble_eq_true rfl)
theorem d_X9_isIt_14 : decode (mB M_X9_isIt) 14 = .ok (.ifCond .eq 22, 3) := by decide +kernel
theorem r_X9_isIt_14 {x0 x1 x2 x3 x4 x5 x6 x7 x8 x9 x10 x11 x12 x13 : Value} {x : Int32} {st : List Value} {h : AH} : Run M_X9_isIt 14 [x0, x1, x2, x3, x4, x5, x6, x7, x8, x9, x10, x11, x12, x13] (.int x :: st) h = if x = nI 0 then Run M_X9_isIt 36 [x0, x1, x2, x3, x4, x5, x6, x7, x8, x9, x10, x11, x12, x13] st h else Run M_X9_isIt 17 [x0, x1, x2, x3, x4, x5, x6, x7, x8, x9, x10, x11, x12, x13] st h := R_if_eq d_X9_isIt_14 (by decide)
theorem d_X9_isIt_17 : decode (mB M_X9_isIt) 17 = .ok (.iload_n 3, 1) := by decide +kernel
theorem r_X9_isIt_17 {x0 x1 x2 x4 x5 x6 x7 x8 x9 x10 x11 x12 x13 : Value} {a : Int32} {st : List Value} {h : AH} : Run M_X9_isIt 17 [x0, x1, x2, .int a, x4, x5, x6, x7, x8, x9, x10, x11, x12, x13] st h = Run M_X9_isIt 18 [x0, x1, x2, .int a, x4, x5, x6, x7, x8, x9, x10, x11, x12, x13] (.int a :: st) h := R_iload_n d_X9_isIt_17 rfl
theorem d_X9_isIt_18 : decode (mB M_X9_isIt) 18 = .ok (.iconst 0, 1) := by decide +kernel
theorem r_X9_isIt_18 {x0 x1 x2 x3 x4 x5 x6 x7 x8 x9 x10 x11 x12 x13 : Value} {st : List Value} {h : AH} : Run M_X9_isIt 18 [x0, x1, x2, x3, x4, x5, x6, x7, x8, x9, x10, x11, x12, x13] st h = Run M_X9_isIt 19 [x0, x1, x2, x3, x4, x5, x6, x7, x8, x9, x10, x11, x12, x13] (.int (nI 0) :: st) h := R_iconst d_X9_isIt_18 (by decide)
theorem d_X9_isIt_19 : decode (mB M_X9_isIt) 19 = .ok (.iconst 2, 1) := by decide +kernel
theorem r_X9_isIt_19 {x0 x1 x2 x3 x4 x5 x6 x7 x8 x9 x10 x11 x12 x13 : Value} {st : List Value} {h : AH} : Run M_X9_isIt 19 [x0, x1, x2, x3, x4, x5, x6, x7, x8, x9, x10, x11, x12, x13] st h = Run M_X9_isIt 20 [x0, x1, x2, x3, x4, x5, x6, x7, x8, x9, x10, x11, x12, x13] (.int (nI 2) :: st) h := R_iconst d_X9_isIt_19 (by decide)
theorem d_X9_isIt_20 : decode (mB M_X9_isIt) 20 = .ok (.invokestatic 85, 3) := by decide +kernel
theorem r_X9_isIt_20 {x0 x1 x2 x3 x4 x5 x6 x7 x8 x9 x10 x11 x12 x13 : Value} {p0 : Int32} {p1 : Int32} {p2 : Int32} {h : AH} : Run M_X9_isIt 20 [x0, x1, x2, x3, x4, x5, x6, x7, x8, x9, x10, x11, x12, x13] (.int p2 :: .int p1 :: .int p0 :: []) h = if (Call M_X9_in h [.int p0, .int p1, .int p2]).isSome = true then Run M_X9_isIt 23 [x0, x1, x2, x3, x4, x5, x6, x7, x8, x9, x10, x11, x12, x13] (rL (Call M_X9_in h [.int p0, .int p1, .int p2]) ++ []) (cH (Call M_X9_in h [.int p0, .int p1, .int p2])) else none := R_stat d_X9_isIt_20 rfl rfl rfl rfl (Nat.le_of_ble_eq_true rfl)
theorem d_X9_isIt_23 : decode (mB M_X9_isIt) 23 = .ok (.ifCond .eq 13, 3) := by decide +kernel
theorem r_X9_isIt_23 {x0 x1 x2 x3 x4 x5 x6 x7 x8 x9 x10 x11 x12 x13 : Value} {x : Int32} {st : List Value} {h : AH} : Run M_X9_isIt 23 [x0, x1, x2, x3, x4, x5, x6, x7, x8, x9, x10, x11, x12, x13] (.int x :: st) h = if x = nI 0 then Run M_X9_isIt 36 [x0, x1, x2, x3, x4, x5, x6, x7, x8, x9, x10, x11, x12, x13] st h else Run M_X9_isIt 26 [x0, x1, x2, x3, x4, x5, x6, x7, x8, x9, x10, x11, x12, x13] st h := R_if_eq d_X9_isIt_23 (by decide)
theorem d_X9_isIt_26 : decode (mB M_X9_isIt) 26 = .ok (.iload 4, 2) := by decide +kernel
theorem r_X9_isIt_26 {x0 x1 x2 x3 x5 x6 x7 x8 x9 x10 x11 x12 x13 : Value} {a : Int32} {st : List Value} {h : AH} : Run M_X9_isIt 26 [x0, x1, x2, x3, .int a, x5, x6, x7, x8, x9, x10, x11, x12, x13] st h = Run M_X9_isIt 28 [x0, x1, x2, x3, .int a, x5, x6, x7, x8, x9, x10, x11, x12, x13] (.int a :: st) h := R_iload d_X9_isIt_26 rfl
theorem d_X9_isIt_28 : decode (mB M_X9_isIt) 28 = .ok (.iconst 0, 1) := by decide +kernel
theorem r_X9_isIt_28 {x0 x1 x2 x3 x4 x5 x6 x7 x8 x9 x10 x11 x12 x13 : Value} {st : List Value} {h : AH} : Run M_X9_isIt 28 [x0, x1, x2, x3, x4, x5, x6, x7, x8, x9, x10, x11, x12, x13] st h = Run M_X9_isIt 29 [x0, x1, x2, x3, x4, x5, x6, x7, x8, x9, x10, x11, x12, x13] (.int (nI 0) :: st) h := R_iconst d_X9_isIt_28 (by decide)
theorem d_X9_isIt_29 : decode (mB M_X9_isIt) 29 = .ok (.iconst 1, 1) := by decide +kernel
theorem r_X9_isIt_29 {x0 x1 x2 x3 x4 x5 x6 x7 x8 x9 x10 x11 x12 x13 : Value} {st : List Value} {h : AH} : Run M_X9_isIt 29 [x0, x1, x2, x3, x4, x5, x6, x7, x8, x9, x10, x11, x12, x13] st h = Run M_X9_isIt 30 [x0, x1, x2, x3, x4, x5, x6, x7, x8, x9, x10, x11, x12, x13] (.int (nI 1) :: st) h := R_iconst d_X9_isIt_29 (by decide)
theorem d_X9_isIt_30 : decode (mB M_X9_isIt) 30 = .ok (.invokestatic 85, 3) := by decide +kernel
theorem r_X9_isIt_30 {x0 x1 x2 x3 x4 x5 x6 x7 x8 x9 x10 x11 x12 x13 : Value} {p0 : Int32} {p1 : Int32} {p2 : Int32} {h : AH} : Run M_X9_isIt 30 [x0, x1, x2, x3, x4, x5, x6, x7, x8, x9, x10, x11, x12, x13] (.int p2 :: .int p1 :: .int p0 :: []) h = if (Call M_X9_in h [.int p0, .int p1, .int p2]).isSome = true then Run M_X9_isIt 33 [x0, x1, x2, x3, x4, x5, x6, x7, x8, x9, x10, x11, x12, x13] (rL (Call M_X9_in h [.int p0, .int p1, .int p2]) ++ []) (cH (Call M_X9_in h [.int p0, .int p1, .int p2])) else none := R_stat d_X9_isIt_30 rfl rfl rfl rfl (Nat.le_of_ble_eq_true rfl)
theorem d_X9_isIt_33 : decode (mB M_X9_isIt) 33 = .ok (.ifCond .ne 7, 3) := by decide +kernel
theorem r_X9_isIt_33 {x0 x1 x2 x3 x4 x5 x6 x7 x8 x9 x10 x11 x12 x13 : Value} {x : Int32} {st : List Value} {h : AH} : Run M_X9_isIt 33 [x0, x1, x2, x3, x4, x5, x6, x7, x8, x9, x10, x11, x12, x13] (.int x :: st) h = if x = nI 0 then Run M_X9_isIt 36 [x0, x1, x2, x3, x4, x5, x6, x7, x8, x9, x10, x11, x12, x13] st h else Run M_X9_isIt 40 [x0, x1, x2, x3, x4, x5, x6, x7, x8, x9, x10, x11, x12, x13] st h := R_if_ne d_X9_isIt_33 (by decide)
theorem d_X9_isIt_36 : decode (mB M_X9_isIt) 36 = .ok (.ldc2_w 216, 3) := by decide +kernel
theorem r_X9_isIt_36 {x0 x1 x2 x3 x4 x5 x6 x7 x8 x9 x10 x11 x12 x13 : Value} {st : List Value} {h : AH} : Run M_X9_isIt 36 [x0, x1, x2, x3, x4, x5, x6, x7, x8, x9, x10, x11, x12, x13] st h = Run M_X9_isIt 39 [x0, x1, x2, x3, x4, x5, x6, x7, x8, x9, x10, x11, x12, x13] (.long (-1000000002) :: st) h := R_ldc2_w d_X9_isIt_36 (by decide)
theorem d_X9_isIt_39 : decode (mB M_X9_isIt) 39 = .ok (.lreturn, 1) := by decide +kernel
theorem r_X9_isIt_39 {x0 x1 x2 x3 x4 x5 x6 x7 x8 x9 x10 x11 x12 x13 : Value} {v : Int64} {h : AH} : Run M_X9_isIt 39 [x0, x1, x2, x3, x4, x5, x6, x7, x8, x9, x10, x11, x12, x13] [.long v] h = some (h, some (.long v)) := R_lreturn d_X9_isIt_39 rfl
theorem d_X9_isIt_40 : decode (mB M_X9_isIt) 40 = .ok (.lconst 0, 1) := by decide +kernel
theorem r_X9_isIt_40 {x0 x1 x2 x3 x4 x5 x6 x7 x8 x9 x10 x11 x12 x13 : Value} {st : List Value} {h : AH} : Run M_X9_isIt 40 [x0, x1, x2, x3, x4, x5, x6, x7, x8, x9, x10, x11, x12, x13] st h = Run M_X9_isIt 41 [x0, x1, x2, x3, x4, x5, x6, x7, x8, x9, x10, x11, x12, x13] (.long (lN 0) :: st) h := R_lconst d_X9_isIt_40 (by decide)
theorem d_X9_isIt_41 : decode (mB M_X9_isIt) 41 = .ok (.lstore 5, 2) := by decide +kernel
theorem r_X9_isIt_41 {x0 x1 x2 x3 x4 x5 x6 x7 x8 x9 x10 x11 x12 x13 : Value} {a : Int64} {st : List Value} {h : AH} (hc : x4.category = 1) : Run M_X9_isIt 41 [x0, x1, x2, x3, x4, x5, x6, x7, x8, x9, x10, x11, x12, x13] (.long a :: st) h = Run M_X9_isIt 43 [x0, x1, x2, x3, x4, .long a, .null, x7, x8, x9, x10, x11, x12, x13] st h := R_lstore d_X9_isIt_41 (Nat.lt_of_lt_of_le (by decide : 6 < 14) (Nat.le_refl 14)) (catP_of rfl hc)
theorem d_X9_isIt_43 : decode (mB M_X9_isIt) 43 = .ok (.lconst 0, 1) := by decide +kernel
theorem r_X9_isIt_43 {x0 x1 x2 x3 x4 x5 x6 x7 x8 x9 x10 x11 x12 x13 : Value} {st : List Value} {h : AH} : Run M_X9_isIt 43 [x0, x1, x2, x3, x4, x5, x6, x7, x8, x9, x10, x11, x12, x13] st h = Run M_X9_isIt 44 [x0, x1, x2, x3, x4, x5, x6, x7, x8, x9, x10, x11, x12, x13] (.long (lN 0) :: st) h := R_lconst d_X9_isIt_43 (by decide)
theorem d_X9_isIt_44 : decode (mB M_X9_isIt) 44 = .ok (.lstore 7, 2) := by decide +kernel
theorem r_X9_isIt_44 {x0 x1 x2 x3 x4 x5 x6 x7 x8 x9 x10 x11 x12 x13 : Value} {a : Int64} {st : List Value} {h : AH} (hc : x6.category = 1) : Run M_X9_isIt 44 [x0, x1, x2, x3, x4, x5, x6, x7, x8, x9, x10, x11, x12, x13] (.long a :: st) h = Run M_X9_isIt 46 [x0, x1, x2, x3, x4, x5, x6, .long a, .null, x9, x10, x11, x12, x13] st h := R_lstore d_X9_isIt_44 (Nat.lt_of_lt_of_le (by decide : 8 < 14) (Nat.le_refl 14)) (catP_of rfl hc)
theorem d_X9_isIt_46 : decode (mB M_X9_isIt) 46 = .ok (.iconst 0, 1) := by decide +kernel
theorem r_X9_isIt_46 {x0 x1 x2 x3 x4 x5 x6 x7 x8 x9 x10 x11 x12 x13 : Value} {st : List Value} {h : AH} : Run M_X9_isIt 46 [x0, x1, x2, x3, x4, x5, x6, x7, x8, x9, x10, x11, x12, x13] st h = Run M_X9_isIt 47 [x0, x1, x2, x3, x4, x5, x6, x7, x8, x9, x10, x11, x12, x13] (.int (nI 0) :: st) h := R_iconst d_X9_isIt_46 (by decide)
theorem d_X9_isIt_47 : decode (mB M_X9_isIt) 47 = .ok (.istore 9, 2) := by decide +kernel
theorem r_X9_isIt_47 {x0 x1 x2 x3 x4 x5 x6 x7 x8 x9 x10 x11 x12 x13 : Value} {a : Int32} {st : List Value} {h : AH} (hc : x8.category = 1) : Run M_X9_isIt 47 [x0, x1, x2, x3, x4, x5, x6, x7, x8, x9, x10, x11, x12, x13] (.int a :: st) h = Run M_X9_isIt 49 [x0, x1, x2, x3, x4, x5, x6, x7, x8, .int a, x10, x11, x12, x13] st h := R_istore d_X9_isIt_47 (Nat.lt_of_lt_of_le (by decide : 9 < 14) (Nat.le_refl 14)) (catP_of rfl hc)
theorem d_X9_isIt_49 : decode (mB M_X9_isIt) 49 = .ok (.iload 9, 2) := by decide +kernel
theorem r_X9_isIt_49 {x0 x1 x2 x3 x4 x5 x6 x7 x8 x10 x11 x12 x13 : Value} {a : Int32} {st : List Value} {h : AH} : Run M_X9_isIt 49 [x0, x1, x2, x3, x4, x5, x6, x7, x8, .int a, x10, x11, x12, x13] st h = Run M_X9_isIt 51 [x0, x1, x2, x3, x4, x5, x6, x7, x8, .int a, x10, x11, x12, x13] (.int a :: st) h := R_iload d_X9_isIt_49 rfl
theorem d_X9_isIt_51 : decode (mB M_X9_isIt) 51 = .ok (.aload_n 0, 1) := by decide +kernel
theorem r_X9_isIt_51 {x1 x2 x3 x4 x5 x6 x7 x8 x9 x10 x11 x12 x13 : Value} {a : Nat} {st : List Value} {h : AH} : Run M_X9_isIt 51 [.ref a, x1, x2, x3, x4, x5, x6, x7, x8, x9, x10, x11, x12, x13] st h = Run M_X9_isIt 52 [.ref a, x1, x2, x3, x4, x5, x6, x7, x8, x9, x10, x11, x12, x13] (.ref a :: st) h := R_aload_n d_X9_isIt_51 rfl
theorem d_X9_isIt_52 : decode (mB M_X9_isIt) 52 = .ok (.getfield 82, 3) := by decide +kernel
theorem r_X9_isIt_52 {x0 x1 x2 x3 x4 x5 x6 x7 x8 x9 x10 x11 x12 x13 : Value} {a : Nat} {st : List Value} {h : AH} : Run M_X9_isIt 52 [x0, x1, x2, x3, x4, x5, x6, x7, x8, x9, x10, x11, x12, x13] (.ref a :: st) h = if (gF h a 9 3).isSome = true then Run M_X9_isIt 55 [x0, x1, x2, x3, x4, x5, x6, x7, x8, x9, x10, x11, x12, x13] ((gF h a 9 3).getD .null :: st) h else none := R_getfield d_X9_isIt_52 rfl
theorem d_X9_isIt_55 : decode (mB M_X9_isIt) 55 = .ok (.if_icmp .ge 155, 3) := by decide +kernel
theorem r_X9_isIt_55 {x0 x1 x2 x3 x4 x5 x6 x7 x8 x9 x10 x11 x12 x13 : Value} {x y : Int32} {st : List Value} {h : AH} : Run M_X9_isIt 55 [x0, x1, x2, x3, x4, x5, x6, x7, x8, x9, x10, x11, x12, x13] (.int y :: .int x :: st) h = if y ≤ x then Run M_X9_isIt 210 [x0, x1, x2, x3, x4, x5, x6, x7, x8, x9, x10, x11, x12, x13] st h else Run M_X9_isIt 58 [x0, x1, x2, x3, x4, x5, x6, x7, x8, x9, x10, x11, x12, x13] st h := R_icmp_ge d_X9_isIt_55 (by decide)
theorem d_X9_isIt_58 : decode (mB M_X9_isIt) 58 = .ok (.aload_n 0, 1) := by decide +kernel
theorem r_X9_isIt_58 {x1 x2 x3 x4 x5 x6 x7 x8 x9 x10 x11 x12 x13 : Value} {a : Nat} {st : List Value} {h : AH} : Run M_X9_isIt 58 [.ref a, x1, x2, x3, x4, x5, x6, x7, x8, x9, x10, x11, x12, x13] st h = Run M_X9_isIt 59 [.ref a, x1, x2, x3, x4, x5, x6, x7, x8, x9, x10, x11, x12, x13] (.ref a :: st) h := R_aload_n d_X9_isIt_58 rfl
theorem d_X9_isIt_59 : decode (mB M_X9_isIt) 59 = .ok (.getfield 20, 3) := by decide +kernel
theorem r_X9_isIt_59 {x0 x1 x2 x3 x4 x5 x6 x7 x8 x9 x10 x11 x12 x13 : Value} {a : Nat} {st : List Value} {h : AH} : Run M_X9_isIt 59 [x0, x1, x2, x3, x4, x5, x6, x7, x8, x9, x10, x11, x12, x13] (.ref a :: st) h = if (gF h a 9 4).isSome = true then Run M_X9_isIt 62 [x0, x1, x2, x3, x4, x5, x6, x7, x8, x9, x10, x11, x12, x13] ((gF h a 9 4).getD .null :: st) h else none := R_getfield d_X9_isIt_59 rfl
theorem d_X9_isIt_62 : decode (mB M_X9_isIt) 62 = .ok (.iload 9, 2) := by decide +kernel
theorem r_X9_isIt_62 {x0 x1 x2 x3 x4 x5 x6 x7 x8 x10 x11 x12 x13 : Value} {a : Int32} {st : List Value} {h : AH} : Run M_X9_isIt 62 [x0, x1, x2, x3, x4, x5, x6, x7, x8, .int a, x10, x11, x12, x13] st h = Run M_X9_isIt 64 [x0, x1, x2, x3, x4, x5, x6, x7, x8, .int a, x10, x11, x12, x13] (.int a :: st) h := R_iload d_X9_isIt_62 rfl
theorem d_X9_isIt_64 : decode (mB M_X9_isIt) 64 = .ok (.iaload, 1) := by decide +kernel
theorem r_X9_isIt_64 {x0 x1 x2 x3 x4 x5 x6 x7 x8 x9 x10 x11 x12 x13 : Value} {a : Nat} {i : Int32} {st : List Value} {h : AH} : Run M_X9_isIt 64 [x0, x1, x2, x3, x4, x5, x6, x7, x8, x9, x10, x11, x12, x13] (.int i :: .ref a :: st) h = if (gI 0 h a i).isSome = true then Run M_X9_isIt 65 [x0, x1, x2, x3, x4, x5, x6, x7, x8, x9, x10, x11, x12, x13] (.int ((gI 0 h a i).getD 0) :: st) h else none := R_iaload d_X9_isIt_64
theorem d_X9_isIt_65 : decode (mB M_X9_isIt) 65 = .ok (.iconst 1, 1) := by decide +kernel
theorem r_X9_isIt_65 {x0 x1 x2 x3 x4 x5 x6 x7 x8 x9 x10 x11 x12 x13 : Value} {st : List Value} {h : AH} : Run M_X9_isIt 65 [x0, x1, x2, x3, x4, x5, x6, x7, x8, x9, x10, x11, x12, x13] st h = Run M_X9_isIt 66 [x0, x1, x2, x3, x4, x5, x6, x7, x8, x9, x10, x11, x12, x13] (.int (nI 1) :: st) h := R_iconst d_X9_isIt_65 (by decide)
theorem d_X9_isIt_66 : decode (mB M_X9_isIt) 66 = .ok (.if_icmp .le 138, 3) := by decide +kernel
theorem r_X9_isIt_66 {x0 x1 x2 x3 x4 x5 x6 x7 x8 x9 x10 x11 x12 x13 : Value} {x y : Int32} {st : List Value} {h : AH} : Run M_X9_isIt 66 [x0, x1, x2, x3, x4, x5, x6, x7, x8, x9, x10, x11, x12, x13] (.int y :: .int x :: st) h = if x ≤ y then Run M_X9_isIt 204 [x0, x1, x2, x3, x4, x5, x6, x7, x8, x9, x10, x11, x12, x13] st h else Run M_X9_isIt 69 [x0, x1, x2, x3, x4, x5, x6, x7, x8, x9, x10, x11, x12, x13] st h := R_icmp_le d_X9_isIt_66 (by decide)
theorem d_X9_isIt_69 : decode (mB M_X9_isIt) 69 = .ok (.aload_n 0, 1) := by decide +kernel
theorem r_X9_isIt_69 {x1 x2 x3 x4 x5 x6 x7 x8 x9 x10 x11 x12 x13 : Value} {a : Nat} {st : List Value} {h : AH} : Run M_X9_isIt 69 [.ref a, x1, x2, x3, x4, x5, x6, x7, x8, x9, x10, x11, x12, x13] st h = Run M_X9_isIt 70 [.ref a, x1, x2, x3, x4, x5, x6, x7, x8, x9, x10, x11, x12, x13] (.ref a :: st) h := R_aload_n d_X9_isIt_69 rfl
theorem d_X9_isIt_70 : decode (mB M_X9_isIt) 70 = .ok (.getfield 20, 3) := by decide +kernel
theorem r_X9_isIt_70 {x0 x1 x2 x3 x4 x5 x6 x7 x8 x9 x10 x11 x12 x13 : Value} {a : Nat} {st : List Value} {h : AH} : Run M_X9_isIt 70 [x0, x1, x2, x3, x4, x5, x6, x7, x8, x9, x10, x11, x12, x13] (.ref a :: st) h = if (gF h a 9 4).isSome = true then Run M_X9_isIt 73 [x0, x1, x2, x3, x4, x5, x6, x7, x8, x9, x10, x11, x12, x13] ((gF h a 9 4).getD .null :: st) h else none := R_getfield d_X9_isIt_70 rfl
theorem d_X9_isIt_73 : decode (mB M_X9_isIt) 73 = .ok (.iload 9, 2) := by decide +kernel
theorem r_X9_isIt_73 {x0 x1 x2 x3 x4 x5 x6 x7 x8 x10 x11 x12 x13 : Value} {a : Int32} {st : List Value} {h : AH} : Run M_X9_isIt 73 [x0, x1, x2, x3, x4, x5, x6, x7, x8, .int a, x10, x11, x12, x13] st h = Run M_X9_isIt 75 [x0, x1, x2, x3, x4, x5, x6, x7, x8, .int a, x10, x11, x12, x13] (.int a :: st) h := R_iload d_X9_isIt_73 rfl
theorem d_X9_isIt_75 : decode (mB M_X9_isIt) 75 = .ok (.iaload, 1) := by decide +kernel
theorem r_X9_isIt_75 {x0 x1 x2 x3 x4 x5 x6 x7 x8 x9 x10 x11 x12 x13 : Value} {a : Nat} {i : Int32} {st : List Value} {h : AH} : Run M_X9_isIt 75 [x0, x1, x2, x3, x4, x5, x6, x7, x8, x9, x10, x11, x12, x13] (.int i :: .ref a :: st) h = if (gI 0 h a i).isSome = true then Run M_X9_isIt 76 [x0, x1, x2, x3, x4, x5, x6, x7, x8, x9, x10, x11, x12, x13] (.int ((gI 0 h a i).getD 0) :: st) h else none := R_iaload d_X9_isIt_75
theorem d_X9_isIt_76 : decode (mB M_X9_isIt) 76 = .ok (.iconst 3, 1) := by decide +kernel
theorem r_X9_isIt_76 {x0 x1 x2 x3 x4 x5 x6 x7 x8 x9 x10 x11 x12 x13 : Value} {st : List Value} {h : AH} : Run M_X9_isIt 76 [x0, x1, x2, x3, x4, x5, x6, x7, x8, x9, x10, x11, x12, x13] st h = Run M_X9_isIt 77 [x0, x1, x2, x3, x4, x5, x6, x7, x8, x9, x10, x11, x12, x13] (.int (nI 3) :: st) h := R_iconst d_X9_isIt_76 (by decide)
theorem d_X9_isIt_77 : decode (mB M_X9_isIt) 77 = .ok (.if_icmp .ne 12, 3) := by decide +kernel
theorem r_X9_isIt_77 {x0 x1 x2 x3 x4 x5 x6 x7 x8 x9 x10 x11 x12 x13 : Value} {x y : Int32} {st : List Value} {h : AH} : Run M_X9_isIt 77 [x0, x1, x2, x3, x4, x5, x6, x7, x8, x9, x10, x11, x12, x13] (.int y :: .int x :: st) h = if x = y then Run M_X9_isIt 80 [x0, x1, x2, x3, x4, x5, x6, x7, x8, x9, x10, x11, x12, x13] st h else Run M_X9_isIt 89 [x0, x1, x2, x3, x4, x5, x6, x7, x8, x9, x10, x11, x12, x13] st h := R_icmp_ne d_X9_isIt_77 (by decide)
theorem d_X9_isIt_80 : decode (mB M_X9_isIt) 80 = .ok (.aload_n 0, 1) := by decide +kernel
theorem r_X9_isIt_80 {x1 x2 x3 x4 x5 x6 x7 x8 x9 x10 x11 x12 x13 : Value} {a : Nat} {st : List Value} {h : AH} : Run M_X9_isIt 80 [.ref a, x1, x2, x3, x4, x5, x6, x7, x8, x9, x10, x11, x12, x13] st h = Run M_X9_isIt 81 [.ref a, x1, x2, x3, x4, x5, x6, x7, x8, x9, x10, x11, x12, x13] (.ref a :: st) h := R_aload_n d_X9_isIt_80 rfl
theorem d_X9_isIt_81 : decode (mB M_X9_isIt) 81 = .ok (.getfield 7, 3) := by decide +kernel
theorem r_X9_isIt_81 {x0 x1 x2 x3 x4 x5 x6 x7 x8 x9 x10 x11 x12 x13 : Value} {a : Nat} {st : List Value} {h : AH} : Run M_X9_isIt 81 [x0, x1, x2, x3, x4, x5, x6, x7, x8, x9, x10, x11, x12, x13] (.ref a :: st) h = if (gF h a 9 0).isSome = true then Run M_X9_isIt 84 [x0, x1, x2, x3, x4, x5, x6, x7, x8, x9, x10, x11, x12, x13] ((gF h a 9 0).getD .null :: st) h else none := R_getfield d_X9_isIt_81 rfl
theorem d_X9_isIt_84 : decode (mB M_X9_isIt) 84 = .ok (.iconst 3, 1) := by decide +kernel
theorem r_X9_isIt_84 {x0 x1 x2 x3 x4 x5 x6 x7 x8 x9 x10 x11 x12 x13 : Value} {st : List Value} {h : AH} : Run M_X9_isIt 84 [x0, x1, x2, x3, x4, x5, x6, x7, x8, x9, x10, x11, x12, x13] st h = Run M_X9_isIt 85 [x0, x1, x2, x3, x4, x5, x6, x7, x8, x9, x10, x11, x12, x13] (.int (nI 3) :: st) h := R_iconst d_X9_isIt_84 (by decide)
theorem d_X9_isIt_85 : decode (mB M_X9_isIt) 85 = .ok (.iaload, 1) := by decide +kernel
theorem r_X9_isIt_85 {x0 x1 x2 x3 x4 x5 x6 x7 x8 x9 x10 x11 x12 x13 : Value} {a : Nat} {i : Int32} {st : List Value} {h : AH} : Run M_X9_isIt 85 [x0, x1, x2, x3, x4, x5, x6, x7, x8, x9, x10, x11, x12, x13] (.int i :: .ref a :: st) h = if (gI 0 h a i).isSome = true then Run M_X9_isIt 86 [x0, x1, x2, x3, x4, x5, x6, x7, x8, x9, x10, x11, x12, x13] (.int ((gI 0 h a i).getD 0) :: st) h else none := R_iaload d_X9_isIt_85
theorem d_X9_isIt_86 : decode (mB M_X9_isIt) 86 = .ok (.goto 9, 3) := by decide +kernel
theorem r_X9_isIt_86 {x0 x1 x2 x3 x4 x5 x6 x7 x8 x9 x10 x11 x12 x13 : Value} {st : List Value} {h : AH} : Run M_X9_isIt 86 [x0, x1, x2, x3, x4, x5, x6, x7, x8, x9, x10, x11, x12, x13] st h = Run M_X9_isIt 95 [x0, x1, x2, x3, x4, x5, x6, x7, x8, x9, x10, x11, x12, x13] st h := R_goto d_X9_isIt_86 (by decide)
theorem d_X9_isIt_89 : decode (mB M_X9_isIt) 89 = .ok (.aload_n 0, 1) := by decide +kernel
theorem r_X9_isIt_89 {x1 x2 x3 x4 x5 x6 x7 x8 x9 x10 x11 x12 x13 : Value} {a : Nat} {st : List Value} {h : AH} : Run M_X9_isIt 89 [.ref a, x1, x2, x3, x4, x5, x6, x7, x8, x9, x10, x11, x12, x13] st h = Run M_X9_isIt 90 [.ref a, x1, x2, x3, x4, x5, x6, x7, x8, x9, x10, x11, x12, x13] (.ref a :: st) h := R_aload_n d_X9_isIt_89 rfl
theorem d_X9_isIt_90 : decode (mB M_X9_isIt) 90 = .ok (.getfield 7, 3) := by decide +kernel
theorem r_X9_isIt_90 {x0 x1 x2 x3 x4 x5 x6 x7 x8 x9 x10 x11 x12 x13 : Value} {a : Nat} {st : List Value} {h : AH} : Run M_X9_isIt 90 [x0, x1, x2, x3, x4, x5, x6, x7, x8, x9, x10, x11, x12, x13] (.ref a :: st) h = if (gF h a 9 0).isSome = true then Run M_X9_isIt 93 [x0, x1, x2, x3, x4, x5, x6, x7, x8, x9, x10, x11, x12, x13] ((gF h a 9 0).getD .null :: st) h else none := R_getfield d_X9_isIt_90 rfl
theorem d_X9_isIt_93 : decode (mB M_X9_isIt) 93 = .ok (.iconst 4, 1) := by decide +kernel
theorem r_X9_isIt_93 {x0 x1 x2 x3 x4 x5 x6 x7 x8 x9 x10 x11 x12 x13 : Value} {st : List Value} {h : AH} : Run M_X9_isIt 93 [x0, x1, x2, x3, x4, x5, x6, x7, x8, x9, x10, x11, x12, x13] st h = Run M_X9_isIt 94 [x0, x1, x2, x3, x4, x5, x6, x7, x8, x9, x10, x11, x12, x13] (.int (nI 4) :: st) h := R_iconst d_X9_isIt_93 (by decide)
theorem d_X9_isIt_94 : decode (mB M_X9_isIt) 94 = .ok (.iaload, 1) := by decide +kernel
theorem r_X9_isIt_94 {x0 x1 x2 x3 x4 x5 x6 x7 x8 x9 x10 x11 x12 x13 : Value} {a : Nat} {i : Int32} {st : List Value} {h : AH} : Run M_X9_isIt 94 [x0, x1, x2, x3, x4, x5, x6, x7, x8, x9, x10, x11, x12, x13] (.int i :: .ref a :: st) h = if (gI 0 h a i).isSome = true then Run M_X9_isIt 95 [x0, x1, x2, x3, x4, x5, x6, x7, x8, x9, x10, x11, x12, x13] (.int ((gI 0 h a i).getD 0) :: st) h else none := R_iaload d_X9_isIt_94
theorem d_X9_isIt_95 : decode (mB M_X9_isIt) 95 = .ok (.istore 10, 2) := by decide +kernel
theorem r_X9_isIt_95 {x0 x1 x2 x3 x4 x5 x6 x7 x8 x9 x10 x11 x12 x13 : Value} {a : Int32} {st : List Value} {h : AH} (hc : x9.category = 1) : Run M_X9_isIt 95 [x0, x1, x2, x3, x4, x5, x6, x7, x8, x9, x10, x11, x12, x13] (.int a :: st) h = Run M_X9_isIt 97 [x0, x1, x2, x3, x4, x5, x6, x7, x8, x9, .int a, x11, x12, x13] st h := R_istore d_X9_isIt_95 (Nat.lt_of_lt_of_le (by decide : 10 < 14) (Nat.le_refl 14)) (catP_of rfl hc)
theorem d_X9_isIt_97 : decode (mB M_X9_isIt) 97 = .ok (.iload_n 3, 1) := by decide +kernel
theorem r_X9_isIt_97 {x0 x1 x2 x4 x5 x6 x7 x8 x9 x10 x11 x12 x13 : Value} {a : Int32} {st : List Value} {h : AH} : Run M_X9_isIt 97 [x0, x1, x2, .int a, x4, x5, x6, x7, x8, x9, x10, x11, x12, x13] st h = Run M_X9_isIt 98 [x0, x1, x2, .int a, x4, x5, x6, x7, x8, x9, x10, x11, x12, x13] (.int a :: st) h := R_iload_n d_X9_isIt_97 rfl
theorem d_X9_isIt_98 : decode (mB M_X9_isIt) 98 = .ok (.iconst 2, 1) := by decide +kernel
theorem r_X9_isIt_98 {x0 x1 x2 x3 x4 x5 x6 x7 x8 x9 x10 x11 x12 x13 : Value} {st : List Value} {h : AH} : Run M_X9_isIt 98 [x0, x1, x2, x3, x4, x5, x6, x7, x8, x9, x10, x11, x12, x13] st h = Run M_X9_isIt 99 [x0, x1, x2, x3, x4, x5, x6, x7, x8, x9, x10, x11, x12, x13] (.int (nI 2) :: st) h := R_iconst d_X9_isIt_98 (by decide)
theorem d_X9_isIt_99 : decode (mB M_X9_isIt) 99 = .ok (.if_icmp .ne 8, 3) := by decide +kernel
theorem r_X9_isIt_99 {x0 x1 x2 x3 x4 x5 x6 x7 x8 x9 x10 x11 x12 x13 : Value} {x y : Int32} {st : List Value} {h : AH} : Run M_X9_isIt 99 [x0, x1, x2, x3, x4, x5, x6, x7, x8, x9, x10, x11, x12, x13] (.int y :: .int x :: st) h = if x = y then Run M_X9_isIt 102 [x0, x1, x2, x3, x4, x5, x6, x7, x8, x9, x10, x11, x12, x13] st h else Run M_X9_isIt 107 [x0, x1, x2, x3, x4, x5, x6, x7, x8, x9, x10, x11, x12, x13] st h := R_icmp_ne d_X9_isIt_99 (by decide)
theorem d_X9_isIt_102 : decode (mB M_X9_isIt) 102 = .ok (.bipush 8, 2) := by decide +kernel
theorem r_X9_isIt_102 {x0 x1 x2 x3 x4 x5 x6 x7 x8 x9 x10 x11 x12 x13 : Value} {st : List Value} {h : AH} : Run M_X9_isIt 102 [x0, x1, x2, x3, x4, x5, x6, x7, x8, x9, x10, x11, x12, x13] st h = Run M_X9_isIt 104 [x0, x1, x2, x3, x4, x5, x6, x7, x8, x9, x10, x11, x12, x13] (.int (nI 8) :: st) h := R_bipush d_X9_isIt_102 (by decide)
theorem d_X9_isIt_104 : decode (mB M_X9_isIt) 104 = .ok (.goto 18, 3) := by decide +kernel
theorem r_X9_isIt_104 {x0 x1 x2 x3 x4 x5 x6 x7 x8 x9 x10 x11 x12 x13 : Value} {st : List Value} {h : AH} : Run M_X9_isIt 104 [x0, x1, x2, x3, x4, x5, x6, x7, x8, x9, x10, x11, x12, x13] st h = Run M_X9_isIt 122 [x0, x1, x2, x3, x4, x5, x6, x7, x8, x9, x10, x11, x12, x13] st h := R_goto d_X9_isIt_104 (by decide)
theorem d_X9_isIt_107 : decode (mB M_X9_isIt) 107 = .ok (.iload_n 3, 1) := by decide +kernel
theorem r_X9_isIt_107 {x0 x1 x2 x4 x5 x6 x7 x8 x9 x10 x11 x12 x13 : Value} {a : Int32} {st : List Value} {h : AH} : Run M_X9_isIt 107 [x0, x1, x2, .int a, x4, x5, x6, x7, x8, x9, x10, x11, x12, x13] st h = Run M_X9_isIt 108 [x0, x1, x2, .int a, x4, x5, x6, x7, x8, x9, x10, x11, x12, x13] (.int a :: st) h := R_iload_n d_X9_isIt_107 rfl
theorem d_X9_isIt_108 : decode (mB M_X9_isIt) 108 = .ok (.iconst 1, 1) := by decide +kernel
theorem r_X9_isIt_108 {x0 x1 x2 x3 x4 x5 x6 x7 x8 x9 x10 x11 x12 x13 : Value} {st : List Value} {h : AH} : Run M_X9_isIt 108 [x0, x1, x2, x3, x4, x5, x6, x7, x8, x9, x10, x11, x12, x13] st h = Run M_X9_isIt 109 [x0, x1, x2, x3, x4, x5, x6, x7, x8, x9, x10, x11, x12, x13] (.int (nI 1) :: st) h := R_iconst d_X9_isIt_108 (by decide)
theorem d_X9_isIt_109 : decode (mB M_X9_isIt) 109 = .ok (.if_icmp .ne 8, 3) := by decide +kernel
theorem r_X9_isIt_109 {x0 x1 x2 x3 x4 x5 x6 x7 x8 x9 x10 x11 x12 x13 : Value} {x y : Int32} {st : List Value} {h : AH} : Run M_X9_isIt 109 [x0, x1, x2, x3, x4, x5, x6, x7, x8, x9, x10, x11, x12, x13] (.int y :: .int x :: st) h = if x = y then Run M_X9_isIt 112 [x0, x1, x2, x3, x4, x5, x6, x7, x8, x9, x10, x11, x12, x13] st h else Run M_X9_isIt 117 [x0, x1, x2, x3, x4, x5, x6, x7, x8, x9, x10, x11, x12, x13] st h := R_icmp_ne d_X9_isIt_109 (by decide)
theorem d_X9_isIt_112 : decode (mB M_X9_isIt) 112 = .ok (.iload 10, 2) := by decide +kernel
theorem r_X9_isIt_112 {x0 x1 x2 x3 x4 x5 x6 x7 x8 x9 x11 x12 x13 : Value} {a : Int32} {st : List Value} {h : AH} : Run M_X9_isIt 112 [x0, x1, x2, x3, x4, x5, x6, x7, x8, x9, .int a, x11, x12, x13] st h = Run M_X9_isIt 114 [x0, x1, x2, x3, x4, x5, x6, x7, x8, x9, .int a, x11, x12, x13] (.int a :: st) h := R_iload d_X9_isIt_112 rfl
theorem d_X9_isIt_114 : decode (mB M_X9_isIt) 114 = .ok (.goto 8, 3) := by decide +kernel
theorem r_X9_isIt_114 {x0 x1 x2 x3 x4 x5 x6 x7 x8 x9 x10 x11 x12 x13 : Value} {st : List Value} {h : AH} : Run M_X9_isIt 114 [x0, x1, x2, x3, x4, x5, x6, x7, x8, x9, x10, x11, x12, x13] st h = Run M_X9_isIt 122 [x0, x1, x2, x3, x4, x5, x6, x7, x8, x9, x10, x11, x12, x13] st h := R_goto d_X9_isIt_114 (by decide)
theorem d_X9_isIt_117 : decode (mB M_X9_isIt) 117 = .ok (.bipush 8, 2) := by decide +kernel
theorem r_X9_isIt_117 {x0 x1 x2 x3 x4 x5 x6 x7 x8 x9 x10 x11 x12 x13 : Value} {st : List Value} {h : AH} : Run M_X9_isIt 117 [x0, x1, x2, x3, x4, x5, x6, x7, x8, x9, x10, x11, x12, x13] st h = Run M_X9_isIt 119 [x0, x1, x2, x3, x4, x5, x6, x7, x8, x9, x10, x11, x12, x13] (.int (nI 8) :: st) h := R_bipush d_X9_isIt_117 (by decide)
theorem d_X9_isIt_119 : decode (mB M_X9_isIt) 119 = .ok (.iload 10, 2) := by decide +kernel
theorem r_X9_isIt_119 {x0 x1 x2 x3 x4 x5 x6 x7 x8 x9 x11 x12 x13 : Value} {a : Int32} {st : List Value} {h : AH} : Run M_X9_isIt 119 [x0, x1, x2, x3, x4, x5, x6, x7, x8, x9, .int a, x11, x12, x13] st h = Run M_X9_isIt 121 [x0, x1, x2, x3, x4, x5, x6, x7, x8, x9, .int a, x11, x12, x13] (.int a :: st) h := R_iload d_X9_isIt_119 rfl
theorem d_X9_isIt_121 : decode (mB M_X9_isIt) 121 = .ok (.isub, 1) := by decide +kernel
theorem r_X9_isIt_121 {x0 x1 x2 x3 x4 x5 x6 x7 x8 x9 x10 x11 x12 x13 : Value} {x y : Int32} {st : List Value} {h : AH} : Run M_X9_isIt 121 [x0, x1, x2, x3, x4, x5, x6, x7, x8, x9, x10, x11, x12, x13] (.int y :: .int x :: st) h = Run M_X9_isIt 122 [x0, x1, x2, x3, x4, x5, x6, x7, x8, x9, x10, x11, x12, x13] (.int (x - y) :: st) h := R_isub d_X9_isIt_121
theorem d_X9_isIt_122 : decode (mB M_X9_isIt) 122 = .ok (.istore 11, 2) := by decide +kernel
theorem r_X9_isIt_122 {x0 x1 x2 x3 x4 x5 x6 x7 x8 x9 x10 x11 x12 x13 : Value} {a : Int32} {st : List Value} {h : AH} (hc : x10.category = 1) : Run M_X9_isIt 122 [x0, x1, x2, x3, x4, x5, x6, x7, x8, x9, x10, x11, x12, x13] (.int a :: st) h = Run M_X9_isIt 124 [x0, x1, x2, x3, x4, x5, x6, x7, x8, x9, x10, .int a, x12, x13] st h := R_istore d_X9_isIt_122 (Nat.lt_of_lt_of_le (by decide : 11 < 14) (Nat.le_refl 14)) (catP_of rfl hc)
theorem d_X9_isIt_124 : decode (mB M_X9_isIt) 124 = .ok (.aload_n 0, 1) := by decide +kernel
theorem r_X9_isIt_124 {x1 x2 x3 x4 x5 x6 x7 x8 x9 x10 x11 x12 x13 : Value} {a : Nat} {st : List Value} {h : AH} : Run M_X9_isIt 124 [.ref a, x1, x2, x3, x4, x5, x6, x7, x8, x9, x10, x11, x12, x13] st h = Run M_X9_isIt 125 [.ref a, x1, x2, x3, x4, x5, x6, x7, x8, x9, x10, x11, x12, x13] (.ref a :: st) h := R_aload_n d_X9_isIt_124 rfl
theorem d_X9_isIt_125 : decode (mB M_X9_isIt) 125 = .ok (.iload 9, 2) := by decide +kernel
theorem r_X9_isIt_125 {x0 x1 x2 x3 x4 x5 x6 x7 x8 x10 x11 x12 x13 : Value} {a : Int32} {st : List Value} {h : AH} : Run M_X9_isIt 125 [x0, x1, x2, x3, x4, x5, x6, x7, x8, .int a, x10, x11, x12, x13] st h = Run M_X9_isIt 127 [x0, x1, x2, x3, x4, x5, x6, x7, x8, .int a, x10, x11, x12, x13] (.int a :: st) h := R_iload d_X9_isIt_125 rfl
theorem d_X9_isIt_127 : decode (mB M_X9_isIt) 127 = .ok (.invokevirtual 218, 3) := by decide +kernel
theorem r_X9_isIt_127 {x0 x1 x2 x3 x4 x5 x6 x7 x8 x9 x10 x11 x12 x13 : Value} {p0 : Int32} {a : Nat} {h : AH} : Run M_X9_isIt 127 [x0, x1, x2, x3, x4, x5, x6, x7, x8, x9, x10, x11, x12, x13] (.int p0 :: .ref a :: []) h = if refO h 9 (some (.ref a)) = true then (if (Call M_X9_findWeights h [.ref a, .int p0]).isSome = true then Run M_X9_isIt 130 [x0, x1, x2, x3, x4, x5, x6, x7, x8, x9, x10, x11, x12, x13] (rL (Call M_X9_findWeights h [.ref a, .int p0]) ++ []) (cH (Call M_X9_findWeights h [.ref a, .int p0])) else none) else none := R_virt d_X9_isIt_127 rfl rfl rfl rfl rfl (Nat.le_of_ble_eq_true rfl)
theorem d_X9_isIt_130 : decode (mB M_X9_isIt) 130 = .ok (.aload_n 0, 1) := by decide +kernel
theorem r_X9_isIt_130 {x1 x2 x3 x4 x5 x6 x7 x8 x9 x10 x11 x12 x13 : Value} {a : Nat} {st : List Value} {h : AH} : Run M_X9_isIt 130 [.ref a, x1, x2, x3, x4, x5, x6, x7, x8, x9, x10, x11, x12, x13] st h = Run M_X9_isIt 131 [.ref a, x1, x2, x3, x4, x5, x6, x7, x8, x9, x10, x11, x12, x13] (.ref a :: st) h := R_aload_n d_X9_isIt_130 rfl
theorem d_X9_isIt_131 : decode (mB M_X9_isIt) 131 = .ok (.getfield 69, 3) := by decide +kernel
theorem r_X9_isIt_131 {x0 x1 x2 x3 x4 x5 x6 x7 x8 x9 x10 x11 x12 x13 : Value} {a : Nat} {st : List Value} {h : AH} : Run M_X9_isIt 131 [x0, x1, x2, x3, x4, x5, x6, x7, x8, x9, x10, x11, x12, x13] (.ref a :: st) h = if (gF h a 9 34).isSome = true then Run M_X9_isIt 134 [x0, x1, x2, x3, x4, x5, x6, x7, x8, x9, x10, x11, x12, x13] ((gF h a 9 34).getD .null :: st) h else none := R_getfield d_X9_isIt_131 rfl
theorem d_X9_isIt_134 : decode (mB M_X9_isIt) 134 = .ok (.iload_n 1, 1) := by decide +kernel
theorem r_X9_isIt_134 {x0 x2 x3 x4 x5 x6 x7 x8 x9 x10 x11 x12 x13 : Value} {a : Int32} {st : List Value} {h : AH} : Run M_X9_isIt 134 [x0, .int a, x2, x3, x4, x5, x6, x7, x8, x9, x10, x11, x12, x13] st h = Run M_X9_isIt 135 [x0, .int a, x2, x3, x4, x5, x6, x7, x8, x9, x10, x11, x12, x13] (.int a :: st) h := R_iload_n d_X9_isIt_134 rfl
theorem d_X9_isIt_135 : decode (mB M_X9_isIt) 135 = .ok (.laload, 1) := by decide +kernel
theorem r_X9_isIt_135 {x0 x1 x2 x3 x4 x5 x6 x7 x8 x9 x10 x11 x12 x13 : Value} {a : Nat} {i : Int32} {st : List Value} {h : AH} : Run M_X9_isIt 135 [x0, x1, x2, x3, x4, x5, x6, x7, x8, x9, x10, x11, x12, x13] (.int i :: .ref a :: st) h = if (gJ h a i).isSome = true then Run M_X9_isIt 136 [x0, x1, x2, x3, x4, x5, x6, x7, x8, x9, x10, x11, x12, x13] (.long ((gJ h a i).getD 0) :: st) h else none := R_laload d_X9_isIt_135
theorem d_X9_isIt_136 : decode (mB M_X9_isIt) 136 = .ok (.aload_n 0, 1) := by decide +kernel
theorem r_X9_isIt_136 {x1 x2 x3 x4 x5 x6 x7 x8 x9 x10 x11 x12 x13 : Value} {a : Nat} {st : List Value} {h : AH} : Run M_X9_isIt 136 [.ref a, x1, x2, x3, x4, x5, x6, x7, x8, x9, x10, x11, x12, x13] st h = Run M_X9_isIt 137 [.ref a, x1, x2, x3, x4, x5, x6, x7, x8, x9, x10, x11, x12, x13] (.ref a :: st) h := R_aload_n d_X9_isIt_136 rfl
theorem d_X9_isIt_137 : decode (mB M_X9_isIt) 137 = .ok (.iload 9, 2) := by decide +kernel
theorem r_X9_isIt_137 {x0 x1 x2 x3 x4 x5 x6 x7 x8 x10 x11 x12 x13 : Value} {a : Int32} {st : List Value} {h : AH} : Run M_X9_isIt 137 [x0, x1, x2, x3, x4, x5, x6, x7, x8, .int a, x10, x11, x12, x13] st h = Run M_X9_isIt 139 [x0, x1, x2, x3, x4, x5, x6, x7, x8, .int a, x10, x11, x12, x13] (.int a :: st) h := R_iload d_X9_isIt_137 rfl
theorem d_X9_isIt_139 : decode (mB M_X9_isIt) 139 = .ok (.iload_n 2, 1) := by decide +kernel
theorem r_X9_isIt_139 {x0 x1 x3 x4 x5 x6 x7 x8 x9 x10 x11 x12 x13 : Value} {a : Int32} {st : List Value} {h : AH} : Run M_X9_isIt 139 [x0, x1, .int a, x3, x4, x5, x6, x7, x8, x9, x10, x11, x12, x13] st h = Run M_X9_isIt 140 [x0, x1, .int a, x3, x4, x5, x6, x7, x8, x9, x10, x11, x12, x13] (.int a :: st) h := R_iload_n d_X9_isIt_139 rfl
theorem d_X9_isIt_140 : decode (mB M_X9_isIt) 140 = .ok (.invokevirtual 233, 3) := by decide +kernel
theorem r_X9_isIt_140 {x0 x1 x2 x3 x4 x5 x6 x7 x8 x9 x10 x11 x12 x13 : Value} {p0 : Int32} {p1 : Int32} {a : Nat} {w0 : Value} {h : AH} : Run M_X9_isIt 140 [x0, x1, x2, x3, x4, x5, x6, x7, x8, x9, x10, x11, x12, x13] (.int p1 :: .int p0 :: .ref a :: [w0]) h = if refO h 9 (some (.ref a)) = true then (if (Call M_X9_longer h [.ref a, .int p0, .int p1]).isSome = true then Run M_X9_isIt 143 [x0, x1, x2, x3, x4, x5, x6, x7, x8, x9, x10, x11, x12, x13] (rL (Call M_X9_longer h [.ref a, .int p0, .int p1]) ++ [w0]) (cH (Call M_X9_longer h [.ref a, .int p0, .int p1])) else none) else none := R_virt d_X9_isIt_140 rfl rfl rfl rfl rfl (Nat.le_of_ble_eq_true rfl)
theorem d_X9_isIt_143 : decode (mB M_X9_isIt) 143 = .ok (.lmul, 1) := by decide +kernel
theorem r_X9_isIt_143 {x0 x1 x2 x3 x4 x5 x6 x7 x8 x9 x10 x11 x12 x13 : Value} {x y : Int64} {st : List Value} {h : AH} : Run M_X9_isIt 143 [x0, x1, x2, x3, x4, x5, x6, x7, x8, x9, x10, x11, x12, x13] (.long y :: .long x :: st) h = Run M_X9_isIt 144 [x0, x1, x2, x3, x4, x5, x6, x7, x8, x9, x10, x11, x12, x13] (.long (x * y) :: st) h := R_lmul d_X9_isIt_143
theorem d_X9_isIt_144 : decode (mB M_X9_isIt) 144 = .ok (.bipush 8, 2) := by decide +kernel
theorem r_X9_isIt_144 {x0 x1 x2 x3 x4 x5 x6 x7 x8 x9 x10 x11 x12 x13 : Value} {st : List Value} {h : AH} : Run M_X9_isIt 144 [x0, x1, x2, x3, x4, x5, x6, x7, x8, x9, x10, x11, x12, x13] st h = Run M_X9_isIt 146 [x0, x1, x2, x3, x4, x5, x6, x7, x8, x9, x10, x11, x12, x13] (.int (nI 8) :: st) h := R_bipush d_X9_isIt_144 (by decide)
theorem d_X9_isIt_146 : decode (mB M_X9_isIt) 146 = .ok (.aload_n 0, 1) := by decide +kernel
theorem r_X9_isIt_146 {x1 x2 x3 x4 x5 x6 x7 x8 x9 x10 x11 x12 x13 : Value} {a : Nat} {st : List Value} {h : AH} : Run M_X9_isIt 146 [.ref a, x1, x2, x3, x4, x5, x6, x7, x8, x9, x10, x11, x12, x13] st h = Run M_X9_isIt 147 [.ref a, x1, x2, x3, x4, x5, x6, x7, x8, x9, x10, x11, x12, x13] (.ref a :: st) h := R_aload_n d_X9_isIt_146 rfl
theorem d_X9_isIt_147 : decode (mB M_X9_isIt) 147 = .ok (.getfield 23, 3) := by decide +kernel
theorem r_X9_isIt_147 {x0 x1 x2 x3 x4 x5 x6 x7 x8 x9 x10 x11 x12 x13 : Value} {a : Nat} {st : List Value} {h : AH} : Run M_X9_isIt 147 [x0, x1, x2, x3, x4, x5, x6, x7, x8, x9, x10, x11, x12, x13] (.ref a :: st) h = if (gF h a 9 5).isSome = true then Run M_X9_isIt 150 [x0, x1, x2, x3, x4, x5, x6, x7, x8, x9, x10, x11, x12, x13] ((gF h a 9 5).getD .null :: st) h else none := R_getfield d_X9_isIt_147 rfl
theorem d_X9_isIt_150 : decode (mB M_X9_isIt) 150 = .ok (.iload 9, 2) := by decide +kernel
theorem r_X9_isIt_150 {x0 x1 x2 x3 x4 x5 x6 x7 x8 x10 x11 x12 x13 : Value} {a : Int32} {st : List Value} {h : AH} : Run M_X9_isIt 150 [x0, x1, x2, x3, x4, x5, x6, x7, x8, .int a, x10, x11, x12, x13] st h = Run M_X9_isIt 152 [x0, x1, x2, x3, x4, x5, x6, x7, x8, .int a, x10, x11, x12, x13] (.int a :: st) h := R_iload d_X9_isIt_150 rfl
theorem d_X9_isIt_152 : decode (mB M_X9_isIt) 152 = .ok (.iaload, 1) := by decide +kernel
theorem r_X9_isIt_152 {x0 x1 x2 x3 x4 x5 x6 x7 x8 x9 x10 x11 x12 x13 : Value} {a : Nat} {i : Int32} {st : List Value} {h : AH} : Run M_X9_isIt 152 [x0, x1, x2, x3, x4, x5, x6, x7, x8, x9, x10, x11, x12, x13] (.int i :: .ref a :: st) h = if (gI 0 h a i).isSome = true then Run M_X9_isIt 153 [x0, x1, x2, x3, x4, x5, x6, x7, x8, x9, x10, x11, x12, x13] (.int ((gI 0 h a i).getD 0) :: st) h else none := R_iaload d_X9_isIt_152
theorem d_X9_isIt_153 : decode (mB M_X9_isIt) 153 = .ok (.isub, 1) := by decide +kernel
theorem r_X9_isIt_153 {x0 x1 x2 x3 x4 x5 x6 x7 x8 x9 x10 x11 x12 x13 : Value} {x y : Int32} {st : List Value} {h : AH} : Run M_X9_isIt 153 [x0, x1, x2, x3, x4, x5, x6, x7, x8, x9, x10, x11, x12, x13] (.int y :: .int x :: st) h = Run M_X9_isIt 154 [x0, x1, x2, x3, x4, x5, x6, x7, x8, x9, x10, x11, x12, x13] (.int (x - y) :: st) h := R_isub d_X9_isIt_153
theorem d_X9_isIt_154 : decode (mB M_X9_isIt) 154 = .ok (.i2l, 1) := by decide +kernel
theorem r_X9_isIt_154 {x0 x1 x2 x3 x4 x5 x6 x7 x8 x9 x10 x11 x12 x13 : Value} {x : Int32} {st : List Value} {h : AH} : Run M_X9_isIt 154 [x0, x1, x2, x3, x4, x5, x6, x7, x8, x9, x10, x11, x12, x13] (.int x :: st) h = Run M_X9_isIt 155 [x0, x1, x2, x3, x4, x5, x6, x7, x8, x9, x10, x11, x12, x13] (.long x.toInt64 :: st) h := R_i2l d_X9_isIt_154
theorem d_X9_isIt_155 : decode (mB M_X9_isIt) 155 = .ok (.lmul, 1) := by decide +kernel
theorem r_X9_isIt_155 {x0 x1 x2 x3 x4 x5 x6 x7 x8 x9 x10 x11 x12 x13 : Value} {x y : Int64} {st : List Value} {h : AH} : Run M_X9_isIt 155 [x0, x1, x2, x3, x4, x5, x6, x7, x8, x9, x10, x11, x12, x13] (.long y :: .long x :: st) h = Run M_X9_isIt 156 [x0, x1, x2, x3, x4, x5, x6, x7, x8, x9, x10, x11, x12, x13] (.long (x * y) :: st) h := R_lmul d_X9_isIt_155
theorem d_X9_isIt_156 : decode (mB M_X9_isIt) 156 = .ok (.iload 11, 2) := by decide +kernel
theorem r_X9_isIt_156 {x0 x1 x2 x3 x4 x5 x6 x7 x8 x9 x10 x12 x13 : Value} {a : Int32} {st : List Value} {h : AH} : Run M_X9_isIt 156 [x0, x1, x2, x3, x4, x5, x6, x7, x8, x9, x10, .int a, x12, x13] st h = Run M_X9_isIt 158 [x0, x1, x2, x3, x4, x5, x6, x7, x8, x9, x10, .int a, x12, x13] (.int a :: st) h := R_iload d_X9_isIt_156 rfl
theorem d_X9_isIt_158 : decode (mB M_X9_isIt) 158 = .ok (.i2l, 1) := by decide +kernel
theorem r_X9_isIt_158 {x0 x1 x2 x3 x4 x5 x6 x7 x8 x9 x10 x11 x12 x13 : Value} {x : Int32} {st : List Value} {h : AH} : Run M_X9_isIt 158 [x0, x1, x2, x3, x4, x5, x6, x7, x8, x9, x10, x11, x12, x13] (.int x :: st) h = Run M_X9_isIt 159 [x0, x1, x2, x3, x4, x5, x6, x7, x8, x9, x10, x11, x12, x13] (.long x.toInt64 :: st) h := R_i2l d_X9_isIt_158
theorem d_X9_isIt_159 : decode (mB M_X9_isIt) 159 = .ok (.lmul, 1) := by decide +kernel
theorem r_X9_isIt_159 {x0 x1 x2 x3 x4 x5 x6 x7 x8 x9 x10 x11 x12 x13 : Value} {x y : Int64} {st : List Value} {h : AH} : Run M_X9_isIt 159 [x0, x1, x2, x3, x4, x5, x6, x7, x8, x9, x10, x11, x12, x13] (.long y :: .long x :: st) h = Run M_X9_isIt 160 [x0, x1, x2, x3, x4, x5, x6, x7, x8, x9, x10, x11, x12, x13] (.long (x * y) :: st) h := R_lmul d_X9_isIt_159
theorem d_X9_isIt_160 : decode (mB M_X9_isIt) 160 = .ok (.aload_n 0, 1) := by decide +kernel
theorem r_X9_isIt_160 {x1 x2 x3 x4 x5 x6 x7 x8 x9 x10 x11 x12 x13 : Value} {a : Nat} {st : List Value} {h : AH} : Run M_X9_isIt 160 [.ref a, x1, x2, x3, x4, x5, x6, x7, x8, x9, x10, x11, x12, x13] st h = Run M_X9_isIt 161 [.ref a, x1, x2, x3, x4, x5, x6, x7, x8, x9, x10, x11, x12, x13] (.ref a :: st) h := R_aload_n d_X9_isIt_160 rfl
theorem d_X9_isIt_161 : decode (mB M_X9_isIt) 161 = .ok (.iload 9, 2) := by decide +kernel
theorem r_X9_isIt_161 {x0 x1 x2 x3 x4 x5 x6 x7 x8 x10 x11 x12 x13 : Value} {a : Int32} {st : List Value} {h : AH} : Run M_X9_isIt 161 [x0, x1, x2, x3, x4, x5, x6, x7, x8, .int a, x10, x11, x12, x13] st h = Run M_X9_isIt 163 [x0, x1, x2, x3, x4, x5, x6, x7, x8, .int a, x10, x11, x12, x13] (.int a :: st) h := R_iload d_X9_isIt_161 rfl
theorem d_X9_isIt_163 : decode (mB M_X9_isIt) 163 = .ok (.iconst 1, 1) := by decide +kernel
theorem r_X9_isIt_163 {x0 x1 x2 x3 x4 x5 x6 x7 x8 x9 x10 x11 x12 x13 : Value} {st : List Value} {h : AH} : Run M_X9_isIt 163 [x0, x1, x2, x3, x4, x5, x6, x7, x8, x9, x10, x11, x12, x13] st h = Run M_X9_isIt 164 [x0, x1, x2, x3, x4, x5, x6, x7, x8, x9, x10, x11, x12, x13] (.int (nI 1) :: st) h := R_iconst d_X9_isIt_163 (by decide)
theorem d_X9_isIt_164 : decode (mB M_X9_isIt) 164 = .ok (.iadd, 1) := by decide +kernel
theorem r_X9_isIt_164 {x0 x1 x2 x3 x4 x5 x6 x7 x8 x9 x10 x11 x12 x13 : Value} {x y : Int32} {st : List Value} {h : AH} : Run M_X9_isIt 164 [x0, x1, x2, x3, x4, x5, x6, x7, x8, x9, x10, x11, x12, x13] (.int y :: .int x :: st) h = Run M_X9_isIt 165 [x0, x1, x2, x3, x4, x5, x6, x7, x8, x9, x10, x11, x12, x13] (.int (x + y) :: st) h := R_iadd d_X9_isIt_164
theorem d_X9_isIt_165 : decode (mB M_X9_isIt) 165 = .ok (.aload_n 0, 1) := by decide +kernel
theorem r_X9_isIt_165 {x1 x2 x3 x4 x5 x6 x7 x8 x9 x10 x11 x12 x13 : Value} {a : Nat} {st : List Value} {h : AH} : Run M_X9_isIt 165 [.ref a, x1, x2, x3, x4, x5, x6, x7, x8, x9, x10, x11, x12, x13] st h = Run M_X9_isIt 166 [.ref a, x1, x2, x3, x4, x5, x6, x7, x8, x9, x10, x11, x12, x13] (.ref a :: st) h := R_aload_n d_X9_isIt_165 rfl
theorem d_X9_isIt_166 : decode (mB M_X9_isIt) 166 = .ok (.getfield 82, 3) := by decide +kernel
theorem r_X9_isIt_166 {x0 x1 x2 x3 x4 x5 x6 x7 x8 x9 x10 x11 x12 x13 : Value} {a : Nat} {st : List Value} {h : AH} : Run M_X9_isIt 166 [x0, x1, x2, x3, x4, x5, x6, x7, x8, x9, x10, x11, x12, x13] (.ref a :: st) h = if (gF h a 9 3).isSome = true then Run M_X9_isIt 169 [x0, x1, x2, x3, x4, x5, x6, x7, x8, x9, x10, x11, x12, x13] ((gF h a 9 3).getD .null :: st) h else none := R_getfield d_X9_isIt_166 rfl
theorem d_X9_isIt_169 : decode (mB M_X9_isIt) 169 = .ok (.invokevirtual 221, 3) := by decide +kernel
theorem r_X9_isIt_169 {x0 x1 x2 x3 x4 x5 x6 x7 x8 x9 x10 x11 x12 x13 : Value} {p0 : Int32} {p1 : Int32} {a : Nat} {w0 : Value} {h : AH} : Run M_X9_isIt 169 [x0, x1, x2, x3, x4, x5, x6, x7, x8, x9, x10, x11, x12, x13] (.int p1 :: .int p0 :: .ref a :: [w0]) h = if refO h 9 (some (.ref a)) = true then (if (Call M_X9_whole h [.ref a, .int p0, .int p1]).isSome = true then Run M_X9_isIt 172 [x0, x1, x2, x3, x4, x5, x6, x7, x8, x9, x10, x11, x12, x13] (rL (Call M_X9_whole h [.ref a, .int p0, .int p1]) ++ [w0]) (cH (Call M_X9_whole h [.ref a, .int p0, .int p1])) else none) else none := R_virt d_X9_isIt_169 rfl rfl rfl rfl rfl (Nat.le_of_ble_eq_true rfl)
theorem d_X9_isIt_172 : decode (mB M_X9_isIt) 172 = .ok (.lmul, 1) := by decide +kernel
theorem r_X9_isIt_172 {x0 x1 x2 x3 x4 x5 x6 x7 x8 x9 x10 x11 x12 x13 : Value} {x y : Int64} {st : List Value} {h : AH} : Run M_X9_isIt 172 [x0, x1, x2, x3, x4, x5, x6, x7, x8, x9, x10, x11, x12, x13] (.long y :: .long x :: st) h = Run M_X9_isIt 173 [x0, x1, x2, x3, x4, x5, x6, x7, x8, x9, x10, x11, x12, x13] (.long (x * y) :: st) h := R_lmul d_X9_isIt_172
theorem d_X9_isIt_173 : decode (mB M_X9_isIt) 173 = .ok (.lstore 12, 2) := by decide +kernel
theorem r_X9_isIt_173 {x0 x1 x2 x3 x4 x5 x6 x7 x8 x9 x10 x11 x12 x13 : Value} {a : Int64} {st : List Value} {h : AH} (hc : x11.category = 1) : Run M_X9_isIt 173 [x0, x1, x2, x3, x4, x5, x6, x7, x8, x9, x10, x11, x12, x13] (.long a :: st) h = Run M_X9_isIt 175 [x0, x1, x2, x3, x4, x5, x6, x7, x8, x9, x10, x11, .long a, .null] st h := R_lstore d_X9_isIt_173 (Nat.lt_of_lt_of_le (by decide : 13 < 14) (Nat.le_refl 14)) (catP_of rfl hc)
theorem d_X9_isIt_175 : decode (mB M_X9_isIt) 175 = .ok (.lload 5, 2) := by decide +kernel
theorem r_X9_isIt_175 {x0 x1 x2 x3 x4 x6 x7 x8 x9 x10 x11 x12 x13 : Value} {a : Int64} {st : List Value} {h : AH} : Run M_X9_isIt 175 [x0, x1, x2, x3, x4, .long a, x6, x7, x8, x9, x10, x11, x12, x13] st h = Run M_X9_isIt 177 [x0, x1, x2, x3, x4, .long a, x6, x7, x8, x9, x10, x11, x12, x13] (.long a :: st) h := R_lload d_X9_isIt_175 rfl
theorem d_X9_isIt_177 : decode (mB M_X9_isIt) 177 = .ok (.aload_n 0, 1) := by decide +kernel
theorem r_X9_isIt_177 {x1 x2 x3 x4 x5 x6 x7 x8 x9 x10 x11 x12 x13 : Value} {a : Nat} {st : List Value} {h : AH} : Run M_X9_isIt 177 [.ref a, x1, x2, x3, x4, x5, x6, x7, x8, x9, x10, x11, x12, x13] st h = Run M_X9_isIt 178 [.ref a, x1, x2, x3, x4, x5, x6, x7, x8, x9, x10, x11, x12, x13] (.ref a :: st) h := R_aload_n d_X9_isIt_177 rfl
theorem d_X9_isIt_178 : decode (mB M_X9_isIt) 178 = .ok (.getfield 20, 3) := by decide +kernel
theorem r_X9_isIt_178 {x0 x1 x2 x3 x4 x5 x6 x7 x8 x9 x10 x11 x12 x13 : Value} {a : Nat} {st : List Value} {h : AH} : Run M_X9_isIt 178 [x0, x1, x2, x3, x4, x5, x6, x7, x8, x9, x10, x11, x12, x13] (.ref a :: st) h = if (gF h a 9 4).isSome = true then Run M_X9_isIt 181 [x0, x1, x2, x3, x4, x5, x6, x7, x8, x9, x10, x11, x12, x13] ((gF h a 9 4).getD .null :: st) h else none := R_getfield d_X9_isIt_178 rfl
theorem d_X9_isIt_181 : decode (mB M_X9_isIt) 181 = .ok (.iload 9, 2) := by decide +kernel
theorem r_X9_isIt_181 {x0 x1 x2 x3 x4 x5 x6 x7 x8 x10 x11 x12 x13 : Value} {a : Int32} {st : List Value} {h : AH} : Run M_X9_isIt 181 [x0, x1, x2, x3, x4, x5, x6, x7, x8, .int a, x10, x11, x12, x13] st h = Run M_X9_isIt 183 [x0, x1, x2, x3, x4, x5, x6, x7, x8, .int a, x10, x11, x12, x13] (.int a :: st) h := R_iload d_X9_isIt_181 rfl
theorem d_X9_isIt_183 : decode (mB M_X9_isIt) 183 = .ok (.iaload, 1) := by decide +kernel
theorem r_X9_isIt_183 {x0 x1 x2 x3 x4 x5 x6 x7 x8 x9 x10 x11 x12 x13 : Value} {a : Nat} {i : Int32} {st : List Value} {h : AH} : Run M_X9_isIt 183 [x0, x1, x2, x3, x4, x5, x6, x7, x8, x9, x10, x11, x12, x13] (.int i :: .ref a :: st) h = if (gI 0 h a i).isSome = true then Run M_X9_isIt 184 [x0, x1, x2, x3, x4, x5, x6, x7, x8, x9, x10, x11, x12, x13] (.int ((gI 0 h a i).getD 0) :: st) h else none := R_iaload d_X9_isIt_183
theorem d_X9_isIt_184 : decode (mB M_X9_isIt) 184 = .ok (.iconst 3, 1) := by decide +kernel
theorem r_X9_isIt_184 {x0 x1 x2 x3 x4 x5 x6 x7 x8 x9 x10 x11 x12 x13 : Value} {st : List Value} {h : AH} : Run M_X9_isIt 184 [x0, x1, x2, x3, x4, x5, x6, x7, x8, x9, x10, x11, x12, x13] st h = Run M_X9_isIt 185 [x0, x1, x2, x3, x4, x5, x6, x7, x8, x9, x10, x11, x12, x13] (.int (nI 3) :: st) h := R_iconst d_X9_isIt_184 (by decide)
theorem d_X9_isIt_185 : decode (mB M_X9_isIt) 185 = .ok (.if_icmp .ne 8, 3) := by decide +kernel
theorem r_X9_isIt_185 {x0 x1 x2 x3 x4 x5 x6 x7 x8 x9 x10 x11 x12 x13 : Value} {x y : Int32} {st : List Value} {h : AH} : Run M_X9_isIt 185 [x0, x1, x2, x3, x4, x5, x6, x7, x8, x9, x10, x11, x12, x13] (.int y :: .int x :: st) h = if x = y then Run M_X9_isIt 188 [x0, x1, x2, x3, x4, x5, x6, x7, x8, x9, x10, x11, x12, x13] st h else Run M_X9_isIt 193 [x0, x1, x2, x3, x4, x5, x6, x7, x8, x9, x10, x11, x12, x13] st h := R_icmp_ne d_X9_isIt_185 (by decide)
theorem d_X9_isIt_188 : decode (mB M_X9_isIt) 188 = .ok (.lload 12, 2) := by decide +kernel
theorem r_X9_isIt_188 {x0 x1 x2 x3 x4 x5 x6 x7 x8 x9 x10 x11 x13 : Value} {a : Int64} {st : List Value} {h : AH} : Run M_X9_isIt 188 [x0, x1, x2, x3, x4, x5, x6, x7, x8, x9, x10, x11, .long a, x13] st h = Run M_X9_isIt 190 [x0, x1, x2, x3, x4, x5, x6, x7, x8, x9, x10, x11, .long a, x13] (.long a :: st) h := R_lload d_X9_isIt_188 rfl
theorem d_X9_isIt_190 : decode (mB M_X9_isIt) 190 = .ok (.goto 4, 3) := by decide +kernel
theorem r_X9_isIt_190 {x0 x1 x2 x3 x4 x5 x6 x7 x8 x9 x10 x11 x12 x13 : Value} {st : List Value} {h : AH} : Run M_X9_isIt 190 [x0, x1, x2, x3, x4, x5, x6, x7, x8, x9, x10, x11, x12, x13] st h = Run M_X9_isIt 194 [x0, x1, x2, x3, x4, x5, x6, x7, x8, x9, x10, x11, x12, x13] st h := R_goto d_X9_isIt_190 (by decide)
theorem d_X9_isIt_193 : decode (mB M_X9_isIt) 193 = .ok (.lconst 0, 1) := by decide +kernel
theorem r_X9_isIt_193 {x0 x1 x2 x3 x4 x5 x6 x7 x8 x9 x10 x11 x12 x13 : Value} {st : List Value} {h : AH} : Run M_X9_isIt 193 [x0, x1, x2, x3, x4, x5, x6, x7, x8, x9, x10, x11, x12, x13] st h = Run M_X9_isIt 194 [x0, x1, x2, x3, x4, x5, x6, x7, x8, x9, x10, x11, x12, x13] (.long (lN 0) :: st) h := R_lconst d_X9_isIt_193 (by decide)
theorem d_X9_isIt_194 : decode (mB M_X9_isIt) 194 = .ok (.ladd, 1) := by decide +kernel
theorem r_X9_isIt_194 {x0 x1 x2 x3 x4 x5 x6 x7 x8 x9 x10 x11 x12 x13 : Value} {x y : Int64} {st : List Value} {h : AH} : Run M_X9_isIt 194 [x0, x1, x2, x3, x4, x5, x6, x7, x8, x9, x10, x11, x12, x13] (.long y :: .long x :: st) h = Run M_X9_isIt 195 [x0, x1, x2, x3, x4, x5, x6, x7, x8, x9, x10, x11, x12, x13] (.long (x + y) :: st) h := R_ladd d_X9_isIt_194
theorem d_X9_isIt_195 : decode (mB M_X9_isIt) 195 = .ok (.lstore 5, 2) := by decide +kernel
theorem r_X9_isIt_195 {x0 x1 x2 x3 x4 x5 x6 x7 x8 x9 x10 x11 x12 x13 : Value} {a : Int64} {st : List Value} {h : AH} (hc : x4.category = 1) : Run M_X9_isIt 195 [x0, x1, x2, x3, x4, x5, x6, x7, x8, x9, x10, x11, x12, x13] (.long a :: st) h = Run M_X9_isIt 197 [x0, x1, x2, x3, x4, .long a, .null, x7, x8, x9, x10, x11, x12, x13] st h := R_lstore d_X9_isIt_195 (Nat.lt_of_lt_of_le (by decide : 6 < 14) (Nat.le_refl 14)) (catP_of rfl hc)
theorem d_X9_isIt_197 : decode (mB M_X9_isIt) 197 = .ok (.lload 7, 2) := by decide +kernel
theorem r_X9_isIt_197 {x0 x1 x2 x3 x4 x5 x6 x8 x9 x10 x11 x12 x13 : Value} {a : Int64} {st : List Value} {h : AH} : Run M_X9_isIt 197 [x0, x1, x2, x3, x4, x5, x6, .long a, x8, x9, x10, x11, x12, x13] st h = Run M_X9_isIt 199 [x0, x1, x2, x3, x4, x5, x6, .long a, x8, x9, x10, x11, x12, x13] (.long a :: st) h := R_lload d_X9_isIt_197 rfl
theorem d_X9_isIt_199 : decode (mB M_X9_isIt) 199 = .ok (.lload 12, 2) := by decide +kernel
theorem r_X9_isIt_199 {x0 x1 x2 x3 x4 x5 x6 x7 x8 x9 x10 x11 x13 : Value} {a : Int64} {st : List Value} {h : AH} : Run M_X9_isIt 199 [x0, x1, x2, x3, x4, x5, x6, x7, x8, x9, x10, x11, .long a, x13] st h = Run M_X9_isIt 201 [x0, x1, x2, x3, x4, x5, x6, x7, x8, x9, x10, x11, .long a, x13] (.long a :: st) h := R_lload d_X9_isIt_199 rfl
theorem d_X9_isIt_201 : decode (mB M_X9_isIt) 201 = .ok (.ladd, 1) := by decide +kernel
theorem r_X9_isIt_201 {x0 x1 x2 x3 x4 x5 x6 x7 x8 x9 x10 x11 x12 x13 : Value} {x y : Int64} {st : List Value} {h : AH} : Run M_X9_isIt 201 [x0, x1, x2, x3, x4, x5, x6, x7, x8, x9, x10, x11, x12, x13] (.long y :: .long x :: st) h = Run M_X9_isIt 202 [x0, x1, x2, x3, x4, x5, x6, x7, x8, x9, x10, x11, x12, x13] (.long (x + y) :: st) h := R_ladd d_X9_isIt_201
theorem d_X9_isIt_202 : decode (mB M_X9_isIt) 202 = .ok (.lstore 7, 2) := by decide +kernel
theorem r_X9_isIt_202 {x0 x1 x2 x3 x4 x5 x6 x7 x8 x9 x10 x11 x12 x13 : Value} {a : Int64} {st : List Value} {h : AH} (hc : x6.category = 1) : Run M_X9_isIt 202 [x0, x1, x2, x3, x4, x5, x6, x7, x8, x9, x10, x11, x12, x13] (.long a :: st) h = Run M_X9_isIt 204 [x0, x1, x2, x3, x4, x5, x6, .long a, .null, x9, x10, x11, x12, x13] st h := R_lstore d_X9_isIt_202 (Nat.lt_of_lt_of_le (by decide : 8 < 14) (Nat.le_refl 14)) (catP_of rfl hc)
theorem d_X9_isIt_204 : decode (mB M_X9_isIt) 204 = .ok (.iinc 9 1, 3) := by decide +kernel
theorem r_X9_isIt_204 {x0 x1 x2 x3 x4 x5 x6 x7 x8 x10 x11 x12 x13 : Value} {a : Int32} {st : List Value} {h : AH} (hc : x8.category = 1) : Run M_X9_isIt 204 [x0, x1, x2, x3, x4, x5, x6, x7, x8, .int a, x10, x11, x12, x13] st h = Run M_X9_isIt 207 [x0, x1, x2, x3, x4, x5, x6, x7, x8, .int (a + (nI 1)), x10, x11, x12, x13] st h := R_iinc d_X9_isIt_204 (by decide) rfl (catP_of rfl hc)
theorem d_X9_isIt_207 : decode (mB M_X9_isIt) 207 = .ok (.goto (-158), 3) := by decide +kernel
theorem r_X9_isIt_207 {x0 x1 x2 x3 x4 x5 x6 x7 x8 x9 x10 x11 x12 x13 : Value} {st : List Value} {h : AH} : Run M_X9_isIt 207 [x0, x1, x2, x3, x4, x5, x6, x7, x8, x9, x10, x11, x12, x13] st h = Run M_X9_isIt 49 [x0, x1, x2, x3, x4, x5, x6, x7, x8, x9, x10, x11, x12, x13] st h := R_goto d_X9_isIt_207 (by decide)
theorem d_X9_isIt_210 : decode (mB M_X9_isIt) 210 = .ok (.lload 7, 2) := by decide +kernel
theorem r_X9_isIt_210 {x0 x1 x2 x3 x4 x5 x6 x8 x9 x10 x11 x12 x13 : Value} {a : Int64} {st : List Value} {h : AH} : Run M_X9_isIt 210 [x0, x1, x2, x3, x4, x5, x6, .long a, x8, x9, x10, x11, x12, x13] st h = Run M_X9_isIt 212 [x0, x1, x2, x3, x4, x5, x6, .long a, x8, x9, x10, x11, x12, x13] (.long a :: st) h := R_lload d_X9_isIt_210 rfl
theorem d_X9_isIt_212 : decode (mB M_X9_isIt) 212 = .ok (.lconst 0, 1) := by decide +kernel
theorem r_X9_isIt_212 {x0 x1 x2 x3 x4 x5 x6 x7 x8 x9 x10 x11 x12 x13 : Value} {st : List Value} {h : AH} : Run M_X9_isIt 212 [x0, x1, x2, x3, x4, x5, x6, x7, x8, x9, x10, x11, x12, x13] st h = Run M_X9_isIt 213 [x0, x1, x2, x3, x4, x5, x6, x7, x8, x9, x10, x11, x12, x13] (.long (lN 0) :: st) h := R_lconst d_X9_isIt_212 (by decide)
theorem d_X9_isIt_213 : decode (mB M_X9_isIt) 213 = .ok (.lcmp, 1) := by decide +kernel
theorem r_X9_isIt_213 {x0 x1 x2 x3 x4 x5 x6 x7 x8 x9 x10 x11 x12 x13 : Value} {x y : Int64} {st : List Value} {h : AH} : Run M_X9_isIt 213 [x0, x1, x2, x3, x4, x5, x6, x7, x8, x9, x10, x11, x12, x13] (.long y :: .long x :: st) h = Run M_X9_isIt 214 [x0, x1, x2, x3, x4, x5, x6, x7, x8, x9, x10, x11, x12, x13] (.int (lg_cmp x y) :: st) h := R_lcmp d_X9_isIt_213
theorem d_X9_isIt_214 : decode (mB M_X9_isIt) 214 = .ok (.ifCond .ne 9, 3) := by decide +kernel
theorem r_X9_isIt_214 {x0 x1 x2 x3 x4 x5 x6 x7 x8 x9 x10 x11 x12 x13 : Value} {x : Int32} {st : List Value} {h : AH} : Run M_X9_isIt 214 [x0, x1, x2, x3, x4, x5, x6, x7, x8, x9, x10, x11, x12, x13] (.int x :: st) h = if x = nI 0 then Run M_X9_isIt 217 [x0, x1, x2, x3, x4, x5, x6, x7, x8, x9, x10, x11, x12, x13] st h else Run M_X9_isIt 223 [x0, x1, x2, x3, x4, x5, x6, x7, x8, x9, x10, x11, x12, x13] st h := R_if_ne d_X9_isIt_214 (by decide)
theorem d_X9_isIt_217 : decode (mB M_X9_isIt) 217 = .ok (.ldc2_w 236, 3) := by decide +kernel
theorem r_X9_isIt_217 {x0 x1 x2 x3 x4 x5 x6 x7 x8 x9 x10 x11 x12 x13 : Value} {st : List Value} {h : AH} : Run M_X9_isIt 217 [x0, x1, x2, x3, x4, x5, x6, x7, x8, x9, x10, x11, x12, x13] st h = Run M_X9_isIt 220 [x0, x1, x2, x3, x4, x5, x6, x7, x8, x9, x10, x11, x12, x13] (.long (-1000000003) :: st) h := R_ldc2_w d_X9_isIt_217 (by decide)
theorem d_X9_isIt_220 : decode (mB M_X9_isIt) 220 = .ok (.goto 12, 3) := by decide +kernel
theorem r_X9_isIt_220 {x0 x1 x2 x3 x4 x5 x6 x7 x8 x9 x10 x11 x12 x13 : Value} {st : List Value} {h : AH} : Run M_X9_isIt 220 [x0, x1, x2, x3, x4, x5, x6, x7, x8, x9, x10, x11, x12, x13] st h = Run M_X9_isIt 232 [x0, x1, x2, x3, x4, x5, x6, x7, x8, x9, x10, x11, x12, x13] st h := R_goto d_X9_isIt_220 (by decide)
theorem d_X9_isIt_223 : decode (mB M_X9_isIt) 223 = .ok (.lload 5, 2) := by decide +kernel
theorem r_X9_isIt_223 {x0 x1 x2 x3 x4 x6 x7 x8 x9 x10 x11 x12 x13 : Value} {a : Int64} {st : List Value} {h : AH} : Run M_X9_isIt 223 [x0, x1, x2, x3, x4, .long a, x6, x7, x8, x9, x10, x11, x12, x13] st h = Run M_X9_isIt 225 [x0, x1, x2, x3, x4, .long a, x6, x7, x8, x9, x10, x11, x12, x13] (.long a :: st) h := R_lload d_X9_isIt_223 rfl
theorem d_X9_isIt_225 : decode (mB M_X9_isIt) 225 = .ok (.lload 7, 2) := by decide +kernel
theorem r_X9_isIt_225 {x0 x1 x2 x3 x4 x5 x6 x8 x9 x10 x11 x12 x13 : Value} {a : Int64} {st : List Value} {h : AH} : Run M_X9_isIt 225 [x0, x1, x2, x3, x4, x5, x6, .long a, x8, x9, x10, x11, x12, x13] st h = Run M_X9_isIt 227 [x0, x1, x2, x3, x4, x5, x6, .long a, x8, x9, x10, x11, x12, x13] (.long a :: st) h := R_lload d_X9_isIt_225 rfl
theorem d_X9_isIt_227 : decode (mB M_X9_isIt) 227 = .ok (.iload 4, 2) := by decide +kernel
theorem r_X9_isIt_227 {x0 x1 x2 x3 x5 x6 x7 x8 x9 x10 x11 x12 x13 : Value} {a : Int32} {st : List Value} {h : AH} : Run M_X9_isIt 227 [x0, x1, x2, x3, .int a, x5, x6, x7, x8, x9, x10, x11, x12, x13] st h = Run M_X9_isIt 229 [x0, x1, x2, x3, .int a, x5, x6, x7, x8, x9, x10, x11, x12, x13] (.int a :: st) h := R_iload d_X9_isIt_227 rfl
theorem d_X9_isIt_229 : decode (mB M_X9_isIt) 229 = .ok (.invokestatic 225, 3) := by decide +kernel
theorem r_X9_isIt_229 {x0 x1 x2 x3 x4 x5 x6 x7 x8 x9 x10 x11 x12 x13 : Value} {p0 : Int64} {p1 : Int64} {p2 : Int32} {h : AH} : Run M_X9_isIt 229 [x0, x1, x2, x3, x4, x5, x6, x7, x8, x9, x10, x11, x12, x13] (.int p2 :: .long p1 :: .long p0 :: []) h = if (Call M_X9_share h [.long p0, .long p1, .int p2]).isSome = true then Run M_X9_isIt 232 [x0, x1, x2, x3, x4, x5, x6, x7, x8, x9, x10, x11, x12, x13] (rL (Call M_X9_share h [.long p0, .long p1, .int p2]) ++ []) (cH (Call M_X9_share h [.long p0, .long p1, .int p2])) else none := R_stat d_X9_isIt_229 rfl rfl rfl rfl (Nat.le_of_ble_eq_true rfl)
theorem d_X9_isIt_232 : decode (mB M_X9_isIt) 232 = .ok (.lreturn, 1) := by decide +kernel
theorem r_X9_isIt_232 {x0 x1 x2 x3 x4 x5 x6 x7 x8 x9 x10 x11 x12 x13 : Value} {v : Int64} {h : AH} : Run M_X9_isIt 232 [x0, x1, x2, x3, x4, x5, x6, x7, x8, x9, x10, x11, x12, x13] [.long v] h = some (h, some (.long v)) := R_lreturn d_X9_isIt_232 rfl
theorem d_X9_goCost_0 : decode (mB M_X9_goCost) 0 = .ok (.lconst 0, 1) := by decide +kernel
theorem r_X9_goCost_0 {x0 x1 x2 x3 x4 : Value} {st : List Value} {h : AH} : Run M_X9_goCost 0 [x0, x1, x2, x3, x4] st h = Run M_X9_goCost 1 [x0, x1, x2, x3, x4] (.long (lN 0) :: st) h := R_lconst d_X9_goCost_0 (by decide)
theorem d_X9_goCost_1 : decode (mB M_X9_goCost) 1 = .ok (.lstore_n 2, 1) := by decide +kernel
theorem r_X9_goCost_1 {x0 x1 x2 x3 x4 : Value} {a : Int64} {st : List Value} {h : AH} (hc : x1.category = 1) : Run M_X9_goCost 1 [x0, x1, x2, x3, x4] (.long a :: st) h = Run M_X9_goCost 2 [x0, x1, .long a, .null, x4] st h := R_lstore_n d_X9_goCost_1 (Nat.lt_of_lt_of_le (by decide : 3 < 5) (Nat.le_refl 5)) (catP_of rfl hc)
theorem d_X9_goCost_2 : decode (mB M_X9_goCost) 2 = .ok (.iconst 0, 1) := by decide +kernel
theorem r_X9_goCost_2 {x0 x1 x2 x3 x4 : Value} {st : List Value} {h : AH} : Run M_X9_goCost 2 [x0, x1, x2, x3, x4] st h = Run M_X9_goCost 3 [x0, x1, x2, x3, x4] (.int (nI 0) :: st) h := R_iconst d_X9_goCost_2 (by decide)
theorem d_X9_goCost_3 : decode (mB M_X9_goCost) 3 = .ok (.istore 4, 2) := by decide +kernel
theorem r_X9_goCost_3 {x0 x1 x2 x3 x4 : Value} {a : Int32} {st : List Value} {h : AH} (hc : x3.category = 1) : Run M_X9_goCost 3 [x0, x1, x2, x3, x4] (.int a :: st) h = Run M_X9_goCost 5 [x0, x1, x2, x3, .int a] st h := R_istore d_X9_goCost_3 (Nat.lt_of_lt_of_le (by decide : 4 < 5) (Nat.le_refl 5)) (catP_of rfl hc)
theorem d_X9_goCost_5 : decode (mB M_X9_goCost) 5 = .ok (.iload 4, 2) := by decide +kernel
theorem r_X9_goCost_5 {x0 x1 x2 x3 : Value} {a : Int32} {st : List Value} {h : AH} : Run M_X9_goCost 5 [x0, x1, x2, x3, .int a] st h = Run M_X9_goCost 7 [x0, x1, x2, x3, .int a] (.int a :: st) h := R_iload d_X9_goCost_5 rfl
theorem d_X9_goCost_7 : decode (mB M_X9_goCost) 7 = .ok (.sipush 420, 3) := by decide +kernel
theorem r_X9_goCost_7 {x0 x1 x2 x3 x4 : Value} {st : List Value} {h : AH} : Run M_X9_goCost 7 [x0, x1, x2, x3, x4] st h = Run M_X9_goCost 10 [x0, x1, x2, x3, x4] (.int (nI 420) :: st) h := R_sipush d_X9_goCost_7 (by decide)
theorem d_X9_goCost_10 : decode (mB M_X9_goCost) 10 = .ok (.if_icmp .gt 52, 3) := by decide +kernel
theorem r_X9_goCost_10 {x0 x1 x2 x3 x4 : Value} {x y : Int32} {st : List Value} {h : AH} : Run M_X9_goCost 10 [x0, x1, x2, x3, x4] (.int y :: .int x :: st) h = if y < x then Run M_X9_goCost 62 [x0, x1, x2, x3, x4] st h else Run M_X9_goCost 13 [x0, x1, x2, x3, x4] st h := R_icmp_gt d_X9_goCost_10 (by decide)
theorem d_X9_goCost_13 : decode (mB M_X9_goCost) 13 = .ok (.lload_n 2, 1) := by decide +kernel
theorem r_X9_goCost_13 {x0 x1 x3 x4 : Value} {a : Int64} {st : List Value} {h : AH} : Run M_X9_goCost 13 [x0, x1, .long a, x3, x4] st h = Run M_X9_goCost 14 [x0, x1, .long a, x3, x4] (.long a :: st) h := R_lload_n d_X9_goCost_13 rfl
theorem d_X9_goCost_14 : decode (mB M_X9_goCost) 14 = .ok (.aload_n 0, 1) := by decide +kernel
theorem r_X9_goCost_14 {x1 x2 x3 x4 : Value} {a : Nat} {st : List Value} {h : AH} : Run M_X9_goCost 14 [.ref a, x1, x2, x3, x4] st h = Run M_X9_goCost 15 [.ref a, x1, x2, x3, x4] (.ref a :: st) h := R_aload_n d_X9_goCost_14 rfl
theorem d_X9_goCost_15 : decode (mB M_X9_goCost) 15 = .ok (.getfield 69, 3) := by decide +kernel
theorem r_X9_goCost_15 {x0 x1 x2 x3 x4 : Value} {a : Nat} {st : List Value} {h : AH} : Run M_X9_goCost 15 [x0, x1, x2, x3, x4] (.ref a :: st) h = if (gF h a 9 34).isSome = true then Run M_X9_goCost 18 [x0, x1, x2, x3, x4] ((gF h a 9 34).getD .null :: st) h else none := R_getfield d_X9_goCost_15 rfl
theorem d_X9_goCost_18 : decode (mB M_X9_goCost) 18 = .ok (.iload 4, 2) := by decide +kernel
theorem r_X9_goCost_18 {x0 x1 x2 x3 : Value} {a : Int32} {st : List Value} {h : AH} : Run M_X9_goCost 18 [x0, x1, x2, x3, .int a] st h = Run M_X9_goCost 20 [x0, x1, x2, x3, .int a] (.int a :: st) h := R_iload d_X9_goCost_18 rfl
theorem d_X9_goCost_20 : decode (mB M_X9_goCost) 20 = .ok (.laload, 1) := by decide +kernel
theorem r_X9_goCost_20 {x0 x1 x2 x3 x4 : Value} {a : Nat} {i : Int32} {st : List Value} {h : AH} : Run M_X9_goCost 20 [x0, x1, x2, x3, x4] (.int i :: .ref a :: st) h = if (gJ h a i).isSome = true then Run M_X9_goCost 21 [x0, x1, x2, x3, x4] (.long ((gJ h a i).getD 0) :: st) h else none := R_laload d_X9_goCost_20
theorem d_X9_goCost_21 : decode (mB M_X9_goCost) 21 = .ok (.iload 4, 2) := by decide +kernel
theorem r_X9_goCost_21 {x0 x1 x2 x3 : Value} {a : Int32} {st : List Value} {h : AH} : Run M_X9_goCost 21 [x0, x1, x2, x3, .int a] st h = Run M_X9_goCost 23 [x0, x1, x2, x3, .int a] (.int a :: st) h := R_iload d_X9_goCost_21 rfl
theorem d_X9_goCost_23 : decode (mB M_X9_goCost) 23 = .ok (.iload_n 1, 1) := by decide +kernel
theorem r_X9_goCost_23 {x0 x2 x3 x4 : Value} {a : Int32} {st : List Value} {h : AH} : Run M_X9_goCost 23 [x0, .int a, x2, x3, x4] st h = Run M_X9_goCost 24 [x0, .int a, x2, x3, x4] (.int a :: st) h := R_iload_n d_X9_goCost_23 rfl
theorem d_X9_goCost_24 : decode (mB M_X9_goCost) 24 = .ok (.if_icmp .le 17, 3) := by decide +kernel
theorem r_X9_goCost_24 {x0 x1 x2 x3 x4 : Value} {x y : Int32} {st : List Value} {h : AH} : Run M_X9_goCost 24 [x0, x1, x2, x3, x4] (.int y :: .int x :: st) h = if x ≤ y then Run M_X9_goCost 41 [x0, x1, x2, x3, x4] st h else Run M_X9_goCost 27 [x0, x1, x2, x3, x4] st h := R_icmp_le d_X9_goCost_24 (by decide)
theorem d_X9_goCost_27 : decode (mB M_X9_goCost) 27 = .ok (.aload_n 0, 1) := by decide +kernel
theorem r_X9_goCost_27 {x1 x2 x3 x4 : Value} {a : Nat} {st : List Value} {h : AH} : Run M_X9_goCost 27 [.ref a, x1, x2, x3, x4] st h = Run M_X9_goCost 28 [.ref a, x1, x2, x3, x4] (.ref a :: st) h := R_aload_n d_X9_goCost_27 rfl
theorem d_X9_goCost_28 : decode (mB M_X9_goCost) 28 = .ok (.getfield 7, 3) := by decide +kernel
theorem r_X9_goCost_28 {x0 x1 x2 x3 x4 : Value} {a : Nat} {st : List Value} {h : AH} : Run M_X9_goCost 28 [x0, x1, x2, x3, x4] (.ref a :: st) h = if (gF h a 9 0).isSome = true then Run M_X9_goCost 31 [x0, x1, x2, x3, x4] ((gF h a 9 0).getD .null :: st) h else none := R_getfield d_X9_goCost_28 rfl
theorem d_X9_goCost_31 : decode (mB M_X9_goCost) 31 = .ok (.iconst 0, 1) := by decide +kernel
theorem r_X9_goCost_31 {x0 x1 x2 x3 x4 : Value} {st : List Value} {h : AH} : Run M_X9_goCost 31 [x0, x1, x2, x3, x4] st h = Run M_X9_goCost 32 [x0, x1, x2, x3, x4] (.int (nI 0) :: st) h := R_iconst d_X9_goCost_31 (by decide)
theorem d_X9_goCost_32 : decode (mB M_X9_goCost) 32 = .ok (.iaload, 1) := by decide +kernel
theorem r_X9_goCost_32 {x0 x1 x2 x3 x4 : Value} {a : Nat} {i : Int32} {st : List Value} {h : AH} : Run M_X9_goCost 32 [x0, x1, x2, x3, x4] (.int i :: .ref a :: st) h = if (gI 0 h a i).isSome = true then Run M_X9_goCost 33 [x0, x1, x2, x3, x4] (.int ((gI 0 h a i).getD 0) :: st) h else none := R_iaload d_X9_goCost_32
theorem d_X9_goCost_33 : decode (mB M_X9_goCost) 33 = .ok (.iload 4, 2) := by decide +kernel
theorem r_X9_goCost_33 {x0 x1 x2 x3 : Value} {a : Int32} {st : List Value} {h : AH} : Run M_X9_goCost 33 [x0, x1, x2, x3, .int a] st h = Run M_X9_goCost 35 [x0, x1, x2, x3, .int a] (.int a :: st) h := R_iload d_X9_goCost_33 rfl
theorem d_X9_goCost_35 : decode (mB M_X9_goCost) 35 = .ok (.iload_n 1, 1) := by decide +kernel
theorem r_X9_goCost_35 {x0 x2 x3 x4 : Value} {a : Int32} {st : List Value} {h : AH} : Run M_X9_goCost 35 [x0, .int a, x2, x3, x4] st h = Run M_X9_goCost 36 [x0, .int a, x2, x3, x4] (.int a :: st) h := R_iload_n d_X9_goCost_35 rfl
theorem d_X9_goCost_36 : decode (mB M_X9_goCost) 36 = .ok (.isub, 1) := by decide +kernel
theorem r_X9_goCost_36 {x0 x1 x2 x3 x4 : Value} {x y : Int32} {st : List Value} {h : AH} : Run M_X9_goCost 36 [x0, x1, x2, x3, x4] (.int y :: .int x :: st) h = Run M_X9_goCost 37 [x0, x1, x2, x3, x4] (.int (x - y) :: st) h := R_isub d_X9_goCost_36
theorem d_X9_goCost_37 : decode (mB M_X9_goCost) 37 = .ok (.imul, 1) := by decide +kernel
theorem r_X9_goCost_37 {x0 x1 x2 x3 x4 : Value} {x y : Int32} {st : List Value} {h : AH} : Run M_X9_goCost 37 [x0, x1, x2, x3, x4] (.int y :: .int x :: st) h = Run M_X9_goCost 38 [x0, x1, x2, x3, x4] (.int (x * y) :: st) h := R_imul d_X9_goCost_37
theorem d_X9_goCost_38 : decode (mB M_X9_goCost) 38 = .ok (.goto 14, 3) := by decide +kernel
theorem r_X9_goCost_38 {x0 x1 x2 x3 x4 : Value} {st : List Value} {h : AH} : Run M_X9_goCost 38 [x0, x1, x2, x3, x4] st h = Run M_X9_goCost 52 [x0, x1, x2, x3, x4] st h := R_goto d_X9_goCost_38 (by decide)
theorem d_X9_goCost_41 : decode (mB M_X9_goCost) 41 = .ok (.aload_n 0, 1) := by decide +kernel
theorem r_X9_goCost_41 {x1 x2 x3 x4 : Value} {a : Nat} {st : List Value} {h : AH} : Run M_X9_goCost 41 [.ref a, x1, x2, x3, x4] st h = Run M_X9_goCost 42 [.ref a, x1, x2, x3, x4] (.ref a :: st) h := R_aload_n d_X9_goCost_41 rfl
theorem d_X9_goCost_42 : decode (mB M_X9_goCost) 42 = .ok (.getfield 7, 3) := by decide +kernel
theorem r_X9_goCost_42 {x0 x1 x2 x3 x4 : Value} {a : Nat} {st : List Value} {h : AH} : Run M_X9_goCost 42 [x0, x1, x2, x3, x4] (.ref a :: st) h = if (gF h a 9 0).isSome = true then Run M_X9_goCost 45 [x0, x1, x2, x3, x4] ((gF h a 9 0).getD .null :: st) h else none := R_getfield d_X9_goCost_42 rfl
theorem d_X9_goCost_45 : decode (mB M_X9_goCost) 45 = .ok (.iconst 1, 1) := by decide +kernel
theorem r_X9_goCost_45 {x0 x1 x2 x3 x4 : Value} {st : List Value} {h : AH} : Run M_X9_goCost 45 [x0, x1, x2, x3, x4] st h = Run M_X9_goCost 46 [x0, x1, x2, x3, x4] (.int (nI 1) :: st) h := R_iconst d_X9_goCost_45 (by decide)
theorem d_X9_goCost_46 : decode (mB M_X9_goCost) 46 = .ok (.iaload, 1) := by decide +kernel
theorem r_X9_goCost_46 {x0 x1 x2 x3 x4 : Value} {a : Nat} {i : Int32} {st : List Value} {h : AH} : Run M_X9_goCost 46 [x0, x1, x2, x3, x4] (.int i :: .ref a :: st) h = if (gI 0 h a i).isSome = true then Run M_X9_goCost 47 [x0, x1, x2, x3, x4] (.int ((gI 0 h a i).getD 0) :: st) h else none := R_iaload d_X9_goCost_46
theorem d_X9_goCost_47 : decode (mB M_X9_goCost) 47 = .ok (.iload_n 1, 1) := by decide +kernel
theorem r_X9_goCost_47 {x0 x2 x3 x4 : Value} {a : Int32} {st : List Value} {h : AH} : Run M_X9_goCost 47 [x0, .int a, x2, x3, x4] st h = Run M_X9_goCost 48 [x0, .int a, x2, x3, x4] (.int a :: st) h := R_iload_n d_X9_goCost_47 rfl
theorem d_X9_goCost_48 : decode (mB M_X9_goCost) 48 = .ok (.iload 4, 2) := by decide +kernel
theorem r_X9_goCost_48 {x0 x1 x2 x3 : Value} {a : Int32} {st : List Value} {h : AH} : Run M_X9_goCost 48 [x0, x1, x2, x3, .int a] st h = Run M_X9_goCost 50 [x0, x1, x2, x3, .int a] (.int a :: st) h := R_iload d_X9_goCost_48 rfl
theorem d_X9_goCost_50 : decode (mB M_X9_goCost) 50 = .ok (.isub, 1) := by decide +kernel
theorem r_X9_goCost_50 {x0 x1 x2 x3 x4 : Value} {x y : Int32} {st : List Value} {h : AH} : Run M_X9_goCost 50 [x0, x1, x2, x3, x4] (.int y :: .int x :: st) h = Run M_X9_goCost 51 [x0, x1, x2, x3, x4] (.int (x - y) :: st) h := R_isub d_X9_goCost_50
theorem d_X9_goCost_51 : decode (mB M_X9_goCost) 51 = .ok (.imul, 1) := by decide +kernel
theorem r_X9_goCost_51 {x0 x1 x2 x3 x4 : Value} {x y : Int32} {st : List Value} {h : AH} : Run M_X9_goCost 51 [x0, x1, x2, x3, x4] (.int y :: .int x :: st) h = Run M_X9_goCost 52 [x0, x1, x2, x3, x4] (.int (x * y) :: st) h := R_imul d_X9_goCost_51
theorem d_X9_goCost_52 : decode (mB M_X9_goCost) 52 = .ok (.i2l, 1) := by decide +kernel
theorem r_X9_goCost_52 {x0 x1 x2 x3 x4 : Value} {x : Int32} {st : List Value} {h : AH} : Run M_X9_goCost 52 [x0, x1, x2, x3, x4] (.int x :: st) h = Run M_X9_goCost 53 [x0, x1, x2, x3, x4] (.long x.toInt64 :: st) h := R_i2l d_X9_goCost_52
theorem d_X9_goCost_53 : decode (mB M_X9_goCost) 53 = .ok (.lmul, 1) := by decide +kernel
theorem r_X9_goCost_53 {x0 x1 x2 x3 x4 : Value} {x y : Int64} {st : List Value} {h : AH} : Run M_X9_goCost 53 [x0, x1, x2, x3, x4] (.long y :: .long x :: st) h = Run M_X9_goCost 54 [x0, x1, x2, x3, x4] (.long (x * y) :: st) h := R_lmul d_X9_goCost_53
theorem d_X9_goCost_54 : decode (mB M_X9_goCost) 54 = .ok (.ladd, 1) := by decide +kernel
theorem r_X9_goCost_54 {x0 x1 x2 x3 x4 : Value} {x y : Int64} {st : List Value} {h : AH} : Run M_X9_goCost 54 [x0, x1, x2, x3, x4] (.long y :: .long x :: st) h = Run M_X9_goCost 55 [x0, x1, x2, x3, x4] (.long (x + y) :: st) h := R_ladd d_X9_goCost_54
theorem d_X9_goCost_55 : decode (mB M_X9_goCost) 55 = .ok (.lstore_n 2, 1) := by decide +kernel
theorem r_X9_goCost_55 {x0 x1 x2 x3 x4 : Value} {a : Int64} {st : List Value} {h : AH} (hc : x1.category = 1) : Run M_X9_goCost 55 [x0, x1, x2, x3, x4] (.long a :: st) h = Run M_X9_goCost 56 [x0, x1, .long a, .null, x4] st h := R_lstore_n d_X9_goCost_55 (Nat.lt_of_lt_of_le (by decide : 3 < 5) (Nat.le_refl 5)) (catP_of rfl hc)
theorem d_X9_goCost_56 : decode (mB M_X9_goCost) 56 = .ok (.iinc 4 1, 3) := by decide +kernel
theorem r_X9_goCost_56 {x0 x1 x2 x3 : Value} {a : Int32} {st : List Value} {h : AH} (hc : x3.category = 1) : Run M_X9_goCost 56 [x0, x1, x2, x3, .int a] st h = Run M_X9_goCost 59 [x0, x1, x2, x3, .int (a + (nI 1))] st h := R_iinc d_X9_goCost_56 (by decide) rfl (catP_of rfl hc)
theorem d_X9_goCost_59 : decode (mB M_X9_goCost) 59 = .ok (.goto (-54), 3) := by decide +kernel
theorem r_X9_goCost_59 {x0 x1 x2 x3 x4 : Value} {st : List Value} {h : AH} : Run M_X9_goCost 59 [x0, x1, x2, x3, x4] st h = Run M_X9_goCost 5 [x0, x1, x2, x3, x4] st h := R_goto d_X9_goCost_59 (by decide)
theorem d_X9_goCost_62 : decode (mB M_X9_goCost) 62 = .ok (.lload_n 2, 1) := by decide +kernel
theorem r_X9_goCost_62 {x0 x1 x3 x4 : Value} {a : Int64} {st : List Value} {h : AH} : Run M_X9_goCost 62 [x0, x1, .long a, x3, x4] st h = Run M_X9_goCost 63 [x0, x1, .long a, x3, x4] (.long a :: st) h := R_lload_n d_X9_goCost_62 rfl
theorem d_X9_goCost_63 : decode (mB M_X9_goCost) 63 = .ok (.lreturn, 1) := by decide +kernel
theorem r_X9_goCost_63 {x0 x1 x2 x3 x4 : Value} {v : Int64} {h : AH} : Run M_X9_goCost 63 [x0, x1, x2, x3, x4] [.long v] h = some (h, some (.long v)) := R_lreturn d_X9_goCost_63 rfl
theorem d_X9_liftCost_0 : decode (mB M_X9_liftCost) 0 = .ok (.lconst 0, 1) := by decide +kernel
theorem r_X9_liftCost_0 {x0 x1 x2 x3 x4 x5 x6 : Value} {st : List Value} {h : AH} : Run M_X9_liftCost 0 [x0, x1, x2, x3, x4, x5, x6] st h = Run M_X9_liftCost 1 [x0, x1, x2, x3, x4, x5, x6] (.long (lN 0) :: st) h := R_lconst d_X9_liftCost_0 (by decide)
theorem d_X9_liftCost_1 : decode (mB M_X9_liftCost) 1 = .ok (.lstore_n 3, 1) := by decide +kernel
theorem r_X9_liftCost_1 {x0 x1 x2 x3 x4 x5 x6 : Value} {a : Int64} {st : List Value} {h : AH} (hc : x2.category = 1) : Run M_X9_liftCost 1 [x0, x1, x2, x3, x4, x5, x6] (.long a :: st) h = Run M_X9_liftCost 2 [x0, x1, x2, .long a, .null, x5, x6] st h := R_lstore_n d_X9_liftCost_1 (Nat.lt_of_lt_of_le (by decide : 4 < 7) (Nat.le_refl 7)) (catP_of rfl hc)
theorem d_X9_liftCost_2 : decode (mB M_X9_liftCost) 2 = .ok (.iconst 0, 1) := by decide +kernel
theorem r_X9_liftCost_2 {x0 x1 x2 x3 x4 x5 x6 : Value} {st : List Value} {h : AH} : Run M_X9_liftCost 2 [x0, x1, x2, x3, x4, x5, x6] st h = Run M_X9_liftCost 3 [x0, x1, x2, x3, x4, x5, x6] (.int (nI 0) :: st) h := R_iconst d_X9_liftCost_2 (by decide)
theorem d_X9_liftCost_3 : decode (mB M_X9_liftCost) 3 = .ok (.istore 5, 2) := by decide +kernel
theorem r_X9_liftCost_3 {x0 x1 x2 x3 x4 x5 x6 : Value} {a : Int32} {st : List Value} {h : AH} (hc : x4.category = 1) : Run M_X9_liftCost 3 [x0, x1, x2, x3, x4, x5, x6] (.int a :: st) h = Run M_X9_liftCost 5 [x0, x1, x2, x3, x4, .int a, x6] st h := R_istore d_X9_liftCost_3 (Nat.lt_of_lt_of_le (by decide : 5 < 7) (Nat.le_refl 7)) (catP_of rfl hc)
theorem d_X9_liftCost_5 : decode (mB M_X9_liftCost) 5 = .ok (.iload 5, 2) := by decide +kernel
theorem r_X9_liftCost_5 {x0 x1 x2 x3 x4 x6 : Value} {a : Int32} {st : List Value} {h : AH} : Run M_X9_liftCost 5 [x0, x1, x2, x3, x4, .int a, x6] st h = Run M_X9_liftCost 7 [x0, x1, x2, x3, x4, .int a, x6] (.int a :: st) h := R_iload d_X9_liftCost_5 rfl
theorem d_X9_liftCost_7 : decode (mB M_X9_liftCost) 7 = .ok (.sipush 420, 3) := by decide +kernel
theorem r_X9_liftCost_7 {x0 x1 x2 x3 x4 x5 x6 : Value} {st : List Value} {h : AH} : Run M_X9_liftCost 7 [x0, x1, x2, x3, x4, x5, x6] st h = Run M_X9_liftCost 10 [x0, x1, x2, x3, x4, x5, x6] (.int (nI 420) :: st) h := R_sipush d_X9_liftCost_7 (by decide)
theorem d_X9_liftCost_10 : decode (mB M_X9_liftCost) 10 = .ok (.if_icmp .gt 58, 3) := by decide +kernel
theorem r_X9_liftCost_10 {x0 x1 x2 x3 x4 x5 x6 : Value} {x y : Int32} {st : List Value} {h : AH} : Run M_X9_liftCost 10 [x0, x1, x2, x3, x4, x5, x6] (.int y :: .int x :: st) h = if y < x then Run M_X9_liftCost 68 [x0, x1, x2, x3, x4, x5, x6] st h else Run M_X9_liftCost 13 [x0, x1, x2, x3, x4, x5, x6] st h := R_icmp_gt d_X9_liftCost_10 (by decide)
theorem d_X9_liftCost_13 : decode (mB M_X9_liftCost) 13 = .ok (.aload_n 0, 1) := by decide +kernel
theorem r_X9_liftCost_13 {x1 x2 x3 x4 x5 x6 : Value} {a : Nat} {st : List Value} {h : AH} : Run M_X9_liftCost 13 [.ref a, x1, x2, x3, x4, x5, x6] st h = Run M_X9_liftCost 14 [.ref a, x1, x2, x3, x4, x5, x6] (.ref a :: st) h := R_aload_n d_X9_liftCost_13 rfl
theorem d_X9_liftCost_14 : decode (mB M_X9_liftCost) 14 = .ok (.getfield 7, 3) := by decide +kernel
theorem r_X9_liftCost_14 {x0 x1 x2 x3 x4 x5 x6 : Value} {a : Nat} {st : List Value} {h : AH} : Run M_X9_liftCost 14 [x0, x1, x2, x3, x4, x5, x6] (.ref a :: st) h = if (gF h a 9 0).isSome = true then Run M_X9_liftCost 17 [x0, x1, x2, x3, x4, x5, x6] ((gF h a 9 0).getD .null :: st) h else none := R_getfield d_X9_liftCost_14 rfl
theorem d_X9_liftCost_17 : decode (mB M_X9_liftCost) 17 = .ok (.iconst 2, 1) := by decide +kernel
theorem r_X9_liftCost_17 {x0 x1 x2 x3 x4 x5 x6 : Value} {st : List Value} {h : AH} : Run M_X9_liftCost 17 [x0, x1, x2, x3, x4, x5, x6] st h = Run M_X9_liftCost 18 [x0, x1, x2, x3, x4, x5, x6] (.int (nI 2) :: st) h := R_iconst d_X9_liftCost_17 (by decide)
theorem d_X9_liftCost_18 : decode (mB M_X9_liftCost) 18 = .ok (.iaload, 1) := by decide +kernel
theorem r_X9_liftCost_18 {x0 x1 x2 x3 x4 x5 x6 : Value} {a : Nat} {i : Int32} {st : List Value} {h : AH} : Run M_X9_liftCost 18 [x0, x1, x2, x3, x4, x5, x6] (.int i :: .ref a :: st) h = if (gI 0 h a i).isSome = true then Run M_X9_liftCost 19 [x0, x1, x2, x3, x4, x5, x6] (.int ((gI 0 h a i).getD 0) :: st) h else none := R_iaload d_X9_liftCost_18
theorem d_X9_liftCost_19 : decode (mB M_X9_liftCost) 19 = .ok (.iconst 0, 1) := by decide +kernel
theorem r_X9_liftCost_19 {x0 x1 x2 x3 x4 x5 x6 : Value} {st : List Value} {h : AH} : Run M_X9_liftCost 19 [x0, x1, x2, x3, x4, x5, x6] st h = Run M_X9_liftCost 20 [x0, x1, x2, x3, x4, x5, x6] (.int (nI 0) :: st) h := R_iconst d_X9_liftCost_19 (by decide)
theorem d_X9_liftCost_20 : decode (mB M_X9_liftCost) 20 = .ok (.iload 5, 2) := by decide +kernel
theorem r_X9_liftCost_20 {x0 x1 x2 x3 x4 x6 : Value} {a : Int32} {st : List Value} {h : AH} : Run M_X9_liftCost 20 [x0, x1, x2, x3, x4, .int a, x6] st h = Run M_X9_liftCost 22 [x0, x1, x2, x3, x4, .int a, x6] (.int a :: st) h := R_iload d_X9_liftCost_20 rfl
theorem d_X9_liftCost_22 : decode (mB M_X9_liftCost) 22 = .ok (.iload_n 1, 1) := by decide +kernel
theorem r_X9_liftCost_22 {x0 x2 x3 x4 x5 x6 : Value} {a : Int32} {st : List Value} {h : AH} : Run M_X9_liftCost 22 [x0, .int a, x2, x3, x4, x5, x6] st h = Run M_X9_liftCost 23 [x0, .int a, x2, x3, x4, x5, x6] (.int a :: st) h := R_iload_n d_X9_liftCost_22 rfl
theorem d_X9_liftCost_23 : decode (mB M_X9_liftCost) 23 = .ok (.isub, 1) := by decide +kernel
theorem r_X9_liftCost_23 {x0 x1 x2 x3 x4 x5 x6 : Value} {x y : Int32} {st : List Value} {h : AH} : Run M_X9_liftCost 23 [x0, x1, x2, x3, x4, x5, x6] (.int y :: .int x :: st) h = Run M_X9_liftCost 24 [x0, x1, x2, x3, x4, x5, x6] (.int (x - y) :: st) h := R_isub d_X9_liftCost_23
theorem d_X9_liftCost_24 : decode (mB M_X9_liftCost) 24 = .ok (.invokestatic 133, 3) := by decide +kernel
theorem r_X9_liftCost_24 {x0 x1 x2 x3 x4 x5 x6 : Value} {p0 : Int32} {p1 : Int32} {w0 : Value} {h : AH} : Run M_X9_liftCost 24 [x0, x1, x2, x3, x4, x5, x6] (.int p1 :: .int p0 :: [w0]) h = if (Call M_X9_most h [.int p0, .int p1]).isSome = true then Run M_X9_liftCost 27 [x0, x1, x2, x3, x4, x5, x6] (rL (Call M_X9_most h [.int p0, .int p1]) ++ [w0]) (cH (Call M_X9_most h [.int p0, .int p1])) else none := R_stat d_X9_liftCost_24 rfl rfl rfl rfl (Nat.le_of_ble_eq_true rfl)
theorem d_X9_liftCost_27 : decode (mB M_X9_liftCost) 27 = .ok (.imul, 1) := by decide +kernel
theorem r_X9_liftCost_27 {x0 x1 x2 x3 x4 x5 x6 : Value} {x y : Int32} {st : List Value} {h : AH} : Run M_X9_liftCost 27 [x0, x1, x2, x3, x4, x5, x6] (.int y :: .int x :: st) h = Run M_X9_liftCost 28 [x0, x1, x2, x3, x4, x5, x6] (.int (x * y) :: st) h := R_imul d_X9_liftCost_27
theorem d_X9_liftCost_28 : decode (mB M_X9_liftCost) 28 = .ok (.aload_n 0, 1) := by decide +kernel
theorem r_X9_liftCost_28 {x1 x2 x3 x4 x5 x6 : Value} {a : Nat} {st : List Value} {h : AH} : Run M_X9_liftCost 28 [.ref a, x1, x2, x3, x4, x5, x6] st h = Run M_X9_liftCost 29 [.ref a, x1, x2, x3, x4, x5, x6] (.ref a :: st) h := R_aload_n d_X9_liftCost_28 rfl
theorem d_X9_liftCost_29 : decode (mB M_X9_liftCost) 29 = .ok (.getfield 7, 3) := by decide +kernel
theorem r_X9_liftCost_29 {x0 x1 x2 x3 x4 x5 x6 : Value} {a : Nat} {st : List Value} {h : AH} : Run M_X9_liftCost 29 [x0, x1, x2, x3, x4, x5, x6] (.ref a :: st) h = if (gF h a 9 0).isSome = true then Run M_X9_liftCost 32 [x0, x1, x2, x3, x4, x5, x6] ((gF h a 9 0).getD .null :: st) h else none := R_getfield d_X9_liftCost_29 rfl
theorem d_X9_liftCost_32 : decode (mB M_X9_liftCost) 32 = .ok (.iconst 1, 1) := by decide +kernel
theorem r_X9_liftCost_32 {x0 x1 x2 x3 x4 x5 x6 : Value} {st : List Value} {h : AH} : Run M_X9_liftCost 32 [x0, x1, x2, x3, x4, x5, x6] st h = Run M_X9_liftCost 33 [x0, x1, x2, x3, x4, x5, x6] (.int (nI 1) :: st) h := R_iconst d_X9_liftCost_32 (by decide)
theorem d_X9_liftCost_33 : decode (mB M_X9_liftCost) 33 = .ok (.iaload, 1) := by decide +kernel
theorem r_X9_liftCost_33 {x0 x1 x2 x3 x4 x5 x6 : Value} {a : Nat} {i : Int32} {st : List Value} {h : AH} : Run M_X9_liftCost 33 [x0, x1, x2, x3, x4, x5, x6] (.int i :: .ref a :: st) h = if (gI 0 h a i).isSome = true then Run M_X9_liftCost 34 [x0, x1, x2, x3, x4, x5, x6] (.int ((gI 0 h a i).getD 0) :: st) h else none := R_iaload d_X9_liftCost_33
theorem d_X9_liftCost_34 : decode (mB M_X9_liftCost) 34 = .ok (.iconst 0, 1) := by decide +kernel
theorem r_X9_liftCost_34 {x0 x1 x2 x3 x4 x5 x6 : Value} {st : List Value} {h : AH} : Run M_X9_liftCost 34 [x0, x1, x2, x3, x4, x5, x6] st h = Run M_X9_liftCost 35 [x0, x1, x2, x3, x4, x5, x6] (.int (nI 0) :: st) h := R_iconst d_X9_liftCost_34 (by decide)
theorem d_X9_liftCost_35 : decode (mB M_X9_liftCost) 35 = .ok (.iload_n 1, 1) := by decide +kernel
theorem r_X9_liftCost_35 {x0 x2 x3 x4 x5 x6 : Value} {a : Int32} {st : List Value} {h : AH} : Run M_X9_liftCost 35 [x0, .int a, x2, x3, x4, x5, x6] st h = Run M_X9_liftCost 36 [x0, .int a, x2, x3, x4, x5, x6] (.int a :: st) h := R_iload_n d_X9_liftCost_35 rfl
theorem d_X9_liftCost_36 : decode (mB M_X9_liftCost) 36 = .ok (.iload_n 2, 1) := by decide +kernel
theorem r_X9_liftCost_36 {x0 x1 x3 x4 x5 x6 : Value} {a : Int32} {st : List Value} {h : AH} : Run M_X9_liftCost 36 [x0, x1, .int a, x3, x4, x5, x6] st h = Run M_X9_liftCost 37 [x0, x1, .int a, x3, x4, x5, x6] (.int a :: st) h := R_iload_n d_X9_liftCost_36 rfl
theorem d_X9_liftCost_37 : decode (mB M_X9_liftCost) 37 = .ok (.iadd, 1) := by decide +kernel
theorem r_X9_liftCost_37 {x0 x1 x2 x3 x4 x5 x6 : Value} {x y : Int32} {st : List Value} {h : AH} : Run M_X9_liftCost 37 [x0, x1, x2, x3, x4, x5, x6] (.int y :: .int x :: st) h = Run M_X9_liftCost 38 [x0, x1, x2, x3, x4, x5, x6] (.int (x + y) :: st) h := R_iadd d_X9_liftCost_37
theorem d_X9_liftCost_38 : decode (mB M_X9_liftCost) 38 = .ok (.iload 5, 2) := by decide +kernel
theorem r_X9_liftCost_38 {x0 x1 x2 x3 x4 x6 : Value} {a : Int32} {st : List Value} {h : AH} : Run M_X9_liftCost 38 [x0, x1, x2, x3, x4, .int a, x6] st h = Run M_X9_liftCost 40 [x0, x1, x2, x3, x4, .int a, x6] (.int a :: st) h := R_iload d_X9_liftCost_38 rfl
theorem d_X9_liftCost_40 : decode (mB M_X9_liftCost) 40 = .ok (.isub, 1) := by decide +kernel
theorem r_X9_liftCost_40 {x0 x1 x2 x3 x4 x5 x6 : Value} {x y : Int32} {st : List Value} {h : AH} : Run M_X9_liftCost 40 [x0, x1, x2, x3, x4, x5, x6] (.int y :: .int x :: st) h = Run M_X9_liftCost 41 [x0, x1, x2, x3, x4, x5, x6] (.int (x - y) :: st) h := R_isub d_X9_liftCost_40
theorem d_X9_liftCost_41 : decode (mB M_X9_liftCost) 41 = .ok (.invokestatic 133, 3) := by decide +kernel
theorem r_X9_liftCost_41 {x0 x1 x2 x3 x4 x5 x6 : Value} {p0 : Int32} {p1 : Int32} {w0 w1 : Value} {h : AH} : Run M_X9_liftCost 41 [x0, x1, x2, x3, x4, x5, x6] (.int p1 :: .int p0 :: [w0, w1]) h = if (Call M_X9_most h [.int p0, .int p1]).isSome = true then Run M_X9_liftCost 44 [x0, x1, x2, x3, x4, x5, x6] (rL (Call M_X9_most h [.int p0, .int p1]) ++ [w0, w1]) (cH (Call M_X9_most h [.int p0, .int p1])) else none := R_stat d_X9_liftCost_41 rfl rfl rfl rfl (Nat.le_of_ble_eq_true rfl)
theorem d_X9_liftCost_44 : decode (mB M_X9_liftCost) 44 = .ok (.imul, 1) := by decide +kernel
theorem r_X9_liftCost_44 {x0 x1 x2 x3 x4 x5 x6 : Value} {x y : Int32} {st : List Value} {h : AH} : Run M_X9_liftCost 44 [x0, x1, x2, x3, x4, x5, x6] (.int y :: .int x :: st) h = Run M_X9_liftCost 45 [x0, x1, x2, x3, x4, x5, x6] (.int (x * y) :: st) h := R_imul d_X9_liftCost_44
theorem d_X9_liftCost_45 : decode (mB M_X9_liftCost) 45 = .ok (.iadd, 1) := by decide +kernel
theorem r_X9_liftCost_45 {x0 x1 x2 x3 x4 x5 x6 : Value} {x y : Int32} {st : List Value} {h : AH} : Run M_X9_liftCost 45 [x0, x1, x2, x3, x4, x5, x6] (.int y :: .int x :: st) h = Run M_X9_liftCost 46 [x0, x1, x2, x3, x4, x5, x6] (.int (x + y) :: st) h := R_iadd d_X9_liftCost_45
theorem d_X9_liftCost_46 : decode (mB M_X9_liftCost) 46 = .ok (.istore 6, 2) := by decide +kernel
theorem r_X9_liftCost_46 {x0 x1 x2 x3 x4 x5 x6 : Value} {a : Int32} {st : List Value} {h : AH} (hc : x5.category = 1) : Run M_X9_liftCost 46 [x0, x1, x2, x3, x4, x5, x6] (.int a :: st) h = Run M_X9_liftCost 48 [x0, x1, x2, x3, x4, x5, .int a] st h := R_istore d_X9_liftCost_46 (Nat.lt_of_lt_of_le (by decide : 6 < 7) (Nat.le_refl 7)) (catP_of rfl hc)
theorem d_X9_liftCost_48 : decode (mB M_X9_liftCost) 48 = .ok (.lload_n 3, 1) := by decide +kernel
theorem r_X9_liftCost_48 {x0 x1 x2 x4 x5 x6 : Value} {a : Int64} {st : List Value} {h : AH} : Run M_X9_liftCost 48 [x0, x1, x2, .long a, x4, x5, x6] st h = Run M_X9_liftCost 49 [x0, x1, x2, .long a, x4, x5, x6] (.long a :: st) h := R_lload_n d_X9_liftCost_48 rfl
theorem d_X9_liftCost_49 : decode (mB M_X9_liftCost) 49 = .ok (.aload_n 0, 1) := by decide +kernel
theorem r_X9_liftCost_49 {x1 x2 x3 x4 x5 x6 : Value} {a : Nat} {st : List Value} {h : AH} : Run M_X9_liftCost 49 [.ref a, x1, x2, x3, x4, x5, x6] st h = Run M_X9_liftCost 50 [.ref a, x1, x2, x3, x4, x5, x6] (.ref a :: st) h := R_aload_n d_X9_liftCost_49 rfl
theorem d_X9_liftCost_50 : decode (mB M_X9_liftCost) 50 = .ok (.getfield 69, 3) := by decide +kernel
theorem r_X9_liftCost_50 {x0 x1 x2 x3 x4 x5 x6 : Value} {a : Nat} {st : List Value} {h : AH} : Run M_X9_liftCost 50 [x0, x1, x2, x3, x4, x5, x6] (.ref a :: st) h = if (gF h a 9 34).isSome = true then Run M_X9_liftCost 53 [x0, x1, x2, x3, x4, x5, x6] ((gF h a 9 34).getD .null :: st) h else none := R_getfield d_X9_liftCost_50 rfl
theorem d_X9_liftCost_53 : decode (mB M_X9_liftCost) 53 = .ok (.iload 5, 2) := by decide +kernel
theorem r_X9_liftCost_53 {x0 x1 x2 x3 x4 x6 : Value} {a : Int32} {st : List Value} {h : AH} : Run M_X9_liftCost 53 [x0, x1, x2, x3, x4, .int a, x6] st h = Run M_X9_liftCost 55 [x0, x1, x2, x3, x4, .int a, x6] (.int a :: st) h := R_iload d_X9_liftCost_53 rfl
theorem d_X9_liftCost_55 : decode (mB M_X9_liftCost) 55 = .ok (.laload, 1) := by decide +kernel
theorem r_X9_liftCost_55 {x0 x1 x2 x3 x4 x5 x6 : Value} {a : Nat} {i : Int32} {st : List Value} {h : AH} : Run M_X9_liftCost 55 [x0, x1, x2, x3, x4, x5, x6] (.int i :: .ref a :: st) h = if (gJ h a i).isSome = true then Run M_X9_liftCost 56 [x0, x1, x2, x3, x4, x5, x6] (.long ((gJ h a i).getD 0) :: st) h else none := R_laload d_X9_liftCost_55
theorem d_X9_liftCost_56 : decode (mB M_X9_liftCost) 56 = .ok (.iload 6, 2) := by decide +kernel
theorem r_X9_liftCost_56 {x0 x1 x2 x3 x4 x5 : Value} {a : Int32} {st : List Value} {h : AH} : Run M_X9_liftCost 56 [x0, x1, x2, x3, x4, x5, .int a] st h = Run M_X9_liftCost 58 [x0, x1, x2, x3, x4, x5, .int a] (.int a :: st) h := R_iload d_X9_liftCost_56 rfl
theorem d_X9_liftCost_58 : decode (mB M_X9_liftCost) 58 = .ok (.i2l, 1) := by decide +kernel
theorem r_X9_liftCost_58 {x0 x1 x2 x3 x4 x5 x6 : Value} {x : Int32} {st : List Value} {h : AH} : Run M_X9_liftCost 58 [x0, x1, x2, x3, x4, x5, x6] (.int x :: st) h = Run M_X9_liftCost 59 [x0, x1, x2, x3, x4, x5, x6] (.long x.toInt64 :: st) h := R_i2l d_X9_liftCost_58
theorem d_X9_liftCost_59 : decode (mB M_X9_liftCost) 59 = .ok (.lmul, 1) := by decide +kernel
theorem r_X9_liftCost_59 {x0 x1 x2 x3 x4 x5 x6 : Value} {x y : Int64} {st : List Value} {h : AH} : Run M_X9_liftCost 59 [x0, x1, x2, x3, x4, x5, x6] (.long y :: .long x :: st) h = Run M_X9_liftCost 60 [x0, x1, x2, x3, x4, x5, x6] (.long (x * y) :: st) h := R_lmul d_X9_liftCost_59
theorem d_X9_liftCost_60 : decode (mB M_X9_liftCost) 60 = .ok (.ladd, 1) := by decide +kernel
theorem r_X9_liftCost_60 {x0 x1 x2 x3 x4 x5 x6 : Value} {x y : Int64} {st : List Value} {h : AH} : Run M_X9_liftCost 60 [x0, x1, x2, x3, x4, x5, x6] (.long y :: .long x :: st) h = Run M_X9_liftCost 61 [x0, x1, x2, x3, x4, x5, x6] (.long (x + y) :: st) h := R_ladd d_X9_liftCost_60
theorem d_X9_liftCost_61 : decode (mB M_X9_liftCost) 61 = .ok (.lstore_n 3, 1) := by decide +kernel
theorem r_X9_liftCost_61 {x0 x1 x2 x3 x4 x5 x6 : Value} {a : Int64} {st : List Value} {h : AH} (hc : x2.category = 1) : Run M_X9_liftCost 61 [x0, x1, x2, x3, x4, x5, x6] (.long a :: st) h = Run M_X9_liftCost 62 [x0, x1, x2, .long a, .null, x5, x6] st h := R_lstore_n d_X9_liftCost_61 (Nat.lt_of_lt_of_le (by decide : 4 < 7) (Nat.le_refl 7)) (catP_of rfl hc)
theorem d_X9_liftCost_62 : decode (mB M_X9_liftCost) 62 = .ok (.iinc 5 1, 3) := by decide +kernel
theorem r_X9_liftCost_62 {x0 x1 x2 x3 x4 x6 : Value} {a : Int32} {st : List Value} {h : AH} (hc : x4.category = 1) : Run M_X9_liftCost 62 [x0, x1, x2, x3, x4, .int a, x6] st h = Run M_X9_liftCost 65 [x0, x1, x2, x3, x4, .int (a + (nI 1)), x6] st h := R_iinc d_X9_liftCost_62 (by decide) rfl (catP_of rfl hc)
theorem d_X9_liftCost_65 : decode (mB M_X9_liftCost) 65 = .ok (.goto (-60), 3) := by decide +kernel
theorem r_X9_liftCost_65 {x0 x1 x2 x3 x4 x5 x6 : Value} {st : List Value} {h : AH} : Run M_X9_liftCost 65 [x0, x1, x2, x3, x4, x5, x6] st h = Run M_X9_liftCost 5 [x0, x1, x2, x3, x4, x5, x6] st h := R_goto d_X9_liftCost_65 (by decide)
theorem d_X9_liftCost_68 : decode (mB M_X9_liftCost) 68 = .ok (.lload_n 3, 1) := by decide +kernel
theorem r_X9_liftCost_68 {x0 x1 x2 x4 x5 x6 : Value} {a : Int64} {st : List Value} {h : AH} : Run M_X9_liftCost 68 [x0, x1, x2, .long a, x4, x5, x6] st h = Run M_X9_liftCost 69 [x0, x1, x2, .long a, x4, x5, x6] (.long a :: st) h := R_lload_n d_X9_liftCost_68 rfl
theorem d_X9_liftCost_69 : decode (mB M_X9_liftCost) 69 = .ok (.lreturn, 1) := by decide +kernel
theorem r_X9_liftCost_69 {x0 x1 x2 x3 x4 x5 x6 : Value} {v : Int64} {h : AH} : Run M_X9_liftCost 69 [x0, x1, x2, x3, x4, x5, x6] [.long v] h = some (h, some (.long v)) := R_lreturn d_X9_liftCost_69 rfl
theorem d_X9_go_0 : decode (mB M_X9_go) 0 = .ok (.iload_n 1, 1) := by decide +kernel
theorem r_X9_go_0 {x0 x2 : Value} {a : Int32} {st : List Value} {h : AH} : Run M_X9_go 0 [x0, .int a, x2] st h = Run M_X9_go 1 [x0, .int a, x2] (.int a :: st) h := R_iload_n d_X9_go_0 rfl
theorem d_X9_go_1 : decode (mB M_X9_go) 1 = .ok (.invokestatic 213, 3) := by decide +kernel
theorem r_X9_go_1 {x0 x1 x2 : Value} {p0 : Int32} {h : AH} : Run M_X9_go 1 [x0, x1, x2] (.int p0 :: []) h = if (Call M_X9_isTenth h [.int p0]).isSome = true then Run M_X9_go 4 [x0, x1, x2] (rL (Call M_X9_isTenth h [.int p0]) ++ []) (cH (Call M_X9_isTenth h [.int p0])) else none := R_stat d_X9_go_1 rfl rfl rfl rfl (Nat.le_of_ble_eq_true rfl)
theorem d_X9_go_4 : decode (mB M_X9_go) 4 = .ok (.ifCond .eq 12, 3) := by decide +kernel
theorem r_X9_go_4 {x0 x1 x2 : Value} {x : Int32} {st : List Value} {h : AH} : Run M_X9_go 4 [x0, x1, x2] (.int x :: st) h = if x = nI 0 then Run M_X9_go 16 [x0, x1, x2] st h else Run M_X9_go 7 [x0, x1, x2] st h := R_if_eq d_X9_go_4 (by decide)
theorem d_X9_go_7 : decode (mB M_X9_go) 7 = .ok (.iload_n 2, 1) := by decide +kernel
theorem r_X9_go_7 {x0 x1 : Value} {a : Int32} {st : List Value} {h : AH} : Run M_X9_go 7 [x0, x1, .int a] st h = Run M_X9_go 8 [x0, x1, .int a] (.int a :: st) h := R_iload_n d_X9_go_7 rfl
theorem d_X9_go_8 : decode (mB M_X9_go) 8 = .ok (.iconst 0, 1) := by decide +kernel
theorem r_X9_go_8 {x0 x1 x2 : Value} {st : List Value} {h : AH} : Run M_X9_go 8 [x0, x1, x2] st h = Run M_X9_go 9 [x0, x1, x2] (.int (nI 0) :: st) h := R_iconst d_X9_go_8 (by decide)
theorem d_X9_go_9 : decode (mB M_X9_go) 9 = .ok (.iconst 1, 1) := by decide +kernel
theorem r_X9_go_9 {x0 x1 x2 : Value} {st : List Value} {h : AH} : Run M_X9_go 9 [x0, x1, x2] st h = Run M_X9_go 10 [x0, x1, x2] (.int (nI 1) :: st) h := R_iconst d_X9_go_9 (by decide)
theorem d_X9_go_10 : decode (mB M_X9_go) 10 = .ok (.invokestatic 85, 3) := by decide +kernel
theorem r_X9_go_10 {x0 x1 x2 : Value} {p0 : Int32} {p1 : Int32} {p2 : Int32} {h : AH} : Run M_X9_go 10 [x0, x1, x2] (.int p2 :: .int p1 :: .int p0 :: []) h = if (Call M_X9_in h [.int p0, .int p1, .int p2]).isSome = true then Run M_X9_go 13 [x0, x1, x2] (rL (Call M_X9_in h [.int p0, .int p1, .int p2]) ++ []) (cH (Call M_X9_in h [.int p0, .int p1, .int p2])) else none := R_stat d_X9_go_10 rfl rfl rfl rfl (Nat.le_of_ble_eq_true rfl)
theorem d_X9_go_13 : decode (mB M_X9_go) 13 = .ok (.ifCond .ne 7, 3) := by decide +kernel
theorem r_X9_go_13 {x0 x1 x2 : Value} {x : Int32} {st : List Value} {h : AH} : Run M_X9_go 13 [x0, x1, x2] (.int x :: st) h = if x = nI 0 then Run M_X9_go 16 [x0, x1, x2] st h else Run M_X9_go 20 [x0, x1, x2] st h := R_if_ne d_X9_go_13 (by decide)
theorem d_X9_go_16 : decode (mB M_X9_go) 16 = .ok (.ldc2_w 216, 3) := by decide +kernel
theorem r_X9_go_16 {x0 x1 x2 : Value} {st : List Value} {h : AH} : Run M_X9_go 16 [x0, x1, x2] st h = Run M_X9_go 19 [x0, x1, x2] (.long (-1000000002) :: st) h := R_ldc2_w d_X9_go_16 (by decide)
theorem d_X9_go_19 : decode (mB M_X9_go) 19 = .ok (.lreturn, 1) := by decide +kernel
theorem r_X9_go_19 {x0 x1 x2 : Value} {v : Int64} {h : AH} : Run M_X9_go 19 [x0, x1, x2] [.long v] h = some (h, some (.long v)) := R_lreturn d_X9_go_19 rfl
theorem d_X9_go_20 : decode (mB M_X9_go) 20 = .ok (.aload_n 0, 1) := by decide +kernel
theorem r_X9_go_20 {x1 x2 : Value} {a : Nat} {st : List Value} {h : AH} : Run M_X9_go 20 [.ref a, x1, x2] st h = Run M_X9_go 21 [.ref a, x1, x2] (.ref a :: st) h := R_aload_n d_X9_go_20 rfl
theorem d_X9_go_21 : decode (mB M_X9_go) 21 = .ok (.aload_n 0, 1) := by decide +kernel
theorem r_X9_go_21 {x1 x2 : Value} {a : Nat} {st : List Value} {h : AH} : Run M_X9_go 21 [.ref a, x1, x2] st h = Run M_X9_go 22 [.ref a, x1, x2] (.ref a :: st) h := R_aload_n d_X9_go_21 rfl
theorem d_X9_go_22 : decode (mB M_X9_go) 22 = .ok (.getfield 82, 3) := by decide +kernel
theorem r_X9_go_22 {x0 x1 x2 : Value} {a : Nat} {st : List Value} {h : AH} : Run M_X9_go 22 [x0, x1, x2] (.ref a :: st) h = if (gF h a 9 3).isSome = true then Run M_X9_go 25 [x0, x1, x2] ((gF h a 9 3).getD .null :: st) h else none := R_getfield d_X9_go_22 rfl
theorem d_X9_go_25 : decode (mB M_X9_go) 25 = .ok (.invokevirtual 218, 3) := by decide +kernel
theorem r_X9_go_25 {x0 x1 x2 : Value} {p0 : Int32} {a : Nat} {h : AH} : Run M_X9_go 25 [x0, x1, x2] (.int p0 :: .ref a :: []) h = if refO h 9 (some (.ref a)) = true then (if (Call M_X9_findWeights h [.ref a, .int p0]).isSome = true then Run M_X9_go 28 [x0, x1, x2] (rL (Call M_X9_findWeights h [.ref a, .int p0]) ++ []) (cH (Call M_X9_findWeights h [.ref a, .int p0])) else none) else none := R_virt d_X9_go_25 rfl rfl rfl rfl rfl (Nat.le_of_ble_eq_true rfl)
theorem d_X9_go_28 : decode (mB M_X9_go) 28 = .ok (.aload_n 0, 1) := by decide +kernel
theorem r_X9_go_28 {x1 x2 : Value} {a : Nat} {st : List Value} {h : AH} : Run M_X9_go 28 [.ref a, x1, x2] st h = Run M_X9_go 29 [.ref a, x1, x2] (.ref a :: st) h := R_aload_n d_X9_go_28 rfl
theorem d_X9_go_29 : decode (mB M_X9_go) 29 = .ok (.iload_n 1, 1) := by decide +kernel
theorem r_X9_go_29 {x0 x2 : Value} {a : Int32} {st : List Value} {h : AH} : Run M_X9_go 29 [x0, .int a, x2] st h = Run M_X9_go 30 [x0, .int a, x2] (.int a :: st) h := R_iload_n d_X9_go_29 rfl
theorem d_X9_go_30 : decode (mB M_X9_go) 30 = .ok (.invokevirtual 238, 3) := by decide +kernel
theorem r_X9_go_30 {x0 x1 x2 : Value} {p0 : Int32} {a : Nat} {h : AH} : Run M_X9_go 30 [x0, x1, x2] (.int p0 :: .ref a :: []) h = if refO h 9 (some (.ref a)) = true then (if (Call M_X9_goCost h [.ref a, .int p0]).isSome = true then Run M_X9_go 33 [x0, x1, x2] (rL (Call M_X9_goCost h [.ref a, .int p0]) ++ []) (cH (Call M_X9_goCost h [.ref a, .int p0])) else none) else none := R_virt d_X9_go_30 rfl rfl rfl rfl rfl (Nat.le_of_ble_eq_true rfl)
theorem d_X9_go_33 : decode (mB M_X9_go) 33 = .ok (.aload_n 0, 1) := by decide +kernel
theorem r_X9_go_33 {x1 x2 : Value} {a : Nat} {st : List Value} {h : AH} : Run M_X9_go 33 [.ref a, x1, x2] st h = Run M_X9_go 34 [.ref a, x1, x2] (.ref a :: st) h := R_aload_n d_X9_go_33 rfl
theorem d_X9_go_34 : decode (mB M_X9_go) 34 = .ok (.iconst 0, 1) := by decide +kernel
theorem r_X9_go_34 {x0 x1 x2 : Value} {st : List Value} {h : AH} : Run M_X9_go 34 [x0, x1, x2] st h = Run M_X9_go 35 [x0, x1, x2] (.int (nI 0) :: st) h := R_iconst d_X9_go_34 (by decide)
theorem d_X9_go_35 : decode (mB M_X9_go) 35 = .ok (.aload_n 0, 1) := by decide +kernel
theorem r_X9_go_35 {x1 x2 : Value} {a : Nat} {st : List Value} {h : AH} : Run M_X9_go 35 [.ref a, x1, x2] st h = Run M_X9_go 36 [.ref a, x1, x2] (.ref a :: st) h := R_aload_n d_X9_go_35 rfl
theorem d_X9_go_36 : decode (mB M_X9_go) 36 = .ok (.getfield 82, 3) := by decide +kernel
theorem r_X9_go_36 {x0 x1 x2 : Value} {a : Nat} {st : List Value} {h : AH} : Run M_X9_go 36 [x0, x1, x2] (.ref a :: st) h = if (gF h a 9 3).isSome = true then Run M_X9_go 39 [x0, x1, x2] ((gF h a 9 3).getD .null :: st) h else none := R_getfield d_X9_go_36 rfl
theorem d_X9_go_39 : decode (mB M_X9_go) 39 = .ok (.invokevirtual 221, 3) := by decide +kernel
theorem r_X9_go_39 {x0 x1 x2 : Value} {p0 : Int32} {p1 : Int32} {a : Nat} {w0 : Value} {h : AH} : Run M_X9_go 39 [x0, x1, x2] (.int p1 :: .int p0 :: .ref a :: [w0]) h = if refO h 9 (some (.ref a)) = true then (if (Call M_X9_whole h [.ref a, .int p0, .int p1]).isSome = true then Run M_X9_go 42 [x0, x1, x2] (rL (Call M_X9_whole h [.ref a, .int p0, .int p1]) ++ [w0]) (cH (Call M_X9_whole h [.ref a, .int p0, .int p1])) else none) else none := R_virt d_X9_go_39 rfl rfl rfl rfl rfl (Nat.le_of_ble_eq_true rfl)
theorem d_X9_go_42 : decode (mB M_X9_go) 42 = .ok (.iload_n 2, 1) := by decide +kernel
theorem r_X9_go_42 {x0 x1 : Value} {a : Int32} {st : List Value} {h : AH} : Run M_X9_go 42 [x0, x1, .int a] st h = Run M_X9_go 43 [x0, x1, .int a] (.int a :: st) h := R_iload_n d_X9_go_42 rfl
theorem d_X9_go_43 : decode (mB M_X9_go) 43 = .ok (.invokestatic 225, 3) := by decide +kernel
theorem r_X9_go_43 {x0 x1 x2 : Value} {p0 : Int64} {p1 : Int64} {p2 : Int32} {h : AH} : Run M_X9_go 43 [x0, x1, x2] (.int p2 :: .long p1 :: .long p0 :: []) h = if (Call M_X9_share h [.long p0, .long p1, .int p2]).isSome = true then Run M_X9_go 46 [x0, x1, x2] (rL (Call M_X9_share h [.long p0, .long p1, .int p2]) ++ []) (cH (Call M_X9_share h [.long p0, .long p1, .int p2])) else none := R_stat d_X9_go_43 rfl rfl rfl rfl (Nat.le_of_ble_eq_true rfl)
theorem d_X9_go_46 : decode (mB M_X9_go) 46 = .ok (.lreturn, 1) := by decide +kernel
theorem r_X9_go_46 {x0 x1 x2 : Value} {v : Int64} {h : AH} : Run M_X9_go 46 [x0, x1, x2] [.long v] h = some (h, some (.long v)) := R_lreturn d_X9_go_46 rfl
theorem d_X9_bestGo_0 : decode (mB M_X9_bestGo) 0 = .ok (.aload_n 0, 1) := by decide +kernel
theorem r_X9_bestGo_0 {x1 x2 : Value} {a : Nat} {st : List Value} {h : AH} : Run M_X9_bestGo 0 [.ref a, x1, x2] st h = Run M_X9_bestGo 1 [.ref a, x1, x2] (.ref a :: st) h := R_aload_n d_X9_bestGo_0 rfl
theorem d_X9_bestGo_1 : decode (mB M_X9_bestGo) 1 = .ok (.aload_n 0, 1) := by decide +kernel
theorem r_X9_bestGo_1 {x1 x2 : Value} {a : Nat} {st : List Value} {h : AH} : Run M_X9_bestGo 1 [.ref a, x1, x2] st h = Run M_X9_bestGo 2 [.ref a, x1, x2] (.ref a :: st) h := R_aload_n d_X9_bestGo_1 rfl
theorem d_X9_bestGo_2 : decode (mB M_X9_bestGo) 2 = .ok (.getfield 82, 3) := by decide +kernel
theorem r_X9_bestGo_2 {x0 x1 x2 : Value} {a : Nat} {st : List Value} {h : AH} : Run M_X9_bestGo 2 [x0, x1, x2] (.ref a :: st) h = if (gF h a 9 3).isSome = true then Run M_X9_bestGo 5 [x0, x1, x2] ((gF h a 9 3).getD .null :: st) h else none := R_getfield d_X9_bestGo_2 rfl
theorem d_X9_bestGo_5 : decode (mB M_X9_bestGo) 5 = .ok (.invokevirtual 218, 3) := by decide +kernel
theorem r_X9_bestGo_5 {x0 x1 x2 : Value} {p0 : Int32} {a : Nat} {h : AH} : Run M_X9_bestGo 5 [x0, x1, x2] (.int p0 :: .ref a :: []) h = if refO h 9 (some (.ref a)) = true then (if (Call M_X9_findWeights h [.ref a, .int p0]).isSome = true then Run M_X9_bestGo 8 [x0, x1, x2] (rL (Call M_X9_findWeights h [.ref a, .int p0]) ++ []) (cH (Call M_X9_findWeights h [.ref a, .int p0])) else none) else none := R_virt d_X9_bestGo_5 rfl rfl rfl rfl rfl (Nat.le_of_ble_eq_true rfl)
theorem d_X9_bestGo_8 : decode (mB M_X9_bestGo) 8 = .ok (.iconst 0, 1) := by decide +kernel
theorem r_X9_bestGo_8 {x0 x1 x2 : Value} {st : List Value} {h : AH} : Run M_X9_bestGo 8 [x0, x1, x2] st h = Run M_X9_bestGo 9 [x0, x1, x2] (.int (nI 0) :: st) h := R_iconst d_X9_bestGo_8 (by decide)
theorem d_X9_bestGo_9 : decode (mB M_X9_bestGo) 9 = .ok (.istore_n 1, 1) := by decide +kernel
theorem r_X9_bestGo_9 {x0 x1 x2 : Value} {a : Int32} {st : List Value} {h : AH} (hc : x0.category = 1) : Run M_X9_bestGo 9 [x0, x1, x2] (.int a :: st) h = Run M_X9_bestGo 10 [x0, .int a, x2] st h := R_istore_n d_X9_bestGo_9 (Nat.lt_of_lt_of_le (by decide : 1 < 3) (Nat.le_refl 3)) (catP_of rfl hc)
theorem d_X9_bestGo_10 : decode (mB M_X9_bestGo) 10 = .ok (.iconst 1, 1) := by decide +kernel
theorem r_X9_bestGo_10 {x0 x1 x2 : Value} {st : List Value} {h : AH} : Run M_X9_bestGo 10 [x0, x1, x2] st h = Run M_X9_bestGo 11 [x0, x1, x2] (.int (nI 1) :: st) h := R_iconst d_X9_bestGo_10 (by decide)
theorem d_X9_bestGo_11 : decode (mB M_X9_bestGo) 11 = .ok (.istore_n 2, 1) := by decide +kernel
theorem r_X9_bestGo_11 {x0 x1 x2 : Value} {a : Int32} {st : List Value} {h : AH} (hc : x1.category = 1) : Run M_X9_bestGo 11 [x0, x1, x2] (.int a :: st) h = Run M_X9_bestGo 12 [x0, x1, .int a] st h := R_istore_n d_X9_bestGo_11 (Nat.lt_of_lt_of_le (by decide : 2 < 3) (Nat.le_refl 3)) (catP_of rfl hc)
theorem d_X9_bestGo_12 : decode (mB M_X9_bestGo) 12 = .ok (.iload_n 2, 1) := by decide +kernel
theorem r_X9_bestGo_12 {x0 x1 : Value} {a : Int32} {st : List Value} {h : AH} : Run M_X9_bestGo 12 [x0, x1, .int a] st h = Run M_X9_bestGo 13 [x0, x1, .int a] (.int a :: st) h := R_iload_n d_X9_bestGo_12 rfl
theorem d_X9_bestGo_13 : decode (mB M_X9_bestGo) 13 = .ok (.sipush 420, 3) := by decide +kernel
theorem r_X9_bestGo_13 {x0 x1 x2 : Value} {st : List Value} {h : AH} : Run M_X9_bestGo 13 [x0, x1, x2] st h = Run M_X9_bestGo 16 [x0, x1, x2] (.int (nI 420) :: st) h := R_sipush d_X9_bestGo_13 (by decide)
theorem d_X9_bestGo_16 : decode (mB M_X9_bestGo) 16 = .ok (.if_icmp .gt 29, 3) := by decide +kernel
theorem r_X9_bestGo_16 {x0 x1 x2 : Value} {x y : Int32} {st : List Value} {h : AH} : Run M_X9_bestGo 16 [x0, x1, x2] (.int y :: .int x :: st) h = if y < x then Run M_X9_bestGo 45 [x0, x1, x2] st h else Run M_X9_bestGo 19 [x0, x1, x2] st h := R_icmp_gt d_X9_bestGo_16 (by decide)
theorem d_X9_bestGo_19 : decode (mB M_X9_bestGo) 19 = .ok (.aload_n 0, 1) := by decide +kernel
theorem r_X9_bestGo_19 {x1 x2 : Value} {a : Nat} {st : List Value} {h : AH} : Run M_X9_bestGo 19 [.ref a, x1, x2] st h = Run M_X9_bestGo 20 [.ref a, x1, x2] (.ref a :: st) h := R_aload_n d_X9_bestGo_19 rfl
theorem d_X9_bestGo_20 : decode (mB M_X9_bestGo) 20 = .ok (.iload_n 2, 1) := by decide +kernel
theorem r_X9_bestGo_20 {x0 x1 : Value} {a : Int32} {st : List Value} {h : AH} : Run M_X9_bestGo 20 [x0, x1, .int a] st h = Run M_X9_bestGo 21 [x0, x1, .int a] (.int a :: st) h := R_iload_n d_X9_bestGo_20 rfl
theorem d_X9_bestGo_21 : decode (mB M_X9_bestGo) 21 = .ok (.invokevirtual 238, 3) := by decide +kernel
theorem r_X9_bestGo_21 {x0 x1 x2 : Value} {p0 : Int32} {a : Nat} {h : AH} : Run M_X9_bestGo 21 [x0, x1, x2] (.int p0 :: .ref a :: []) h = if refO h 9 (some (.ref a)) = true then (if (Call M_X9_goCost h [.ref a, .int p0]).isSome = true then Run M_X9_bestGo 24 [x0, x1, x2] (rL (Call M_X9_goCost h [.ref a, .int p0]) ++ []) (cH (Call M_X9_goCost h [.ref a, .int p0])) else none) else none := R_virt d_X9_bestGo_21 rfl rfl rfl rfl rfl (Nat.le_of_ble_eq_true rfl)
theorem d_X9_bestGo_24 : decode (mB M_X9_bestGo) 24 = .ok (.aload_n 0, 1) := by decide +kernel
theorem r_X9_bestGo_24 {x1 x2 : Value} {a : Nat} {st : List Value} {h : AH} : Run M_X9_bestGo 24 [.ref a, x1, x2] st h = Run M_X9_bestGo 25 [.ref a, x1, x2] (.ref a :: st) h := R_aload_n d_X9_bestGo_24 rfl
theorem d_X9_bestGo_25 : decode (mB M_X9_bestGo) 25 = .ok (.iload_n 1, 1) := by decide +kernel
theorem r_X9_bestGo_25 {x0 x2 : Value} {a : Int32} {st : List Value} {h : AH} : Run M_X9_bestGo 25 [x0, .int a, x2] st h = Run M_X9_bestGo 26 [x0, .int a, x2] (.int a :: st) h := R_iload_n d_X9_bestGo_25 rfl
theorem d_X9_bestGo_26 : decode (mB M_X9_bestGo) 26 = .ok (.invokevirtual 238, 3) := by decide +kernel
theorem r_X9_bestGo_26 {x0 x1 x2 : Value} {p0 : Int32} {a : Nat} {w0 : Value} {h : AH} : Run M_X9_bestGo 26 [x0, x1, x2] (.int p0 :: .ref a :: [w0]) h = if refO h 9 (some (.ref a)) = true then (if (Call M_X9_goCost h [.ref a, .int p0]).isSome = true then Run M_X9_bestGo 29 [x0, x1, x2] (rL (Call M_X9_goCost h [.ref a, .int p0]) ++ [w0]) (cH (Call M_X9_goCost h [.ref a, .int p0])) else none) else none := R_virt d_X9_bestGo_26 rfl rfl rfl rfl rfl (Nat.le_of_ble_eq_true rfl)
theorem d_X9_bestGo_29 : decode (mB M_X9_bestGo) 29 = .ok (.lcmp, 1) := by decide +kernel
theorem r_X9_bestGo_29 {x0 x1 x2 : Value} {x y : Int64} {st : List Value} {h : AH} : Run M_X9_bestGo 29 [x0, x1, x2] (.long y :: .long x :: st) h = Run M_X9_bestGo 30 [x0, x1, x2] (.int (lg_cmp x y) :: st) h := R_lcmp d_X9_bestGo_29
theorem d_X9_bestGo_30 : decode (mB M_X9_bestGo) 30 = .ok (.ifCond .ge 7, 3) := by decide +kernel
theorem r_X9_bestGo_30 {x0 x1 x2 : Value} {x : Int32} {st : List Value} {h : AH} : Run M_X9_bestGo 30 [x0, x1, x2] (.int x :: st) h = if nI 0 ≤ x then Run M_X9_bestGo 37 [x0, x1, x2] st h else Run M_X9_bestGo 33 [x0, x1, x2] st h := R_if_ge d_X9_bestGo_30 (by decide)
theorem d_X9_bestGo_33 : decode (mB M_X9_bestGo) 33 = .ok (.iload_n 2, 1) := by decide +kernel
theorem r_X9_bestGo_33 {x0 x1 : Value} {a : Int32} {st : List Value} {h : AH} : Run M_X9_bestGo 33 [x0, x1, .int a] st h = Run M_X9_bestGo 34 [x0, x1, .int a] (.int a :: st) h := R_iload_n d_X9_bestGo_33 rfl
theorem d_X9_bestGo_34 : decode (mB M_X9_bestGo) 34 = .ok (.goto 4, 3) := by decide +kernel
theorem r_X9_bestGo_34 {x0 x1 x2 : Value} {st : List Value} {h : AH} : Run M_X9_bestGo 34 [x0, x1, x2] st h = Run M_X9_bestGo 38 [x0, x1, x2] st h := R_goto d_X9_bestGo_34 (by decide)
theorem d_X9_bestGo_37 : decode (mB M_X9_bestGo) 37 = .ok (.iload_n 1, 1) := by decide +kernel
theorem r_X9_bestGo_37 {x0 x2 : Value} {a : Int32} {st : List Value} {h : AH} : Run M_X9_bestGo 37 [x0, .int a, x2] st h = Run M_X9_bestGo 38 [x0, .int a, x2] (.int a :: st) h := R_iload_n d_X9_bestGo_37 rfl
theorem d_X9_bestGo_38 : decode (mB M_X9_bestGo) 38 = .ok (.istore_n 1, 1) := by decide +kernel
theorem r_X9_bestGo_38 {x0 x1 x2 : Value} {a : Int32} {st : List Value} {h : AH} (hc : x0.category = 1) : Run M_X9_bestGo 38 [x0, x1, x2] (.int a :: st) h = Run M_X9_bestGo 39 [x0, .int a, x2] st h := R_istore_n d_X9_bestGo_38 (Nat.lt_of_lt_of_le (by decide : 1 < 3) (Nat.le_refl 3)) (catP_of rfl hc)
theorem d_X9_bestGo_39 : decode (mB M_X9_bestGo) 39 = .ok (.iinc 2 1, 3) := by decide +kernel
theorem r_X9_bestGo_39 {x0 x1 : Value} {a : Int32} {st : List Value} {h : AH} (hc : x1.category = 1) : Run M_X9_bestGo 39 [x0, x1, .int a] st h = Run M_X9_bestGo 42 [x0, x1, .int (a + (nI 1))] st h := R_iinc d_X9_bestGo_39 (by decide) rfl (catP_of rfl hc)
theorem d_X9_bestGo_42 : decode (mB M_X9_bestGo) 42 = .ok (.goto (-30), 3) := by decide +kernel
theorem r_X9_bestGo_42 {x0 x1 x2 : Value} {st : List Value} {h : AH} : Run M_X9_bestGo 42 [x0, x1, x2] st h = Run M_X9_bestGo 12 [x0, x1, x2] st h := R_goto d_X9_bestGo_42 (by decide)
theorem d_X9_bestGo_45 : decode (mB M_X9_bestGo) 45 = .ok (.iload_n 1, 1) := by decide +kernel
theorem r_X9_bestGo_45 {x0 x2 : Value} {a : Int32} {st : List Value} {h : AH} : Run M_X9_bestGo 45 [x0, .int a, x2] st h = Run M_X9_bestGo 46 [x0, .int a, x2] (.int a :: st) h := R_iload_n d_X9_bestGo_45 rfl
theorem d_X9_bestGo_46 : decode (mB M_X9_bestGo) 46 = .ok (.ireturn, 1) := by decide +kernel
theorem r_X9_bestGo_46 {x0 x1 x2 : Value} {v : Int32} {h : AH} : Run M_X9_bestGo 46 [x0, x1, x2] [.int v] h = some (h, some (.int v)) := R_ireturn d_X9_bestGo_46 rfl rfl
theorem d_X9_lift_0 : decode (mB M_X9_lift) 0 = .ok (.iload_n 1, 1) := by decide +kernel
theorem r_X9_lift_0 {x0 x2 x3 : Value} {a : Int32} {st : List Value} {h : AH} : Run M_X9_lift 0 [x0, .int a, x2, x3] st h = Run M_X9_lift 1 [x0, .int a, x2, x3] (.int a :: st) h := R_iload_n d_X9_lift_0 rfl
theorem d_X9_lift_1 : decode (mB M_X9_lift) 1 = .ok (.invokestatic 213, 3) := by decide +kernel
theorem r_X9_lift_1 {x0 x1 x2 x3 : Value} {p0 : Int32} {h : AH} : Run M_X9_lift 1 [x0, x1, x2, x3] (.int p0 :: []) h = if (Call M_X9_isTenth h [.int p0]).isSome = true then Run M_X9_lift 4 [x0, x1, x2, x3] (rL (Call M_X9_isTenth h [.int p0]) ++ []) (cH (Call M_X9_isTenth h [.int p0])) else none := R_stat d_X9_lift_1 rfl rfl rfl rfl (Nat.le_of_ble_eq_true rfl)
theorem d_X9_lift_4 : decode (mB M_X9_lift) 4 = .ok (.ifCond .eq 22, 3) := by decide +kernel
theorem r_X9_lift_4 {x0 x1 x2 x3 : Value} {x : Int32} {st : List Value} {h : AH} : Run M_X9_lift 4 [x0, x1, x2, x3] (.int x :: st) h = if x = nI 0 then Run M_X9_lift 26 [x0, x1, x2, x3] st h else Run M_X9_lift 7 [x0, x1, x2, x3] st h := R_if_eq d_X9_lift_4 (by decide)
theorem d_X9_lift_7 : decode (mB M_X9_lift) 7 = .ok (.iload_n 2, 1) := by decide +kernel
theorem r_X9_lift_7 {x0 x1 x3 : Value} {a : Int32} {st : List Value} {h : AH} : Run M_X9_lift 7 [x0, x1, .int a, x3] st h = Run M_X9_lift 8 [x0, x1, .int a, x3] (.int a :: st) h := R_iload_n d_X9_lift_7 rfl
theorem d_X9_lift_8 : decode (mB M_X9_lift) 8 = .ok (.iconst 0, 1) := by decide +kernel
theorem r_X9_lift_8 {x0 x1 x2 x3 : Value} {st : List Value} {h : AH} : Run M_X9_lift 8 [x0, x1, x2, x3] st h = Run M_X9_lift 9 [x0, x1, x2, x3] (.int (nI 0) :: st) h := R_iconst d_X9_lift_8 (by decide)
theorem d_X9_lift_9 : decode (mB M_X9_lift) 9 = .ok (.bipush 60, 2) := by decide +kernel
theorem r_X9_lift_9 {x0 x1 x2 x3 : Value} {st : List Value} {h : AH} : Run M_X9_lift 9 [x0, x1, x2, x3] st h = Run M_X9_lift 11 [x0, x1, x2, x3] (.int (nI 60) :: st) h := R_bipush d_X9_lift_9 (by decide)
theorem d_X9_lift_11 : decode (mB M_X9_lift) 11 = .ok (.invokestatic 85, 3) := by decide +kernel
theorem r_X9_lift_11 {x0 x1 x2 x3 : Value} {p0 : Int32} {p1 : Int32} {p2 : Int32} {h : AH} : Run M_X9_lift 11 [x0, x1, x2, x3] (.int p2 :: .int p1 :: .int p0 :: []) h = if (Call M_X9_in h [.int p0, .int p1, .int p2]).isSome = true then Run M_X9_lift 14 [x0, x1, x2, x3] (rL (Call M_X9_in h [.int p0, .int p1, .int p2]) ++ []) (cH (Call M_X9_in h [.int p0, .int p1, .int p2])) else none := R_stat d_X9_lift_11 rfl rfl rfl rfl (Nat.le_of_ble_eq_true rfl)
theorem d_X9_lift_14 : decode (mB M_X9_lift) 14 = .ok (.ifCond .eq 12, 3) := by decide +kernel
theorem r_X9_lift_14 {x0 x1 x2 x3 : Value} {x : Int32} {st : List Value} {h : AH} : Run M_X9_lift 14 [x0, x1, x2, x3] (.int x :: st) h = if x = nI 0 then Run M_X9_lift 26 [x0, x1, x2, x3] st h else Run M_X9_lift 17 [x0, x1, x2, x3] st h := R_if_eq d_X9_lift_14 (by decide)
theorem d_X9_lift_17 : decode (mB M_X9_lift) 17 = .ok (.iload_n 3, 1) := by decide +kernel
theorem r_X9_lift_17 {x0 x1 x2 : Value} {a : Int32} {st : List Value} {h : AH} : Run M_X9_lift 17 [x0, x1, x2, .int a] st h = Run M_X9_lift 18 [x0, x1, x2, .int a] (.int a :: st) h := R_iload_n d_X9_lift_17 rfl
theorem d_X9_lift_18 : decode (mB M_X9_lift) 18 = .ok (.iconst 0, 1) := by decide +kernel
theorem r_X9_lift_18 {x0 x1 x2 x3 : Value} {st : List Value} {h : AH} : Run M_X9_lift 18 [x0, x1, x2, x3] st h = Run M_X9_lift 19 [x0, x1, x2, x3] (.int (nI 0) :: st) h := R_iconst d_X9_lift_18 (by decide)
theorem d_X9_lift_19 : decode (mB M_X9_lift) 19 = .ok (.iconst 1, 1) := by decide +kernel
theorem r_X9_lift_19 {x0 x1 x2 x3 : Value} {st : List Value} {h : AH} : Run M_X9_lift 19 [x0, x1, x2, x3] st h = Run M_X9_lift 20 [x0, x1, x2, x3] (.int (nI 1) :: st) h := R_iconst d_X9_lift_19 (by decide)
theorem d_X9_lift_20 : decode (mB M_X9_lift) 20 = .ok (.invokestatic 85, 3) := by decide +kernel
theorem r_X9_lift_20 {x0 x1 x2 x3 : Value} {p0 : Int32} {p1 : Int32} {p2 : Int32} {h : AH} : Run M_X9_lift 20 [x0, x1, x2, x3] (.int p2 :: .int p1 :: .int p0 :: []) h = if (Call M_X9_in h [.int p0, .int p1, .int p2]).isSome = true then Run M_X9_lift 23 [x0, x1, x2, x3] (rL (Call M_X9_in h [.int p0, .int p1, .int p2]) ++ []) (cH (Call M_X9_in h [.int p0, .int p1, .int p2])) else none := R_stat d_X9_lift_20 rfl rfl rfl rfl (Nat.le_of_ble_eq_true rfl)
theorem d_X9_lift_23 : decode (mB M_X9_lift) 23 = .ok (.ifCond .ne 7, 3) := by decide +kernel
theorem r_X9_lift_23 {x0 x1 x2 x3 : Value} {x : Int32} {st : List Value} {h : AH} : Run M_X9_lift 23 [x0, x1, x2, x3] (.int x :: st) h = if x = nI 0 then Run M_X9_lift 26 [x0, x1, x2, x3] st h else Run M_X9_lift 30 [x0, x1, x2, x3] st h := R_if_ne d_X9_lift_23 (by decide)
theorem d_X9_lift_26 : decode (mB M_X9_lift) 26 = .ok (.ldc2_w 216, 3) := by decide +kernel
theorem r_X9_lift_26 {x0 x1 x2 x3 : Value} {st : List Value} {h : AH} : Run M_X9_lift 26 [x0, x1, x2, x3] st h = Run M_X9_lift 29 [x0, x1, x2, x3] (.long (-1000000002) :: st) h := R_ldc2_w d_X9_lift_26 (by decide)
theorem d_X9_lift_29 : decode (mB M_X9_lift) 29 = .ok (.lreturn, 1) := by decide +kernel
theorem r_X9_lift_29 {x0 x1 x2 x3 : Value} {v : Int64} {h : AH} : Run M_X9_lift 29 [x0, x1, x2, x3] [.long v] h = some (h, some (.long v)) := R_lreturn d_X9_lift_29 rfl
theorem d_X9_lift_30 : decode (mB M_X9_lift) 30 = .ok (.aload_n 0, 1) := by decide +kernel
theorem r_X9_lift_30 {x1 x2 x3 : Value} {a : Nat} {st : List Value} {h : AH} : Run M_X9_lift 30 [.ref a, x1, x2, x3] st h = Run M_X9_lift 31 [.ref a, x1, x2, x3] (.ref a :: st) h := R_aload_n d_X9_lift_30 rfl
theorem d_X9_lift_31 : decode (mB M_X9_lift) 31 = .ok (.aload_n 0, 1) := by decide +kernel
theorem r_X9_lift_31 {x1 x2 x3 : Value} {a : Nat} {st : List Value} {h : AH} : Run M_X9_lift 31 [.ref a, x1, x2, x3] st h = Run M_X9_lift 32 [.ref a, x1, x2, x3] (.ref a :: st) h := R_aload_n d_X9_lift_31 rfl
theorem d_X9_lift_32 : decode (mB M_X9_lift) 32 = .ok (.getfield 82, 3) := by decide +kernel
theorem r_X9_lift_32 {x0 x1 x2 x3 : Value} {a : Nat} {st : List Value} {h : AH} : Run M_X9_lift 32 [x0, x1, x2, x3] (.ref a :: st) h = if (gF h a 9 3).isSome = true then Run M_X9_lift 35 [x0, x1, x2, x3] ((gF h a 9 3).getD .null :: st) h else none := R_getfield d_X9_lift_32 rfl
theorem d_X9_lift_35 : decode (mB M_X9_lift) 35 = .ok (.invokevirtual 218, 3) := by decide +kernel
theorem r_X9_lift_35 {x0 x1 x2 x3 : Value} {p0 : Int32} {a : Nat} {h : AH} : Run M_X9_lift 35 [x0, x1, x2, x3] (.int p0 :: .ref a :: []) h = if refO h 9 (some (.ref a)) = true then (if (Call M_X9_findWeights h [.ref a, .int p0]).isSome = true then Run M_X9_lift 38 [x0, x1, x2, x3] (rL (Call M_X9_findWeights h [.ref a, .int p0]) ++ []) (cH (Call M_X9_findWeights h [.ref a, .int p0])) else none) else none := R_virt d_X9_lift_35 rfl rfl rfl rfl rfl (Nat.le_of_ble_eq_true rfl)
theorem d_X9_lift_38 : decode (mB M_X9_lift) 38 = .ok (.aload_n 0, 1) := by decide +kernel
theorem r_X9_lift_38 {x1 x2 x3 : Value} {a : Nat} {st : List Value} {h : AH} : Run M_X9_lift 38 [.ref a, x1, x2, x3] st h = Run M_X9_lift 39 [.ref a, x1, x2, x3] (.ref a :: st) h := R_aload_n d_X9_lift_38 rfl
theorem d_X9_lift_39 : decode (mB M_X9_lift) 39 = .ok (.iload_n 1, 1) := by decide +kernel
theorem r_X9_lift_39 {x0 x2 x3 : Value} {a : Int32} {st : List Value} {h : AH} : Run M_X9_lift 39 [x0, .int a, x2, x3] st h = Run M_X9_lift 40 [x0, .int a, x2, x3] (.int a :: st) h := R_iload_n d_X9_lift_39 rfl
theorem d_X9_lift_40 : decode (mB M_X9_lift) 40 = .ok (.iload_n 2, 1) := by decide +kernel
theorem r_X9_lift_40 {x0 x1 x3 : Value} {a : Int32} {st : List Value} {h : AH} : Run M_X9_lift 40 [x0, x1, .int a, x3] st h = Run M_X9_lift 41 [x0, x1, .int a, x3] (.int a :: st) h := R_iload_n d_X9_lift_40 rfl
theorem d_X9_lift_41 : decode (mB M_X9_lift) 41 = .ok (.invokevirtual 242, 3) := by decide +kernel
theorem r_X9_lift_41 {x0 x1 x2 x3 : Value} {p0 : Int32} {p1 : Int32} {a : Nat} {h : AH} : Run M_X9_lift 41 [x0, x1, x2, x3] (.int p1 :: .int p0 :: .ref a :: []) h = if refO h 9 (some (.ref a)) = true then (if (Call M_X9_liftCost h [.ref a, .int p0, .int p1]).isSome = true then Run M_X9_lift 44 [x0, x1, x2, x3] (rL (Call M_X9_liftCost h [.ref a, .int p0, .int p1]) ++ []) (cH (Call M_X9_liftCost h [.ref a, .int p0, .int p1])) else none) else none := R_virt d_X9_lift_41 rfl rfl rfl rfl rfl (Nat.le_of_ble_eq_true rfl)
theorem d_X9_lift_44 : decode (mB M_X9_lift) 44 = .ok (.aload_n 0, 1) := by decide +kernel
theorem r_X9_lift_44 {x1 x2 x3 : Value} {a : Nat} {st : List Value} {h : AH} : Run M_X9_lift 44 [.ref a, x1, x2, x3] st h = Run M_X9_lift 45 [.ref a, x1, x2, x3] (.ref a :: st) h := R_aload_n d_X9_lift_44 rfl
theorem d_X9_lift_45 : decode (mB M_X9_lift) 45 = .ok (.iconst 0, 1) := by decide +kernel
theorem r_X9_lift_45 {x0 x1 x2 x3 : Value} {st : List Value} {h : AH} : Run M_X9_lift 45 [x0, x1, x2, x3] st h = Run M_X9_lift 46 [x0, x1, x2, x3] (.int (nI 0) :: st) h := R_iconst d_X9_lift_45 (by decide)
theorem d_X9_lift_46 : decode (mB M_X9_lift) 46 = .ok (.aload_n 0, 1) := by decide +kernel
theorem r_X9_lift_46 {x1 x2 x3 : Value} {a : Nat} {st : List Value} {h : AH} : Run M_X9_lift 46 [.ref a, x1, x2, x3] st h = Run M_X9_lift 47 [.ref a, x1, x2, x3] (.ref a :: st) h := R_aload_n d_X9_lift_46 rfl
theorem d_X9_lift_47 : decode (mB M_X9_lift) 47 = .ok (.getfield 82, 3) := by decide +kernel
theorem r_X9_lift_47 {x0 x1 x2 x3 : Value} {a : Nat} {st : List Value} {h : AH} : Run M_X9_lift 47 [x0, x1, x2, x3] (.ref a :: st) h = if (gF h a 9 3).isSome = true then Run M_X9_lift 50 [x0, x1, x2, x3] ((gF h a 9 3).getD .null :: st) h else none := R_getfield d_X9_lift_47 rfl
theorem d_X9_lift_50 : decode (mB M_X9_lift) 50 = .ok (.invokevirtual 221, 3) := by decide +kernel
theorem r_X9_lift_50 {x0 x1 x2 x3 : Value} {p0 : Int32} {p1 : Int32} {a : Nat} {w0 : Value} {h : AH} : Run M_X9_lift 50 [x0, x1, x2, x3] (.int p1 :: .int p0 :: .ref a :: [w0]) h = if refO h 9 (some (.ref a)) = true then (if (Call M_X9_whole h [.ref a, .int p0, .int p1]).isSome = true then Run M_X9_lift 53 [x0, x1, x2, x3] (rL (Call M_X9_whole h [.ref a, .int p0, .int p1]) ++ [w0]) (cH (Call M_X9_whole h [.ref a, .int p0, .int p1])) else none) else none := R_virt d_X9_lift_50 rfl rfl rfl rfl rfl (Nat.le_of_ble_eq_true rfl)
theorem d_X9_lift_53 : decode (mB M_X9_lift) 53 = .ok (.iload_n 3, 1) := by decide +kernel
theorem r_X9_lift_53 {x0 x1 x2 : Value} {a : Int32} {st : List Value} {h : AH} : Run M_X9_lift 53 [x0, x1, x2, .int a] st h = Run M_X9_lift 54 [x0, x1, x2, .int a] (.int a :: st) h := R_iload_n d_X9_lift_53 rfl
theorem d_X9_lift_54 : decode (mB M_X9_lift) 54 = .ok (.invokestatic 225, 3) := by decide +kernel
theorem r_X9_lift_54 {x0 x1 x2 x3 : Value} {p0 : Int64} {p1 : Int64} {p2 : Int32} {h : AH} : Run M_X9_lift 54 [x0, x1, x2, x3] (.int p2 :: .long p1 :: .long p0 :: []) h = if (Call M_X9_share h [.long p0, .long p1, .int p2]).isSome = true then Run M_X9_lift 57 [x0, x1, x2, x3] (rL (Call M_X9_share h [.long p0, .long p1, .int p2]) ++ []) (cH (Call M_X9_share h [.long p0, .long p1, .int p2])) else none := R_stat d_X9_lift_54 rfl rfl rfl rfl (Nat.le_of_ble_eq_true rfl)
theorem d_X9_lift_57 : decode (mB M_X9_lift) 57 = .ok (.lreturn, 1) := by decide +kernel
theorem r_X9_lift_57 {x0 x1 x2 x3 : Value} {v : Int64} {h : AH} : Run M_X9_lift 57 [x0, x1, x2, x3] [.long v] h = some (h, some (.long v)) := R_lreturn d_X9_lift_57 rfl
