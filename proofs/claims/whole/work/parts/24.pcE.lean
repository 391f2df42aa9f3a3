/-! the equations of the run, an instruction each (program: wip/whole/gen_pcs.py) -/
theorem d_X8_lookers_0 : decode (mB M_X8_lookers) 0 = .ok (.iload_n 1, 1) := by decide +kernel
theorem r_X8_lookers_0 {x0 x2 x3 x4 x5 x6 x7 : Value} {a : Int32} {st : List Value} {h : AH} : Run M_X8_lookers 0 [x0, .int a, x2, x3, x4, x5, x6, x7] st h = Run M_X8_lookers 1 [x0, .int a, x2, x3, x4, x5, x6, x7] (.int a :: st) h := R_iload_n d_X8_lookers_0 rfl
theorem d_X8_lookers_1 : decode (mB M_X8_lookers) 1 = .ok (.iconst 0, 1) := by decide +kernel
theorem r_X8_lookers_1 {x0 x1 x2 x3 x4 x5 x6 x7 : Value} {st : List Value} {h : AH} : Run M_X8_lookers 1 [x0, x1, x2, x3, x4, x5, x6, x7] st h = Run M_X8_lookers 2 [x0, x1, x2, x3, x4, x5, x6, x7] (.int (nI 0) :: st) h := R_iconst d_X8_lookers_1 (by decide)
theorem d_X8_lookers_2 : decode (mB M_X8_lookers) 2 = .ok (.bipush 30, 2) := by decide +kernel
theorem r_X8_lookers_2 {x0 x1 x2 x3 x4 x5 x6 x7 : Value} {st : List Value} {h : AH} : Run M_X8_lookers 2 [x0, x1, x2, x3, x4, x5, x6, x7] st h = Run M_X8_lookers 4 [x0, x1, x2, x3, x4, x5, x6, x7] (.int (nI 30) :: st) h := R_bipush d_X8_lookers_2 (by decide)
theorem d_X8_lookers_4 : decode (mB M_X8_lookers) 4 = .ok (.invokestatic 65, 3) := by decide +kernel
theorem r_X8_lookers_4 {x0 x1 x2 x3 x4 x5 x6 x7 : Value} {p0 : Int32} {p1 : Int32} {p2 : Int32} {h : AH} : Run M_X8_lookers 4 [x0, x1, x2, x3, x4, x5, x6, x7] (.int p2 :: .int p1 :: .int p0 :: []) h = if (Call M_X8_within h [.int p0, .int p1, .int p2]).isSome = true then Run M_X8_lookers 7 [x0, x1, x2, x3, x4, x5, x6, x7] (rL (Call M_X8_within h [.int p0, .int p1, .int p2]) ++ []) (cH (Call M_X8_within h [.int p0, .int p1, .int p2])) else none := R_stat d_X8_lookers_4 rfl rfl rfl rfl (Nat.le_of_ble_eq_true rfl)
theorem d_X8_lookers_7 : decode (mB M_X8_lookers) 7 = .ok (.ifCond .eq 12, 3) := by decide +kernel
theorem r_X8_lookers_7 {x0 x1 x2 x3 x4 x5 x6 x7 : Value} {x : Int32} {st : List Value} {h : AH} : Run M_X8_lookers 7 [x0, x1, x2, x3, x4, x5, x6, x7] (.int x :: st) h = if x = nI 0 then Run M_X8_lookers 19 [x0, x1, x2, x3, x4, x5, x6, x7] st h else Run M_X8_lookers 10 [x0, x1, x2, x3, x4, x5, x6, x7] st h := R_if_eq d_X8_lookers_7 (by decide)
theorem d_X8_lookers_10 : decode (mB M_X8_lookers) 10 = .ok (.iload_n 2, 1) := by decide +kernel
theorem r_X8_lookers_10 {x0 x1 x3 x4 x5 x6 x7 : Value} {a : Int32} {st : List Value} {h : AH} : Run M_X8_lookers 10 [x0, x1, .int a, x3, x4, x5, x6, x7] st h = Run M_X8_lookers 11 [x0, x1, .int a, x3, x4, x5, x6, x7] (.int a :: st) h := R_iload_n d_X8_lookers_10 rfl
theorem d_X8_lookers_11 : decode (mB M_X8_lookers) 11 = .ok (.iconst 0, 1) := by decide +kernel
theorem r_X8_lookers_11 {x0 x1 x2 x3 x4 x5 x6 x7 : Value} {st : List Value} {h : AH} : Run M_X8_lookers 11 [x0, x1, x2, x3, x4, x5, x6, x7] st h = Run M_X8_lookers 12 [x0, x1, x2, x3, x4, x5, x6, x7] (.int (nI 0) :: st) h := R_iconst d_X8_lookers_11 (by decide)
theorem d_X8_lookers_12 : decode (mB M_X8_lookers) 12 = .ok (.iconst 1, 1) := by decide +kernel
theorem r_X8_lookers_12 {x0 x1 x2 x3 x4 x5 x6 x7 : Value} {st : List Value} {h : AH} : Run M_X8_lookers 12 [x0, x1, x2, x3, x4, x5, x6, x7] st h = Run M_X8_lookers 13 [x0, x1, x2, x3, x4, x5, x6, x7] (.int (nI 1) :: st) h := R_iconst d_X8_lookers_12 (by decide)
theorem d_X8_lookers_13 : decode (mB M_X8_lookers) 13 = .ok (.invokestatic 65, 3) := by decide +kernel
theorem r_X8_lookers_13 {x0 x1 x2 x3 x4 x5 x6 x7 : Value} {p0 : Int32} {p1 : Int32} {p2 : Int32} {h : AH} : Run M_X8_lookers 13 [x0, x1, x2, x3, x4, x5, x6, x7] (.int p2 :: .int p1 :: .int p0 :: []) h = if (Call M_X8_within h [.int p0, .int p1, .int p2]).isSome = true then Run M_X8_lookers 16 [x0, x1, x2, x3, x4, x5, x6, x7] (rL (Call M_X8_within h [.int p0, .int p1, .int p2]) ++ []) (cH (Call M_X8_within h [.int p0, .int p1, .int p2])) else none := R_stat d_X8_lookers_13 rfl rfl rfl rfl (Nat.le_of_ble_eq_true rfl)
theorem d_X8_lookers_16 : decode (mB M_X8_lookers) 16 = .ok (.ifCond .ne 6, 3) := by decide +kernel
theorem r_X8_lookers_16 {x0 x1 x2 x3 x4 x5 x6 x7 : Value} {x : Int32} {st : List Value} {h : AH} : Run M_X8_lookers 16 [x0, x1, x2, x3, x4, x5, x6, x7] (.int x :: st) h = if x = nI 0 then Run M_X8_lookers 19 [x0, x1, x2, x3, x4, x5, x6, x7] st h else Run M_X8_lookers 22 [x0, x1, x2, x3, x4, x5, x6, x7] st h := R_if_ne d_X8_lookers_16 (by decide)
theorem d_X8_lookers_19 : decode (mB M_X8_lookers) 19 = .ok (.ldc 69, 2) := by decide +kernel
theorem r_X8_lookers_19 {x0 x1 x2 x3 x4 x5 x6 x7 : Value} {st : List Value} {h : AH} : Run M_X8_lookers 19 [x0, x1, x2, x3, x4, x5, x6, x7] st h = Run M_X8_lookers 21 [x0, x1, x2, x3, x4, x5, x6, x7] (.int (-1000000002) :: st) h := R_ldc d_X8_lookers_19 (by decide)
theorem d_X8_lookers_21 : decode (mB M_X8_lookers) 21 = .ok (.ireturn, 1) := by decide +kernel
theorem r_X8_lookers_21 {x0 x1 x2 x3 x4 x5 x6 x7 : Value} {v : Int32} {h : AH} : Run M_X8_lookers 21 [x0, x1, x2, x3, x4, x5, x6, x7] [.int v] h = some (h, some (.int v)) := R_ireturn d_X8_lookers_21 rfl rfl
theorem d_X8_lookers_22 : decode (mB M_X8_lookers) 22 = .ok (.iconst (-1), 1) := by decide +kernel
theorem r_X8_lookers_22 {x0 x1 x2 x3 x4 x5 x6 x7 : Value} {st : List Value} {h : AH} : Run M_X8_lookers 22 [x0, x1, x2, x3, x4, x5, x6, x7] st h = Run M_X8_lookers 23 [x0, x1, x2, x3, x4, x5, x6, x7] (.int (-1) :: st) h := R_iconst d_X8_lookers_22 (by decide)
theorem d_X8_lookers_23 : decode (mB M_X8_lookers) 23 = .ok (.istore_n 3, 1) := by decide +kernel
theorem r_X8_lookers_23 {x0 x1 x2 x3 x4 x5 x6 x7 : Value} {a : Int32} {st : List Value} {h : AH} (hc : x2.category = 1) : Run M_X8_lookers 23 [x0, x1, x2, x3, x4, x5, x6, x7] (.int a :: st) h = Run M_X8_lookers 24 [x0, x1, x2, .int a, x4, x5, x6, x7] st h := R_istore_n d_X8_lookers_23 (Nat.lt_of_lt_of_le (by decide : 3 < 8) (Nat.le_refl 8)) (catP_of rfl hc)
theorem d_X8_lookers_24 : decode (mB M_X8_lookers) 24 = .ok (.iconst (-1), 1) := by decide +kernel
theorem r_X8_lookers_24 {x0 x1 x2 x3 x4 x5 x6 x7 : Value} {st : List Value} {h : AH} : Run M_X8_lookers 24 [x0, x1, x2, x3, x4, x5, x6, x7] st h = Run M_X8_lookers 25 [x0, x1, x2, x3, x4, x5, x6, x7] (.int (-1) :: st) h := R_iconst d_X8_lookers_24 (by decide)
theorem d_X8_lookers_25 : decode (mB M_X8_lookers) 25 = .ok (.istore 4, 2) := by decide +kernel
theorem r_X8_lookers_25 {x0 x1 x2 x3 x4 x5 x6 x7 : Value} {a : Int32} {st : List Value} {h : AH} (hc : x3.category = 1) : Run M_X8_lookers 25 [x0, x1, x2, x3, x4, x5, x6, x7] (.int a :: st) h = Run M_X8_lookers 27 [x0, x1, x2, x3, .int a, x5, x6, x7] st h := R_istore d_X8_lookers_25 (Nat.lt_of_lt_of_le (by decide : 4 < 8) (Nat.le_refl 8)) (catP_of rfl hc)
theorem d_X8_lookers_27 : decode (mB M_X8_lookers) 27 = .ok (.iconst 0, 1) := by decide +kernel
theorem r_X8_lookers_27 {x0 x1 x2 x3 x4 x5 x6 x7 : Value} {st : List Value} {h : AH} : Run M_X8_lookers 27 [x0, x1, x2, x3, x4, x5, x6, x7] st h = Run M_X8_lookers 28 [x0, x1, x2, x3, x4, x5, x6, x7] (.int (nI 0) :: st) h := R_iconst d_X8_lookers_27 (by decide)
theorem d_X8_lookers_28 : decode (mB M_X8_lookers) 28 = .ok (.istore 5, 2) := by decide +kernel
theorem r_X8_lookers_28 {x0 x1 x2 x3 x4 x5 x6 x7 : Value} {a : Int32} {st : List Value} {h : AH} (hc : x4.category = 1) : Run M_X8_lookers 28 [x0, x1, x2, x3, x4, x5, x6, x7] (.int a :: st) h = Run M_X8_lookers 30 [x0, x1, x2, x3, x4, .int a, x6, x7] st h := R_istore d_X8_lookers_28 (Nat.lt_of_lt_of_le (by decide : 5 < 8) (Nat.le_refl 8)) (catP_of rfl hc)
theorem d_X8_lookers_30 : decode (mB M_X8_lookers) 30 = .ok (.iload 5, 2) := by decide +kernel
theorem r_X8_lookers_30 {x0 x1 x2 x3 x4 x6 x7 : Value} {a : Int32} {st : List Value} {h : AH} : Run M_X8_lookers 30 [x0, x1, x2, x3, x4, .int a, x6, x7] st h = Run M_X8_lookers 32 [x0, x1, x2, x3, x4, .int a, x6, x7] (.int a :: st) h := R_iload d_X8_lookers_30 rfl
theorem d_X8_lookers_32 : decode (mB M_X8_lookers) 32 = .ok (.aload_n 0, 1) := by decide +kernel
theorem r_X8_lookers_32 {x1 x2 x3 x4 x5 x6 x7 : Value} {a : Nat} {st : List Value} {h : AH} : Run M_X8_lookers 32 [.ref a, x1, x2, x3, x4, x5, x6, x7] st h = Run M_X8_lookers 33 [.ref a, x1, x2, x3, x4, x5, x6, x7] (.ref a :: st) h := R_aload_n d_X8_lookers_32 rfl
theorem d_X8_lookers_33 : decode (mB M_X8_lookers) 33 = .ok (.getfield 57, 3) := by decide +kernel
theorem r_X8_lookers_33 {x0 x1 x2 x3 x4 x5 x6 x7 : Value} {a : Nat} {st : List Value} {h : AH} : Run M_X8_lookers 33 [x0, x1, x2, x3, x4, x5, x6, x7] (.ref a :: st) h = if (gF h a 8 7).isSome = true then Run M_X8_lookers 36 [x0, x1, x2, x3, x4, x5, x6, x7] ((gF h a 8 7).getD .null :: st) h else none := R_getfield d_X8_lookers_33 rfl
theorem d_X8_lookers_36 : decode (mB M_X8_lookers) 36 = .ok (.invokevirtual 177, 3) := by decide +kernel
theorem r_X8_lookers_36 {x0 x1 x2 x3 x4 x5 x6 x7 : Value} {a : Nat} {w0 : Value} {h : AH} : Run M_X8_lookers 36 [x0, x1, x2, x3, x4, x5, x6, x7] (.ref a :: [w0]) h = if refO h 4 (some (.ref a)) = true then (if (Call M_X4_everyPlayer h [.ref a]).isSome = true then Run M_X8_lookers 39 [x0, x1, x2, x3, x4, x5, x6, x7] (rL (Call M_X4_everyPlayer h [.ref a]) ++ [w0]) (cH (Call M_X4_everyPlayer h [.ref a])) else none) else none := R_virt d_X8_lookers_36 rfl rfl rfl rfl rfl (Nat.le_of_ble_eq_true rfl)
theorem d_X8_lookers_39 : decode (mB M_X8_lookers) 39 = .ok (.if_icmp .gt 71, 3) := by decide +kernel
theorem r_X8_lookers_39 {x0 x1 x2 x3 x4 x5 x6 x7 : Value} {x y : Int32} {st : List Value} {h : AH} : Run M_X8_lookers 39 [x0, x1, x2, x3, x4, x5, x6, x7] (.int y :: .int x :: st) h = if y < x then Run M_X8_lookers 110 [x0, x1, x2, x3, x4, x5, x6, x7] st h else Run M_X8_lookers 42 [x0, x1, x2, x3, x4, x5, x6, x7] st h := R_icmp_gt d_X8_lookers_39 (by decide)
theorem d_X8_lookers_42 : decode (mB M_X8_lookers) 42 = .ok (.iload 5, 2) := by decide +kernel
theorem r_X8_lookers_42 {x0 x1 x2 x3 x4 x6 x7 : Value} {a : Int32} {st : List Value} {h : AH} : Run M_X8_lookers 42 [x0, x1, x2, x3, x4, .int a, x6, x7] st h = Run M_X8_lookers 44 [x0, x1, x2, x3, x4, .int a, x6, x7] (.int a :: st) h := R_iload d_X8_lookers_42 rfl
theorem d_X8_lookers_44 : decode (mB M_X8_lookers) 44 = .ok (.invokestatic 256, 3) := by decide +kernel
theorem r_X8_lookers_44 {x0 x1 x2 x3 x4 x5 x6 x7 : Value} {p0 : Int32} {h : AH} : Run M_X8_lookers 44 [x0, x1, x2, x3, x4, x5, x6, x7] (.int p0 :: []) h = if (Call M_J6_bitCount_0f7a4 h [.int p0]).isSome = true then Run M_X8_lookers 47 [x0, x1, x2, x3, x4, x5, x6, x7] (rL (Call M_J6_bitCount_0f7a4 h [.int p0]) ++ []) (cH (Call M_J6_bitCount_0f7a4 h [.int p0])) else none := R_stat d_X8_lookers_44 rfl rfl rfl rfl (Nat.le_of_ble_eq_true rfl)
theorem d_X8_lookers_47 : decode (mB M_X8_lookers) 47 = .ok (.istore 6, 2) := by decide +kernel
theorem r_X8_lookers_47 {x0 x1 x2 x3 x4 x5 x6 x7 : Value} {a : Int32} {st : List Value} {h : AH} (hc : x5.category = 1) : Run M_X8_lookers 47 [x0, x1, x2, x3, x4, x5, x6, x7] (.int a :: st) h = Run M_X8_lookers 49 [x0, x1, x2, x3, x4, x5, .int a, x7] st h := R_istore d_X8_lookers_47 (Nat.lt_of_lt_of_le (by decide : 6 < 8) (Nat.le_refl 8)) (catP_of rfl hc)
theorem d_X8_lookers_49 : decode (mB M_X8_lookers) 49 = .ok (.iload 4, 2) := by decide +kernel
theorem r_X8_lookers_49 {x0 x1 x2 x3 x5 x6 x7 : Value} {a : Int32} {st : List Value} {h : AH} : Run M_X8_lookers 49 [x0, x1, x2, x3, .int a, x5, x6, x7] st h = Run M_X8_lookers 51 [x0, x1, x2, x3, .int a, x5, x6, x7] (.int a :: st) h := R_iload d_X8_lookers_49 rfl
theorem d_X8_lookers_51 : decode (mB M_X8_lookers) 51 = .ok (.iconst (-1), 1) := by decide +kernel
theorem r_X8_lookers_51 {x0 x1 x2 x3 x4 x5 x6 x7 : Value} {st : List Value} {h : AH} : Run M_X8_lookers 51 [x0, x1, x2, x3, x4, x5, x6, x7] st h = Run M_X8_lookers 52 [x0, x1, x2, x3, x4, x5, x6, x7] (.int (-1) :: st) h := R_iconst d_X8_lookers_51 (by decide)
theorem d_X8_lookers_52 : decode (mB M_X8_lookers) 52 = .ok (.if_icmp .eq 10, 3) := by decide +kernel
theorem r_X8_lookers_52 {x0 x1 x2 x3 x4 x5 x6 x7 : Value} {x y : Int32} {st : List Value} {h : AH} : Run M_X8_lookers 52 [x0, x1, x2, x3, x4, x5, x6, x7] (.int y :: .int x :: st) h = if x = y then Run M_X8_lookers 62 [x0, x1, x2, x3, x4, x5, x6, x7] st h else Run M_X8_lookers 55 [x0, x1, x2, x3, x4, x5, x6, x7] st h := R_icmp_eq d_X8_lookers_52 (by decide)
theorem d_X8_lookers_55 : decode (mB M_X8_lookers) 55 = .ok (.iload 6, 2) := by decide +kernel
theorem r_X8_lookers_55 {x0 x1 x2 x3 x4 x5 x7 : Value} {a : Int32} {st : List Value} {h : AH} : Run M_X8_lookers 55 [x0, x1, x2, x3, x4, x5, .int a, x7] st h = Run M_X8_lookers 57 [x0, x1, x2, x3, x4, x5, .int a, x7] (.int a :: st) h := R_iload d_X8_lookers_55 rfl
theorem d_X8_lookers_57 : decode (mB M_X8_lookers) 57 = .ok (.iload 4, 2) := by decide +kernel
theorem r_X8_lookers_57 {x0 x1 x2 x3 x5 x6 x7 : Value} {a : Int32} {st : List Value} {h : AH} : Run M_X8_lookers 57 [x0, x1, x2, x3, .int a, x5, x6, x7] st h = Run M_X8_lookers 59 [x0, x1, x2, x3, .int a, x5, x6, x7] (.int a :: st) h := R_iload d_X8_lookers_57 rfl
theorem d_X8_lookers_59 : decode (mB M_X8_lookers) 59 = .ok (.if_icmp .ge 7, 3) := by decide +kernel
theorem r_X8_lookers_59 {x0 x1 x2 x3 x4 x5 x6 x7 : Value} {x y : Int32} {st : List Value} {h : AH} : Run M_X8_lookers 59 [x0, x1, x2, x3, x4, x5, x6, x7] (.int y :: .int x :: st) h = if y ≤ x then Run M_X8_lookers 66 [x0, x1, x2, x3, x4, x5, x6, x7] st h else Run M_X8_lookers 62 [x0, x1, x2, x3, x4, x5, x6, x7] st h := R_icmp_ge d_X8_lookers_59 (by decide)
theorem d_X8_lookers_62 : decode (mB M_X8_lookers) 62 = .ok (.iconst 1, 1) := by decide +kernel
theorem r_X8_lookers_62 {x0 x1 x2 x3 x4 x5 x6 x7 : Value} {st : List Value} {h : AH} : Run M_X8_lookers 62 [x0, x1, x2, x3, x4, x5, x6, x7] st h = Run M_X8_lookers 63 [x0, x1, x2, x3, x4, x5, x6, x7] (.int (nI 1) :: st) h := R_iconst d_X8_lookers_62 (by decide)
theorem d_X8_lookers_63 : decode (mB M_X8_lookers) 63 = .ok (.goto 4, 3) := by decide +kernel
theorem r_X8_lookers_63 {x0 x1 x2 x3 x4 x5 x6 x7 : Value} {st : List Value} {h : AH} : Run M_X8_lookers 63 [x0, x1, x2, x3, x4, x5, x6, x7] st h = Run M_X8_lookers 67 [x0, x1, x2, x3, x4, x5, x6, x7] st h := R_goto d_X8_lookers_63 (by decide)
theorem d_X8_lookers_66 : decode (mB M_X8_lookers) 66 = .ok (.iconst 0, 1) := by decide +kernel
theorem r_X8_lookers_66 {x0 x1 x2 x3 x4 x5 x6 x7 : Value} {st : List Value} {h : AH} : Run M_X8_lookers 66 [x0, x1, x2, x3, x4, x5, x6, x7] st h = Run M_X8_lookers 67 [x0, x1, x2, x3, x4, x5, x6, x7] (.int (nI 0) :: st) h := R_iconst d_X8_lookers_66 (by decide)
theorem d_X8_lookers_67 : decode (mB M_X8_lookers) 67 = .ok (.istore 7, 2) := by decide +kernel
theorem r_X8_lookers_67 {x0 x1 x2 x3 x4 x5 x6 x7 : Value} {a : Int32} {st : List Value} {h : AH} (hc : x6.category = 1) : Run M_X8_lookers 67 [x0, x1, x2, x3, x4, x5, x6, x7] (.int a :: st) h = Run M_X8_lookers 69 [x0, x1, x2, x3, x4, x5, x6, .int a] st h := R_istore d_X8_lookers_67 (Nat.lt_of_lt_of_le (by decide : 7 < 8) (Nat.le_refl 8)) (catP_of rfl hc)
theorem d_X8_lookers_69 : decode (mB M_X8_lookers) 69 = .ok (.iload 7, 2) := by decide +kernel
theorem r_X8_lookers_69 {x0 x1 x2 x3 x4 x5 x6 : Value} {a : Int32} {st : List Value} {h : AH} : Run M_X8_lookers 69 [x0, x1, x2, x3, x4, x5, x6, .int a] st h = Run M_X8_lookers 71 [x0, x1, x2, x3, x4, x5, x6, .int a] (.int a :: st) h := R_iload d_X8_lookers_69 rfl
theorem d_X8_lookers_71 : decode (mB M_X8_lookers) 71 = .ok (.ifCond .eq 33, 3) := by decide +kernel
theorem r_X8_lookers_71 {x0 x1 x2 x3 x4 x5 x6 x7 : Value} {x : Int32} {st : List Value} {h : AH} : Run M_X8_lookers 71 [x0, x1, x2, x3, x4, x5, x6, x7] (.int x :: st) h = if x = nI 0 then Run M_X8_lookers 104 [x0, x1, x2, x3, x4, x5, x6, x7] st h else Run M_X8_lookers 74 [x0, x1, x2, x3, x4, x5, x6, x7] st h := R_if_eq d_X8_lookers_71 (by decide)
theorem d_X8_lookers_74 : decode (mB M_X8_lookers) 74 = .ok (.aload_n 0, 1) := by decide +kernel
theorem r_X8_lookers_74 {x1 x2 x3 x4 x5 x6 x7 : Value} {a : Nat} {st : List Value} {h : AH} : Run M_X8_lookers 74 [.ref a, x1, x2, x3, x4, x5, x6, x7] st h = Run M_X8_lookers 75 [.ref a, x1, x2, x3, x4, x5, x6, x7] (.ref a :: st) h := R_aload_n d_X8_lookers_74 rfl
theorem d_X8_lookers_75 : decode (mB M_X8_lookers) 75 = .ok (.getfield 57, 3) := by decide +kernel
theorem r_X8_lookers_75 {x0 x1 x2 x3 x4 x5 x6 x7 : Value} {a : Nat} {st : List Value} {h : AH} : Run M_X8_lookers 75 [x0, x1, x2, x3, x4, x5, x6, x7] (.ref a :: st) h = if (gF h a 8 7).isSome = true then Run M_X8_lookers 78 [x0, x1, x2, x3, x4, x5, x6, x7] ((gF h a 8 7).getD .null :: st) h else none := R_getfield d_X8_lookers_75 rfl
theorem d_X8_lookers_78 : decode (mB M_X8_lookers) 78 = .ok (.aload_n 0, 1) := by decide +kernel
theorem r_X8_lookers_78 {x1 x2 x3 x4 x5 x6 x7 : Value} {a : Nat} {st : List Value} {h : AH} : Run M_X8_lookers 78 [.ref a, x1, x2, x3, x4, x5, x6, x7] st h = Run M_X8_lookers 79 [.ref a, x1, x2, x3, x4, x5, x6, x7] (.ref a :: st) h := R_aload_n d_X8_lookers_78 rfl
theorem d_X8_lookers_79 : decode (mB M_X8_lookers) 79 = .ok (.getfield 57, 3) := by decide +kernel
theorem r_X8_lookers_79 {x0 x1 x2 x3 x4 x5 x6 x7 : Value} {a : Nat} {st : List Value} {h : AH} : Run M_X8_lookers 79 [x0, x1, x2, x3, x4, x5, x6, x7] (.ref a :: st) h = if (gF h a 8 7).isSome = true then Run M_X8_lookers 82 [x0, x1, x2, x3, x4, x5, x6, x7] ((gF h a 8 7).getD .null :: st) h else none := R_getfield d_X8_lookers_79 rfl
theorem d_X8_lookers_82 : decode (mB M_X8_lookers) 82 = .ok (.getfield 92, 3) := by decide +kernel
theorem r_X8_lookers_82 {x0 x1 x2 x3 x4 x5 x6 x7 : Value} {a : Nat} {st : List Value} {h : AH} : Run M_X8_lookers 82 [x0, x1, x2, x3, x4, x5, x6, x7] (.ref a :: st) h = if (gF h a 4 6).isSome = true then Run M_X8_lookers 85 [x0, x1, x2, x3, x4, x5, x6, x7] ((gF h a 4 6).getD .null :: st) h else none := R_getfield d_X8_lookers_82 rfl
theorem d_X8_lookers_85 : decode (mB M_X8_lookers) 85 = .ok (.getfield 117, 3) := by decide +kernel
theorem r_X8_lookers_85 {x0 x1 x2 x3 x4 x5 x6 x7 : Value} {a : Nat} {st : List Value} {h : AH} : Run M_X8_lookers 85 [x0, x1, x2, x3, x4, x5, x6, x7] (.ref a :: st) h = if (gF h a 0 7).isSome = true then Run M_X8_lookers 88 [x0, x1, x2, x3, x4, x5, x6, x7] ((gF h a 0 7).getD .null :: st) h else none := R_getfield d_X8_lookers_85 rfl
theorem d_X8_lookers_88 : decode (mB M_X8_lookers) 88 = .ok (.iload 5, 2) := by decide +kernel
theorem r_X8_lookers_88 {x0 x1 x2 x3 x4 x6 x7 : Value} {a : Int32} {st : List Value} {h : AH} : Run M_X8_lookers 88 [x0, x1, x2, x3, x4, .int a, x6, x7] st h = Run M_X8_lookers 90 [x0, x1, x2, x3, x4, .int a, x6, x7] (.int a :: st) h := R_iload d_X8_lookers_88 rfl
theorem d_X8_lookers_90 : decode (mB M_X8_lookers) 90 = .ok (.invokevirtual 253, 3) := by decide +kernel
theorem r_X8_lookers_90 {x0 x1 x2 x3 x4 x5 x6 x7 : Value} {p0 : Int32} {p1 : Int32} {a : Nat} {h : AH} : Run M_X8_lookers 90 [x0, x1, x2, x3, x4, x5, x6, x7] (.int p1 :: .int p0 :: .ref a :: []) h = if refO h 4 (some (.ref a)) = true then (if (Call M_X4_lagSpread h [.ref a, .int p0, .int p1]).isSome = true then Run M_X8_lookers 93 [x0, x1, x2, x3, x4, x5, x6, x7] (rL (Call M_X4_lagSpread h [.ref a, .int p0, .int p1]) ++ []) (cH (Call M_X4_lagSpread h [.ref a, .int p0, .int p1])) else none) else none := R_virt d_X8_lookers_90 rfl rfl rfl rfl rfl (Nat.le_of_ble_eq_true rfl)
theorem d_X8_lookers_93 : decode (mB M_X8_lookers) 93 = .ok (.iload_n 1, 1) := by decide +kernel
theorem r_X8_lookers_93 {x0 x2 x3 x4 x5 x6 x7 : Value} {a : Int32} {st : List Value} {h : AH} : Run M_X8_lookers 93 [x0, .int a, x2, x3, x4, x5, x6, x7] st h = Run M_X8_lookers 94 [x0, .int a, x2, x3, x4, x5, x6, x7] (.int a :: st) h := R_iload_n d_X8_lookers_93 rfl
theorem d_X8_lookers_94 : decode (mB M_X8_lookers) 94 = .ok (.if_icmp .gt 10, 3) := by decide +kernel
theorem r_X8_lookers_94 {x0 x1 x2 x3 x4 x5 x6 x7 : Value} {x y : Int32} {st : List Value} {h : AH} : Run M_X8_lookers 94 [x0, x1, x2, x3, x4, x5, x6, x7] (.int y :: .int x :: st) h = if y < x then Run M_X8_lookers 104 [x0, x1, x2, x3, x4, x5, x6, x7] st h else Run M_X8_lookers 97 [x0, x1, x2, x3, x4, x5, x6, x7] st h := R_icmp_gt d_X8_lookers_94 (by decide)
theorem d_X8_lookers_97 : decode (mB M_X8_lookers) 97 = .ok (.iload 6, 2) := by decide +kernel
theorem r_X8_lookers_97 {x0 x1 x2 x3 x4 x5 x7 : Value} {a : Int32} {st : List Value} {h : AH} : Run M_X8_lookers 97 [x0, x1, x2, x3, x4, x5, .int a, x7] st h = Run M_X8_lookers 99 [x0, x1, x2, x3, x4, x5, .int a, x7] (.int a :: st) h := R_iload d_X8_lookers_97 rfl
theorem d_X8_lookers_99 : decode (mB M_X8_lookers) 99 = .ok (.istore 4, 2) := by decide +kernel
theorem r_X8_lookers_99 {x0 x1 x2 x3 x4 x5 x6 x7 : Value} {a : Int32} {st : List Value} {h : AH} (hc : x3.category = 1) : Run M_X8_lookers 99 [x0, x1, x2, x3, x4, x5, x6, x7] (.int a :: st) h = Run M_X8_lookers 101 [x0, x1, x2, x3, .int a, x5, x6, x7] st h := R_istore d_X8_lookers_99 (Nat.lt_of_lt_of_le (by decide : 4 < 8) (Nat.le_refl 8)) (catP_of rfl hc)
theorem d_X8_lookers_101 : decode (mB M_X8_lookers) 101 = .ok (.iload 5, 2) := by decide +kernel
theorem r_X8_lookers_101 {x0 x1 x2 x3 x4 x6 x7 : Value} {a : Int32} {st : List Value} {h : AH} : Run M_X8_lookers 101 [x0, x1, x2, x3, x4, .int a, x6, x7] st h = Run M_X8_lookers 103 [x0, x1, x2, x3, x4, .int a, x6, x7] (.int a :: st) h := R_iload d_X8_lookers_101 rfl
theorem d_X8_lookers_103 : decode (mB M_X8_lookers) 103 = .ok (.istore_n 3, 1) := by decide +kernel
theorem r_X8_lookers_103 {x0 x1 x2 x3 x4 x5 x6 x7 : Value} {a : Int32} {st : List Value} {h : AH} (hc : x2.category = 1) : Run M_X8_lookers 103 [x0, x1, x2, x3, x4, x5, x6, x7] (.int a :: st) h = Run M_X8_lookers 104 [x0, x1, x2, .int a, x4, x5, x6, x7] st h := R_istore_n d_X8_lookers_103 (Nat.lt_of_lt_of_le (by decide : 3 < 8) (Nat.le_refl 8)) (catP_of rfl hc)
theorem d_X8_lookers_104 : decode (mB M_X8_lookers) 104 = .ok (.iinc 5 1, 3) := by decide +kernel
theorem r_X8_lookers_104 {x0 x1 x2 x3 x4 x6 x7 : Value} {a : Int32} {st : List Value} {h : AH} (hc : x4.category = 1) : Run M_X8_lookers 104 [x0, x1, x2, x3, x4, .int a, x6, x7] st h = Run M_X8_lookers 107 [x0, x1, x2, x3, x4, .int (a + (nI 1)), x6, x7] st h := R_iinc d_X8_lookers_104 (by decide) rfl (catP_of rfl hc)
theorem d_X8_lookers_107 : decode (mB M_X8_lookers) 107 = .ok (.goto (-77), 3) := by decide +kernel
theorem r_X8_lookers_107 {x0 x1 x2 x3 x4 x5 x6 x7 : Value} {st : List Value} {h : AH} : Run M_X8_lookers 107 [x0, x1, x2, x3, x4, x5, x6, x7] st h = Run M_X8_lookers 30 [x0, x1, x2, x3, x4, x5, x6, x7] st h := R_goto d_X8_lookers_107 (by decide)
theorem d_X8_lookers_110 : decode (mB M_X8_lookers) 110 = .ok (.iload_n 2, 1) := by decide +kernel
theorem r_X8_lookers_110 {x0 x1 x3 x4 x5 x6 x7 : Value} {a : Int32} {st : List Value} {h : AH} : Run M_X8_lookers 110 [x0, x1, .int a, x3, x4, x5, x6, x7] st h = Run M_X8_lookers 111 [x0, x1, .int a, x3, x4, x5, x6, x7] (.int a :: st) h := R_iload_n d_X8_lookers_110 rfl
theorem d_X8_lookers_111 : decode (mB M_X8_lookers) 111 = .ok (.ifCond .ne 8, 3) := by decide +kernel
theorem r_X8_lookers_111 {x0 x1 x2 x3 x4 x5 x6 x7 : Value} {x : Int32} {st : List Value} {h : AH} : Run M_X8_lookers 111 [x0, x1, x2, x3, x4, x5, x6, x7] (.int x :: st) h = if x = nI 0 then Run M_X8_lookers 114 [x0, x1, x2, x3, x4, x5, x6, x7] st h else Run M_X8_lookers 119 [x0, x1, x2, x3, x4, x5, x6, x7] st h := R_if_ne d_X8_lookers_111 (by decide)
theorem d_X8_lookers_114 : decode (mB M_X8_lookers) 114 = .ok (.iload 4, 2) := by decide +kernel
theorem r_X8_lookers_114 {x0 x1 x2 x3 x5 x6 x7 : Value} {a : Int32} {st : List Value} {h : AH} : Run M_X8_lookers 114 [x0, x1, x2, x3, .int a, x5, x6, x7] st h = Run M_X8_lookers 116 [x0, x1, x2, x3, .int a, x5, x6, x7] (.int a :: st) h := R_iload d_X8_lookers_114 rfl
theorem d_X8_lookers_116 : decode (mB M_X8_lookers) 116 = .ok (.goto 4, 3) := by decide +kernel
theorem r_X8_lookers_116 {x0 x1 x2 x3 x4 x5 x6 x7 : Value} {st : List Value} {h : AH} : Run M_X8_lookers 116 [x0, x1, x2, x3, x4, x5, x6, x7] st h = Run M_X8_lookers 120 [x0, x1, x2, x3, x4, x5, x6, x7] st h := R_goto d_X8_lookers_116 (by decide)
theorem d_X8_lookers_119 : decode (mB M_X8_lookers) 119 = .ok (.iload_n 3, 1) := by decide +kernel
theorem r_X8_lookers_119 {x0 x1 x2 x4 x5 x6 x7 : Value} {a : Int32} {st : List Value} {h : AH} : Run M_X8_lookers 119 [x0, x1, x2, .int a, x4, x5, x6, x7] st h = Run M_X8_lookers 120 [x0, x1, x2, .int a, x4, x5, x6, x7] (.int a :: st) h := R_iload_n d_X8_lookers_119 rfl
theorem d_X8_lookers_120 : decode (mB M_X8_lookers) 120 = .ok (.ireturn, 1) := by decide +kernel
theorem r_X8_lookers_120 {x0 x1 x2 x3 x4 x5 x6 x7 : Value} {v : Int32} {h : AH} : Run M_X8_lookers 120 [x0, x1, x2, x3, x4, x5, x6, x7] [.int v] h = some (h, some (.int v)) := R_ireturn d_X8_lookers_120 rfl rfl
theorem d_X8_claps_0 : decode (mB M_X8_claps) 0 = .ok (.iload_n 1, 1) := by decide +kernel
theorem r_X8_claps_0 {x0 x2 x3 x4 x5 x6 x7 x8 : Value} {a : Int32} {st : List Value} {h : AH} : Run M_X8_claps 0 [x0, .int a, x2, x3, x4, x5, x6, x7, x8] st h = Run M_X8_claps 1 [x0, .int a, x2, x3, x4, x5, x6, x7, x8] (.int a :: st) h := R_iload_n d_X8_claps_0 rfl
theorem d_X8_claps_1 : decode (mB M_X8_claps) 1 = .ok (.iconst 0, 1) := by decide +kernel
theorem r_X8_claps_1 {x0 x1 x2 x3 x4 x5 x6 x7 x8 : Value} {st : List Value} {h : AH} : Run M_X8_claps 1 [x0, x1, x2, x3, x4, x5, x6, x7, x8] st h = Run M_X8_claps 2 [x0, x1, x2, x3, x4, x5, x6, x7, x8] (.int (nI 0) :: st) h := R_iconst d_X8_claps_1 (by decide)
theorem d_X8_claps_2 : decode (mB M_X8_claps) 2 = .ok (.bipush 8, 2) := by decide +kernel
theorem r_X8_claps_2 {x0 x1 x2 x3 x4 x5 x6 x7 x8 : Value} {st : List Value} {h : AH} : Run M_X8_claps 2 [x0, x1, x2, x3, x4, x5, x6, x7, x8] st h = Run M_X8_claps 4 [x0, x1, x2, x3, x4, x5, x6, x7, x8] (.int (nI 8) :: st) h := R_bipush d_X8_claps_2 (by decide)
theorem d_X8_claps_4 : decode (mB M_X8_claps) 4 = .ok (.invokestatic 65, 3) := by decide +kernel
theorem r_X8_claps_4 {x0 x1 x2 x3 x4 x5 x6 x7 x8 : Value} {p0 : Int32} {p1 : Int32} {p2 : Int32} {h : AH} : Run M_X8_claps 4 [x0, x1, x2, x3, x4, x5, x6, x7, x8] (.int p2 :: .int p1 :: .int p0 :: []) h = if (Call M_X8_within h [.int p0, .int p1, .int p2]).isSome = true then Run M_X8_claps 7 [x0, x1, x2, x3, x4, x5, x6, x7, x8] (rL (Call M_X8_within h [.int p0, .int p1, .int p2]) ++ []) (cH (Call M_X8_within h [.int p0, .int p1, .int p2])) else none := R_stat d_X8_claps_4 rfl rfl rfl rfl (Nat.le_of_ble_eq_true rfl)
theorem d_X8_claps_7 : decode (mB M_X8_claps) 7 = .ok (.ifCond .eq 10, 3) := by decide +kernel
theorem r_X8_claps_7 {x0 x1 x2 x3 x4 x5 x6 x7 x8 : Value} {x : Int32} {st : List Value} {h : AH} : Run M_X8_claps 7 [x0, x1, x2, x3, x4, x5, x6, x7, x8] (.int x :: st) h = if x = nI 0 then Run M_X8_claps 17 [x0, x1, x2, x3, x4, x5, x6, x7, x8] st h else Run M_X8_claps 10 [x0, x1, x2, x3, x4, x5, x6, x7, x8] st h := R_if_eq d_X8_claps_7 (by decide)
theorem d_X8_claps_10 : decode (mB M_X8_claps) 10 = .ok (.iload_n 2, 1) := by decide +kernel
theorem r_X8_claps_10 {x0 x1 x3 x4 x5 x6 x7 x8 : Value} {a : Int32} {st : List Value} {h : AH} : Run M_X8_claps 10 [x0, x1, .int a, x3, x4, x5, x6, x7, x8] st h = Run M_X8_claps 11 [x0, x1, .int a, x3, x4, x5, x6, x7, x8] (.int a :: st) h := R_iload_n d_X8_claps_10 rfl
theorem d_X8_claps_11 : decode (mB M_X8_claps) 11 = .ok (.invokestatic 191, 3) := by decide +kernel
theorem r_X8_claps_11 {x0 x1 x2 x3 x4 x5 x6 x7 x8 : Value} {p0 : Int32} {h : AH} : Run M_X8_claps 11 [x0, x1, x2, x3, x4, x5, x6, x7, x8] (.int p0 :: []) h = if (Call M_X8_isSide h [.int p0]).isSome = true then Run M_X8_claps 14 [x0, x1, x2, x3, x4, x5, x6, x7, x8] (rL (Call M_X8_isSide h [.int p0]) ++ []) (cH (Call M_X8_isSide h [.int p0])) else none := R_stat d_X8_claps_11 rfl rfl rfl rfl (Nat.le_of_ble_eq_true rfl)
theorem d_X8_claps_14 : decode (mB M_X8_claps) 14 = .ok (.ifCond .ne 7, 3) := by decide +kernel
theorem r_X8_claps_14 {x0 x1 x2 x3 x4 x5 x6 x7 x8 : Value} {x : Int32} {st : List Value} {h : AH} : Run M_X8_claps 14 [x0, x1, x2, x3, x4, x5, x6, x7, x8] (.int x :: st) h = if x = nI 0 then Run M_X8_claps 17 [x0, x1, x2, x3, x4, x5, x6, x7, x8] st h else Run M_X8_claps 21 [x0, x1, x2, x3, x4, x5, x6, x7, x8] st h := R_if_ne d_X8_claps_14 (by decide)
theorem d_X8_claps_17 : decode (mB M_X8_claps) 17 = .ok (.ldc2_w 194, 3) := by decide +kernel
theorem r_X8_claps_17 {x0 x1 x2 x3 x4 x5 x6 x7 x8 : Value} {st : List Value} {h : AH} : Run M_X8_claps 17 [x0, x1, x2, x3, x4, x5, x6, x7, x8] st h = Run M_X8_claps 20 [x0, x1, x2, x3, x4, x5, x6, x7, x8] (.long (-1000000002) :: st) h := R_ldc2_w d_X8_claps_17 (by decide)
theorem d_X8_claps_20 : decode (mB M_X8_claps) 20 = .ok (.lreturn, 1) := by decide +kernel
theorem r_X8_claps_20 {x0 x1 x2 x3 x4 x5 x6 x7 x8 : Value} {v : Int64} {h : AH} : Run M_X8_claps 20 [x0, x1, x2, x3, x4, x5, x6, x7, x8] [.long v] h = some (h, some (.long v)) := R_lreturn d_X8_claps_20 rfl
theorem d_X8_claps_21 : decode (mB M_X8_claps) 21 = .ok (.lconst 1, 1) := by decide +kernel
theorem r_X8_claps_21 {x0 x1 x2 x3 x4 x5 x6 x7 x8 : Value} {st : List Value} {h : AH} : Run M_X8_claps 21 [x0, x1, x2, x3, x4, x5, x6, x7, x8] st h = Run M_X8_claps 22 [x0, x1, x2, x3, x4, x5, x6, x7, x8] (.long (lN 1) :: st) h := R_lconst d_X8_claps_21 (by decide)
theorem d_X8_claps_22 : decode (mB M_X8_claps) 22 = .ok (.lstore_n 3, 1) := by decide +kernel
theorem r_X8_claps_22 {x0 x1 x2 x3 x4 x5 x6 x7 x8 : Value} {a : Int64} {st : List Value} {h : AH} (hc : x2.category = 1) : Run M_X8_claps 22 [x0, x1, x2, x3, x4, x5, x6, x7, x8] (.long a :: st) h = Run M_X8_claps 23 [x0, x1, x2, .long a, .null, x5, x6, x7, x8] st h := R_lstore_n d_X8_claps_22 (Nat.lt_of_lt_of_le (by decide : 4 < 9) (Nat.le_refl 9)) (catP_of rfl hc)
theorem d_X8_claps_23 : decode (mB M_X8_claps) 23 = .ok (.lconst 1, 1) := by decide +kernel
theorem r_X8_claps_23 {x0 x1 x2 x3 x4 x5 x6 x7 x8 : Value} {st : List Value} {h : AH} : Run M_X8_claps 23 [x0, x1, x2, x3, x4, x5, x6, x7, x8] st h = Run M_X8_claps 24 [x0, x1, x2, x3, x4, x5, x6, x7, x8] (.long (lN 1) :: st) h := R_lconst d_X8_claps_23 (by decide)
theorem d_X8_claps_24 : decode (mB M_X8_claps) 24 = .ok (.lstore 5, 2) := by decide +kernel
theorem r_X8_claps_24 {x0 x1 x2 x3 x4 x5 x6 x7 x8 : Value} {a : Int64} {st : List Value} {h : AH} (hc : x4.category = 1) : Run M_X8_claps 24 [x0, x1, x2, x3, x4, x5, x6, x7, x8] (.long a :: st) h = Run M_X8_claps 26 [x0, x1, x2, x3, x4, .long a, .null, x7, x8] st h := R_lstore d_X8_claps_24 (Nat.lt_of_lt_of_le (by decide : 6 < 9) (Nat.le_refl 9)) (catP_of rfl hc)
theorem d_X8_claps_26 : decode (mB M_X8_claps) 26 = .ok (.iconst 0, 1) := by decide +kernel
theorem r_X8_claps_26 {x0 x1 x2 x3 x4 x5 x6 x7 x8 : Value} {st : List Value} {h : AH} : Run M_X8_claps 26 [x0, x1, x2, x3, x4, x5, x6, x7, x8] st h = Run M_X8_claps 27 [x0, x1, x2, x3, x4, x5, x6, x7, x8] (.int (nI 0) :: st) h := R_iconst d_X8_claps_26 (by decide)
theorem d_X8_claps_27 : decode (mB M_X8_claps) 27 = .ok (.istore 7, 2) := by decide +kernel
theorem r_X8_claps_27 {x0 x1 x2 x3 x4 x5 x6 x7 x8 : Value} {a : Int32} {st : List Value} {h : AH} (hc : x6.category = 1) : Run M_X8_claps 27 [x0, x1, x2, x3, x4, x5, x6, x7, x8] (.int a :: st) h = Run M_X8_claps 29 [x0, x1, x2, x3, x4, x5, x6, .int a, x8] st h := R_istore d_X8_claps_27 (Nat.lt_of_lt_of_le (by decide : 7 < 9) (Nat.le_refl 9)) (catP_of rfl hc)
theorem d_X8_claps_29 : decode (mB M_X8_claps) 29 = .ok (.iload 7, 2) := by decide +kernel
theorem r_X8_claps_29 {x0 x1 x2 x3 x4 x5 x6 x8 : Value} {a : Int32} {st : List Value} {h : AH} : Run M_X8_claps 29 [x0, x1, x2, x3, x4, x5, x6, .int a, x8] st h = Run M_X8_claps 31 [x0, x1, x2, x3, x4, x5, x6, .int a, x8] (.int a :: st) h := R_iload d_X8_claps_29 rfl
theorem d_X8_claps_31 : decode (mB M_X8_claps) 31 = .ok (.aload_n 0, 1) := by decide +kernel
theorem r_X8_claps_31 {x1 x2 x3 x4 x5 x6 x7 x8 : Value} {a : Nat} {st : List Value} {h : AH} : Run M_X8_claps 31 [.ref a, x1, x2, x3, x4, x5, x6, x7, x8] st h = Run M_X8_claps 32 [.ref a, x1, x2, x3, x4, x5, x6, x7, x8] (.ref a :: st) h := R_aload_n d_X8_claps_31 rfl
theorem d_X8_claps_32 : decode (mB M_X8_claps) 32 = .ok (.getfield 57, 3) := by decide +kernel
theorem r_X8_claps_32 {x0 x1 x2 x3 x4 x5 x6 x7 x8 : Value} {a : Nat} {st : List Value} {h : AH} : Run M_X8_claps 32 [x0, x1, x2, x3, x4, x5, x6, x7, x8] (.ref a :: st) h = if (gF h a 8 7).isSome = true then Run M_X8_claps 35 [x0, x1, x2, x3, x4, x5, x6, x7, x8] ((gF h a 8 7).getD .null :: st) h else none := R_getfield d_X8_claps_32 rfl
theorem d_X8_claps_35 : decode (mB M_X8_claps) 35 = .ok (.getfield 86, 3) := by decide +kernel
theorem r_X8_claps_35 {x0 x1 x2 x3 x4 x5 x6 x7 x8 : Value} {a : Nat} {st : List Value} {h : AH} : Run M_X8_claps 35 [x0, x1, x2, x3, x4, x5, x6, x7, x8] (.ref a :: st) h = if (gF h a 4 0).isSome = true then Run M_X8_claps 38 [x0, x1, x2, x3, x4, x5, x6, x7, x8] ((gF h a 4 0).getD .null :: st) h else none := R_getfield d_X8_claps_35 rfl
theorem d_X8_claps_38 : decode (mB M_X8_claps) 38 = .ok (.if_icmp .ge 61, 3) := by decide +kernel
theorem r_X8_claps_38 {x0 x1 x2 x3 x4 x5 x6 x7 x8 : Value} {x y : Int32} {st : List Value} {h : AH} : Run M_X8_claps 38 [x0, x1, x2, x3, x4, x5, x6, x7, x8] (.int y :: .int x :: st) h = if y ≤ x then Run M_X8_claps 99 [x0, x1, x2, x3, x4, x5, x6, x7, x8] st h else Run M_X8_claps 41 [x0, x1, x2, x3, x4, x5, x6, x7, x8] st h := R_icmp_ge d_X8_claps_38 (by decide)
theorem d_X8_claps_41 : decode (mB M_X8_claps) 41 = .ok (.aload_n 0, 1) := by decide +kernel
theorem r_X8_claps_41 {x1 x2 x3 x4 x5 x6 x7 x8 : Value} {a : Nat} {st : List Value} {h : AH} : Run M_X8_claps 41 [.ref a, x1, x2, x3, x4, x5, x6, x7, x8] st h = Run M_X8_claps 42 [.ref a, x1, x2, x3, x4, x5, x6, x7, x8] (.ref a :: st) h := R_aload_n d_X8_claps_41 rfl
theorem d_X8_claps_42 : decode (mB M_X8_claps) 42 = .ok (.getfield 57, 3) := by decide +kernel
theorem r_X8_claps_42 {x0 x1 x2 x3 x4 x5 x6 x7 x8 : Value} {a : Nat} {st : List Value} {h : AH} : Run M_X8_claps 42 [x0, x1, x2, x3, x4, x5, x6, x7, x8] (.ref a :: st) h = if (gF h a 8 7).isSome = true then Run M_X8_claps 45 [x0, x1, x2, x3, x4, x5, x6, x7, x8] ((gF h a 8 7).getD .null :: st) h else none := R_getfield d_X8_claps_42 rfl
theorem d_X8_claps_45 : decode (mB M_X8_claps) 45 = .ok (.getfield 132, 3) := by decide +kernel
theorem r_X8_claps_45 {x0 x1 x2 x3 x4 x5 x6 x7 x8 : Value} {a : Nat} {st : List Value} {h : AH} : Run M_X8_claps 45 [x0, x1, x2, x3, x4, x5, x6, x7, x8] (.ref a :: st) h = if (gF h a 4 1).isSome = true then Run M_X8_claps 48 [x0, x1, x2, x3, x4, x5, x6, x7, x8] ((gF h a 4 1).getD .null :: st) h else none := R_getfield d_X8_claps_45 rfl
theorem d_X8_claps_48 : decode (mB M_X8_claps) 48 = .ok (.iload 7, 2) := by decide +kernel
theorem r_X8_claps_48 {x0 x1 x2 x3 x4 x5 x6 x8 : Value} {a : Int32} {st : List Value} {h : AH} : Run M_X8_claps 48 [x0, x1, x2, x3, x4, x5, x6, .int a, x8] st h = Run M_X8_claps 50 [x0, x1, x2, x3, x4, x5, x6, .int a, x8] (.int a :: st) h := R_iload d_X8_claps_48 rfl
theorem d_X8_claps_50 : decode (mB M_X8_claps) 50 = .ok (.aaload, 1) := by decide +kernel
theorem r_X8_claps_50 {x0 x1 x2 x3 x4 x5 x6 x7 x8 : Value} {a : Nat} {i : Int32} {st : List Value} {h : AH} : Run M_X8_claps 50 [x0, x1, x2, x3, x4, x5, x6, x7, x8] (.int i :: .ref a :: st) h = if (gR h a i).isSome = true then Run M_X8_claps 51 [x0, x1, x2, x3, x4, x5, x6, x7, x8] (.ref ((gR h a i).getD 0) :: st) h else none := R_aaload d_X8_claps_50
theorem d_X8_claps_51 : decode (mB M_X8_claps) 51 = .ok (.astore 8, 2) := by decide +kernel
theorem r_X8_claps_51 {x0 x1 x2 x3 x4 x5 x6 x7 x8 : Value} {a : Nat} {st : List Value} {h : AH} (hc : x7.category = 1) : Run M_X8_claps 51 [x0, x1, x2, x3, x4, x5, x6, x7, x8] (.ref a :: st) h = Run M_X8_claps 53 [x0, x1, x2, x3, x4, x5, x6, x7, .ref a] st h := R_astore d_X8_claps_51 (Nat.lt_of_lt_of_le (by decide : 8 < 9) (Nat.le_refl 9)) (catP_of rfl hc)
theorem d_X8_claps_53 : decode (mB M_X8_claps) 53 = .ok (.aload 8, 2) := by decide +kernel
theorem r_X8_claps_53 {x0 x1 x2 x3 x4 x5 x6 x7 : Value} {a : Nat} {st : List Value} {h : AH} : Run M_X8_claps 53 [x0, x1, x2, x3, x4, x5, x6, x7, .ref a] st h = Run M_X8_claps 55 [x0, x1, x2, x3, x4, x5, x6, x7, .ref a] (.ref a :: st) h := R_aload d_X8_claps_53 rfl
theorem d_X8_claps_55 : decode (mB M_X8_claps) 55 = .ok (.getfield 136, 3) := by decide +kernel
theorem r_X8_claps_55 {x0 x1 x2 x3 x4 x5 x6 x7 x8 : Value} {a : Nat} {st : List Value} {h : AH} : Run M_X8_claps 55 [x0, x1, x2, x3, x4, x5, x6, x7, x8] (.ref a :: st) h = if (gF h a 6 0).isSome = true then Run M_X8_claps 58 [x0, x1, x2, x3, x4, x5, x6, x7, x8] ((gF h a 6 0).getD .null :: st) h else none := R_getfield d_X8_claps_55 rfl
theorem d_X8_claps_58 : decode (mB M_X8_claps) 58 = .ok (.iconst 2, 1) := by decide +kernel
theorem r_X8_claps_58 {x0 x1 x2 x3 x4 x5 x6 x7 x8 : Value} {st : List Value} {h : AH} : Run M_X8_claps 58 [x0, x1, x2, x3, x4, x5, x6, x7, x8] st h = Run M_X8_claps 59 [x0, x1, x2, x3, x4, x5, x6, x7, x8] (.int (nI 2) :: st) h := R_iconst d_X8_claps_58 (by decide)
theorem d_X8_claps_59 : decode (mB M_X8_claps) 59 = .ok (.if_icmp .ne 34, 3) := by decide +kernel
theorem r_X8_claps_59 {x0 x1 x2 x3 x4 x5 x6 x7 x8 : Value} {x y : Int32} {st : List Value} {h : AH} : Run M_X8_claps 59 [x0, x1, x2, x3, x4, x5, x6, x7, x8] (.int y :: .int x :: st) h = if x = y then Run M_X8_claps 62 [x0, x1, x2, x3, x4, x5, x6, x7, x8] st h else Run M_X8_claps 93 [x0, x1, x2, x3, x4, x5, x6, x7, x8] st h := R_icmp_ne d_X8_claps_59 (by decide)
theorem d_X8_claps_62 : decode (mB M_X8_claps) 62 = .ok (.lload_n 3, 1) := by decide +kernel
theorem r_X8_claps_62 {x0 x1 x2 x4 x5 x6 x7 x8 : Value} {a : Int64} {st : List Value} {h : AH} : Run M_X8_claps 62 [x0, x1, x2, .long a, x4, x5, x6, x7, x8] st h = Run M_X8_claps 63 [x0, x1, x2, .long a, x4, x5, x6, x7, x8] (.long a :: st) h := R_lload_n d_X8_claps_62 rfl
theorem d_X8_claps_63 : decode (mB M_X8_claps) 63 = .ok (.aload 8, 2) := by decide +kernel
theorem r_X8_claps_63 {x0 x1 x2 x3 x4 x5 x6 x7 : Value} {a : Nat} {st : List Value} {h : AH} : Run M_X8_claps 63 [x0, x1, x2, x3, x4, x5, x6, x7, .ref a] st h = Run M_X8_claps 65 [x0, x1, x2, x3, x4, x5, x6, x7, .ref a] (.ref a :: st) h := R_aload d_X8_claps_63 rfl
theorem d_X8_claps_65 : decode (mB M_X8_claps) 65 = .ok (.getfield 141, 3) := by decide +kernel
theorem r_X8_claps_65 {x0 x1 x2 x3 x4 x5 x6 x7 x8 : Value} {a : Nat} {st : List Value} {h : AH} : Run M_X8_claps 65 [x0, x1, x2, x3, x4, x5, x6, x7, x8] (.ref a :: st) h = if (gF h a 6 1).isSome = true then Run M_X8_claps 68 [x0, x1, x2, x3, x4, x5, x6, x7, x8] ((gF h a 6 1).getD .null :: st) h else none := R_getfield d_X8_claps_65 rfl
theorem d_X8_claps_68 : decode (mB M_X8_claps) 68 = .ok (.bipush 8, 2) := by decide +kernel
theorem r_X8_claps_68 {x0 x1 x2 x3 x4 x5 x6 x7 x8 : Value} {st : List Value} {h : AH} : Run M_X8_claps 68 [x0, x1, x2, x3, x4, x5, x6, x7, x8] st h = Run M_X8_claps 70 [x0, x1, x2, x3, x4, x5, x6, x7, x8] (.int (nI 8) :: st) h := R_bipush d_X8_claps_68 (by decide)
theorem d_X8_claps_70 : decode (mB M_X8_claps) 70 = .ok (.imul, 1) := by decide +kernel
theorem r_X8_claps_70 {x0 x1 x2 x3 x4 x5 x6 x7 x8 : Value} {x y : Int32} {st : List Value} {h : AH} : Run M_X8_claps 70 [x0, x1, x2, x3, x4, x5, x6, x7, x8] (.int y :: .int x :: st) h = Run M_X8_claps 71 [x0, x1, x2, x3, x4, x5, x6, x7, x8] (.int (x * y) :: st) h := R_imul d_X8_claps_70
theorem d_X8_claps_71 : decode (mB M_X8_claps) 71 = .ok (.aload 8, 2) := by decide +kernel
theorem r_X8_claps_71 {x0 x1 x2 x3 x4 x5 x6 x7 : Value} {a : Nat} {st : List Value} {h : AH} : Run M_X8_claps 71 [x0, x1, x2, x3, x4, x5, x6, x7, .ref a] st h = Run M_X8_claps 73 [x0, x1, x2, x3, x4, x5, x6, x7, .ref a] (.ref a :: st) h := R_aload d_X8_claps_71 rfl
theorem d_X8_claps_73 : decode (mB M_X8_claps) 73 = .ok (.invokevirtual 224, 3) := by decide +kernel
theorem r_X8_claps_73 {x0 x1 x2 x3 x4 x5 x6 x7 x8 : Value} {a : Nat} {w0 w1 : Value} {h : AH} : Run M_X8_claps 73 [x0, x1, x2, x3, x4, x5, x6, x7, x8] (.ref a :: [w0, w1]) h = if refO h 6 (some (.ref a)) = true then (if (Call M_X6_playedOf8 h [.ref a]).isSome = true then Run M_X8_claps 76 [x0, x1, x2, x3, x4, x5, x6, x7, x8] (rL (Call M_X6_playedOf8 h [.ref a]) ++ [w0, w1]) (cH (Call M_X6_playedOf8 h [.ref a])) else none) else none := R_virt d_X8_claps_73 rfl rfl rfl rfl rfl (Nat.le_of_ble_eq_true rfl)
theorem d_X8_claps_76 : decode (mB M_X8_claps) 76 = .ok (.bipush 8, 2) := by decide +kernel
theorem r_X8_claps_76 {x0 x1 x2 x3 x4 x5 x6 x7 x8 : Value} {st : List Value} {h : AH} : Run M_X8_claps 76 [x0, x1, x2, x3, x4, x5, x6, x7, x8] st h = Run M_X8_claps 78 [x0, x1, x2, x3, x4, x5, x6, x7, x8] (.int (nI 8) :: st) h := R_bipush d_X8_claps_76 (by decide)
theorem d_X8_claps_78 : decode (mB M_X8_claps) 78 = .ok (.iload_n 1, 1) := by decide +kernel
theorem r_X8_claps_78 {x0 x2 x3 x4 x5 x6 x7 x8 : Value} {a : Int32} {st : List Value} {h : AH} : Run M_X8_claps 78 [x0, .int a, x2, x3, x4, x5, x6, x7, x8] st h = Run M_X8_claps 79 [x0, .int a, x2, x3, x4, x5, x6, x7, x8] (.int a :: st) h := R_iload_n d_X8_claps_78 rfl
theorem d_X8_claps_79 : decode (mB M_X8_claps) 79 = .ok (.isub, 1) := by decide +kernel
theorem r_X8_claps_79 {x0 x1 x2 x3 x4 x5 x6 x7 x8 : Value} {x y : Int32} {st : List Value} {h : AH} : Run M_X8_claps 79 [x0, x1, x2, x3, x4, x5, x6, x7, x8] (.int y :: .int x :: st) h = Run M_X8_claps 80 [x0, x1, x2, x3, x4, x5, x6, x7, x8] (.int (x - y) :: st) h := R_isub d_X8_claps_79
theorem d_X8_claps_80 : decode (mB M_X8_claps) 80 = .ok (.imul, 1) := by decide +kernel
theorem r_X8_claps_80 {x0 x1 x2 x3 x4 x5 x6 x7 x8 : Value} {x y : Int32} {st : List Value} {h : AH} : Run M_X8_claps 80 [x0, x1, x2, x3, x4, x5, x6, x7, x8] (.int y :: .int x :: st) h = Run M_X8_claps 81 [x0, x1, x2, x3, x4, x5, x6, x7, x8] (.int (x * y) :: st) h := R_imul d_X8_claps_80
theorem d_X8_claps_81 : decode (mB M_X8_claps) 81 = .ok (.iadd, 1) := by decide +kernel
theorem r_X8_claps_81 {x0 x1 x2 x3 x4 x5 x6 x7 x8 : Value} {x y : Int32} {st : List Value} {h : AH} : Run M_X8_claps 81 [x0, x1, x2, x3, x4, x5, x6, x7, x8] (.int y :: .int x :: st) h = Run M_X8_claps 82 [x0, x1, x2, x3, x4, x5, x6, x7, x8] (.int (x + y) :: st) h := R_iadd d_X8_claps_81
theorem d_X8_claps_82 : decode (mB M_X8_claps) 82 = .ok (.i2l, 1) := by decide +kernel
theorem r_X8_claps_82 {x0 x1 x2 x3 x4 x5 x6 x7 x8 : Value} {x : Int32} {st : List Value} {h : AH} : Run M_X8_claps 82 [x0, x1, x2, x3, x4, x5, x6, x7, x8] (.int x :: st) h = Run M_X8_claps 83 [x0, x1, x2, x3, x4, x5, x6, x7, x8] (.long x.toInt64 :: st) h := R_i2l d_X8_claps_82
theorem d_X8_claps_83 : decode (mB M_X8_claps) 83 = .ok (.lmul, 1) := by decide +kernel
theorem r_X8_claps_83 {x0 x1 x2 x3 x4 x5 x6 x7 x8 : Value} {x y : Int64} {st : List Value} {h : AH} : Run M_X8_claps 83 [x0, x1, x2, x3, x4, x5, x6, x7, x8] (.long y :: .long x :: st) h = Run M_X8_claps 84 [x0, x1, x2, x3, x4, x5, x6, x7, x8] (.long (x * y) :: st) h := R_lmul d_X8_claps_83
theorem d_X8_claps_84 : decode (mB M_X8_claps) 84 = .ok (.lstore_n 3, 1) := by decide +kernel
theorem r_X8_claps_84 {x0 x1 x2 x3 x4 x5 x6 x7 x8 : Value} {a : Int64} {st : List Value} {h : AH} (hc : x2.category = 1) : Run M_X8_claps 84 [x0, x1, x2, x3, x4, x5, x6, x7, x8] (.long a :: st) h = Run M_X8_claps 85 [x0, x1, x2, .long a, .null, x5, x6, x7, x8] st h := R_lstore_n d_X8_claps_84 (Nat.lt_of_lt_of_le (by decide : 4 < 9) (Nat.le_refl 9)) (catP_of rfl hc)
theorem d_X8_claps_85 : decode (mB M_X8_claps) 85 = .ok (.lload 5, 2) := by decide +kernel
theorem r_X8_claps_85 {x0 x1 x2 x3 x4 x6 x7 x8 : Value} {a : Int64} {st : List Value} {h : AH} : Run M_X8_claps 85 [x0, x1, x2, x3, x4, .long a, x6, x7, x8] st h = Run M_X8_claps 87 [x0, x1, x2, x3, x4, .long a, x6, x7, x8] (.long a :: st) h := R_lload d_X8_claps_85 rfl
theorem d_X8_claps_87 : decode (mB M_X8_claps) 87 = .ok (.ldc2_w 262, 3) := by decide +kernel
theorem r_X8_claps_87 {x0 x1 x2 x3 x4 x5 x6 x7 x8 : Value} {st : List Value} {h : AH} : Run M_X8_claps 87 [x0, x1, x2, x3, x4, x5, x6, x7, x8] st h = Run M_X8_claps 90 [x0, x1, x2, x3, x4, x5, x6, x7, x8] (.long (lN 64) :: st) h := R_ldc2_w d_X8_claps_87 (by decide)
theorem d_X8_claps_90 : decode (mB M_X8_claps) 90 = .ok (.lmul, 1) := by decide +kernel
theorem r_X8_claps_90 {x0 x1 x2 x3 x4 x5 x6 x7 x8 : Value} {x y : Int64} {st : List Value} {h : AH} : Run M_X8_claps 90 [x0, x1, x2, x3, x4, x5, x6, x7, x8] (.long y :: .long x :: st) h = Run M_X8_claps 91 [x0, x1, x2, x3, x4, x5, x6, x7, x8] (.long (x * y) :: st) h := R_lmul d_X8_claps_90
theorem d_X8_claps_91 : decode (mB M_X8_claps) 91 = .ok (.lstore 5, 2) := by decide +kernel
theorem r_X8_claps_91 {x0 x1 x2 x3 x4 x5 x6 x7 x8 : Value} {a : Int64} {st : List Value} {h : AH} (hc : x4.category = 1) : Run M_X8_claps 91 [x0, x1, x2, x3, x4, x5, x6, x7, x8] (.long a :: st) h = Run M_X8_claps 93 [x0, x1, x2, x3, x4, .long a, .null, x7, x8] st h := R_lstore d_X8_claps_91 (Nat.lt_of_lt_of_le (by decide : 6 < 9) (Nat.le_refl 9)) (catP_of rfl hc)
theorem d_X8_claps_93 : decode (mB M_X8_claps) 93 = .ok (.iinc 7 1, 3) := by decide +kernel
theorem r_X8_claps_93 {x0 x1 x2 x3 x4 x5 x6 x8 : Value} {a : Int32} {st : List Value} {h : AH} (hc : x6.category = 1) : Run M_X8_claps 93 [x0, x1, x2, x3, x4, x5, x6, .int a, x8] st h = Run M_X8_claps 96 [x0, x1, x2, x3, x4, x5, x6, .int (a + (nI 1)), x8] st h := R_iinc d_X8_claps_93 (by decide) rfl (catP_of rfl hc)
theorem d_X8_claps_96 : decode (mB M_X8_claps) 96 = .ok (.goto (-67), 3) := by decide +kernel
theorem r_X8_claps_96 {x0 x1 x2 x3 x4 x5 x6 x7 x8 : Value} {st : List Value} {h : AH} : Run M_X8_claps 96 [x0, x1, x2, x3, x4, x5, x6, x7, x8] st h = Run M_X8_claps 29 [x0, x1, x2, x3, x4, x5, x6, x7, x8] st h := R_goto d_X8_claps_96 (by decide)
theorem d_X8_claps_99 : decode (mB M_X8_claps) 99 = .ok (.lload_n 3, 1) := by decide +kernel
theorem r_X8_claps_99 {x0 x1 x2 x4 x5 x6 x7 x8 : Value} {a : Int64} {st : List Value} {h : AH} : Run M_X8_claps 99 [x0, x1, x2, .long a, x4, x5, x6, x7, x8] st h = Run M_X8_claps 100 [x0, x1, x2, .long a, x4, x5, x6, x7, x8] (.long a :: st) h := R_lload_n d_X8_claps_99 rfl
theorem d_X8_claps_100 : decode (mB M_X8_claps) 100 = .ok (.lload 5, 2) := by decide +kernel
theorem r_X8_claps_100 {x0 x1 x2 x3 x4 x6 x7 x8 : Value} {a : Int64} {st : List Value} {h : AH} : Run M_X8_claps 100 [x0, x1, x2, x3, x4, .long a, x6, x7, x8] st h = Run M_X8_claps 102 [x0, x1, x2, x3, x4, .long a, x6, x7, x8] (.long a :: st) h := R_lload d_X8_claps_100 rfl
theorem d_X8_claps_102 : decode (mB M_X8_claps) 102 = .ok (.iload_n 2, 1) := by decide +kernel
theorem r_X8_claps_102 {x0 x1 x3 x4 x5 x6 x7 x8 : Value} {a : Int32} {st : List Value} {h : AH} : Run M_X8_claps 102 [x0, x1, .int a, x3, x4, x5, x6, x7, x8] st h = Run M_X8_claps 103 [x0, x1, .int a, x3, x4, x5, x6, x7, x8] (.int a :: st) h := R_iload_n d_X8_claps_102 rfl
theorem d_X8_claps_103 : decode (mB M_X8_claps) 103 = .ok (.invokestatic 204, 3) := by decide +kernel
theorem r_X8_claps_103 {x0 x1 x2 x3 x4 x5 x6 x7 x8 : Value} {p0 : Int64} {p1 : Int64} {p2 : Int32} {h : AH} : Run M_X8_claps 103 [x0, x1, x2, x3, x4, x5, x6, x7, x8] (.int p2 :: .long p1 :: .long p0 :: []) h = if (Call M_X8_inLowest h [.long p0, .long p1, .int p2]).isSome = true then Run M_X8_claps 106 [x0, x1, x2, x3, x4, x5, x6, x7, x8] (rL (Call M_X8_inLowest h [.long p0, .long p1, .int p2]) ++ []) (cH (Call M_X8_inLowest h [.long p0, .long p1, .int p2])) else none := R_stat d_X8_claps_103 rfl rfl rfl rfl (Nat.le_of_ble_eq_true rfl)
theorem d_X8_claps_106 : decode (mB M_X8_claps) 106 = .ok (.lreturn, 1) := by decide +kernel
theorem r_X8_claps_106 {x0 x1 x2 x3 x4 x5 x6 x7 x8 : Value} {v : Int64} {h : AH} : Run M_X8_claps 106 [x0, x1, x2, x3, x4, x5, x6, x7, x8] [.long v] h = some (h, some (.long v)) := R_lreturn d_X8_claps_106 rfl
theorem d_X8_lost_0 : decode (mB M_X8_lost) 0 = .ok (.aload_n 0, 1) := by decide +kernel
theorem r_X8_lost_0 {x1 x2 : Value} {a : Nat} {st : List Value} {h : AH} : Run M_X8_lost 0 [.ref a, x1, x2] st h = Run M_X8_lost 1 [.ref a, x1, x2] (.ref a :: st) h := R_aload_n d_X8_lost_0 rfl
theorem d_X8_lost_1 : decode (mB M_X8_lost) 1 = .ok (.getfield 57, 3) := by decide +kernel
theorem r_X8_lost_1 {x0 x1 x2 : Value} {a : Nat} {st : List Value} {h : AH} : Run M_X8_lost 1 [x0, x1, x2] (.ref a :: st) h = if (gF h a 8 7).isSome = true then Run M_X8_lost 4 [x0, x1, x2] ((gF h a 8 7).getD .null :: st) h else none := R_getfield d_X8_lost_1 rfl
theorem d_X8_lost_4 : decode (mB M_X8_lost) 4 = .ok (.iload_n 1, 1) := by decide +kernel
theorem r_X8_lost_4 {x0 x2 : Value} {a : Int32} {st : List Value} {h : AH} : Run M_X8_lost 4 [x0, .int a, x2] st h = Run M_X8_lost 5 [x0, .int a, x2] (.int a :: st) h := R_iload_n d_X8_lost_4 rfl
theorem d_X8_lost_5 : decode (mB M_X8_lost) 5 = .ok (.invokevirtual 128, 3) := by decide +kernel
theorem r_X8_lost_5 {x0 x1 x2 : Value} {p0 : Int32} {a : Nat} {h : AH} : Run M_X8_lost 5 [x0, x1, x2] (.int p0 :: .ref a :: []) h = if refO h 4 (some (.ref a)) = true then (if (Call M_X4_hasPart h [.ref a, .int p0]).isSome = true then Run M_X8_lost 8 [x0, x1, x2] (rL (Call M_X4_hasPart h [.ref a, .int p0]) ++ []) (cH (Call M_X4_hasPart h [.ref a, .int p0])) else none) else none := R_virt d_X8_lost_5 rfl rfl rfl rfl rfl (Nat.le_of_ble_eq_true rfl)
theorem d_X8_lost_8 : decode (mB M_X8_lost) 8 = .ok (.ifCond .ne 6, 3) := by decide +kernel
theorem r_X8_lost_8 {x0 x1 x2 : Value} {x : Int32} {st : List Value} {h : AH} : Run M_X8_lost 8 [x0, x1, x2] (.int x :: st) h = if x = nI 0 then Run M_X8_lost 11 [x0, x1, x2] st h else Run M_X8_lost 14 [x0, x1, x2] st h := R_if_ne d_X8_lost_8 (by decide)
theorem d_X8_lost_11 : decode (mB M_X8_lost) 11 = .ok (.ldc 131, 2) := by decide +kernel
theorem r_X8_lost_11 {x0 x1 x2 : Value} {st : List Value} {h : AH} : Run M_X8_lost 11 [x0, x1, x2] st h = Run M_X8_lost 13 [x0, x1, x2] (.int (-1000000001) :: st) h := R_ldc d_X8_lost_11 (by decide)
theorem d_X8_lost_13 : decode (mB M_X8_lost) 13 = .ok (.ireturn, 1) := by decide +kernel
theorem r_X8_lost_13 {x0 x1 x2 : Value} {v : Int32} {h : AH} : Run M_X8_lost 13 [x0, x1, x2] [.int v] h = some (h, some (.int v)) := R_ireturn d_X8_lost_13 rfl rfl
theorem d_X8_lost_14 : decode (mB M_X8_lost) 14 = .ok (.iload_n 2, 1) := by decide +kernel
theorem r_X8_lost_14 {x0 x1 : Value} {a : Int32} {st : List Value} {h : AH} : Run M_X8_lost 14 [x0, x1, .int a] st h = Run M_X8_lost 15 [x0, x1, .int a] (.int a :: st) h := R_iload_n d_X8_lost_14 rfl
theorem d_X8_lost_15 : decode (mB M_X8_lost) 15 = .ok (.iconst 0, 1) := by decide +kernel
theorem r_X8_lost_15 {x0 x1 x2 : Value} {st : List Value} {h : AH} : Run M_X8_lost 15 [x0, x1, x2] st h = Run M_X8_lost 16 [x0, x1, x2] (.int (nI 0) :: st) h := R_iconst d_X8_lost_15 (by decide)
theorem d_X8_lost_16 : decode (mB M_X8_lost) 16 = .ok (.bipush 11, 2) := by decide +kernel
theorem r_X8_lost_16 {x0 x1 x2 : Value} {st : List Value} {h : AH} : Run M_X8_lost 16 [x0, x1, x2] st h = Run M_X8_lost 18 [x0, x1, x2] (.int (nI 11) :: st) h := R_bipush d_X8_lost_16 (by decide)
theorem d_X8_lost_18 : decode (mB M_X8_lost) 18 = .ok (.invokestatic 65, 3) := by decide +kernel
theorem r_X8_lost_18 {x0 x1 x2 : Value} {p0 : Int32} {p1 : Int32} {p2 : Int32} {h : AH} : Run M_X8_lost 18 [x0, x1, x2] (.int p2 :: .int p1 :: .int p0 :: []) h = if (Call M_X8_within h [.int p0, .int p1, .int p2]).isSome = true then Run M_X8_lost 21 [x0, x1, x2] (rL (Call M_X8_within h [.int p0, .int p1, .int p2]) ++ []) (cH (Call M_X8_within h [.int p0, .int p1, .int p2])) else none := R_stat d_X8_lost_18 rfl rfl rfl rfl (Nat.le_of_ble_eq_true rfl)
theorem d_X8_lost_21 : decode (mB M_X8_lost) 21 = .ok (.ifCond .ne 6, 3) := by decide +kernel
theorem r_X8_lost_21 {x0 x1 x2 : Value} {x : Int32} {st : List Value} {h : AH} : Run M_X8_lost 21 [x0, x1, x2] (.int x :: st) h = if x = nI 0 then Run M_X8_lost 24 [x0, x1, x2] st h else Run M_X8_lost 27 [x0, x1, x2] st h := R_if_ne d_X8_lost_21 (by decide)
theorem d_X8_lost_24 : decode (mB M_X8_lost) 24 = .ok (.ldc 69, 2) := by decide +kernel
theorem r_X8_lost_24 {x0 x1 x2 : Value} {st : List Value} {h : AH} : Run M_X8_lost 24 [x0, x1, x2] st h = Run M_X8_lost 26 [x0, x1, x2] (.int (-1000000002) :: st) h := R_ldc d_X8_lost_24 (by decide)
theorem d_X8_lost_26 : decode (mB M_X8_lost) 26 = .ok (.ireturn, 1) := by decide +kernel
theorem r_X8_lost_26 {x0 x1 x2 : Value} {v : Int32} {h : AH} : Run M_X8_lost 26 [x0, x1, x2] [.int v] h = some (h, some (.int v)) := R_ireturn d_X8_lost_26 rfl rfl
theorem d_X8_lost_27 : decode (mB M_X8_lost) 27 = .ok (.iload_n 2, 1) := by decide +kernel
theorem r_X8_lost_27 {x0 x1 : Value} {a : Int32} {st : List Value} {h : AH} : Run M_X8_lost 27 [x0, x1, .int a] st h = Run M_X8_lost 28 [x0, x1, .int a] (.int a :: st) h := R_iload_n d_X8_lost_27 rfl
theorem d_X8_lost_28 : decode (mB M_X8_lost) 28 = .ok (.aload_n 0, 1) := by decide +kernel
theorem r_X8_lost_28 {x1 x2 : Value} {a : Nat} {st : List Value} {h : AH} : Run M_X8_lost 28 [.ref a, x1, x2] st h = Run M_X8_lost 29 [.ref a, x1, x2] (.ref a :: st) h := R_aload_n d_X8_lost_28 rfl
theorem d_X8_lost_29 : decode (mB M_X8_lost) 29 = .ok (.getfield 57, 3) := by decide +kernel
theorem r_X8_lost_29 {x0 x1 x2 : Value} {a : Nat} {st : List Value} {h : AH} : Run M_X8_lost 29 [x0, x1, x2] (.ref a :: st) h = if (gF h a 8 7).isSome = true then Run M_X8_lost 32 [x0, x1, x2] ((gF h a 8 7).getD .null :: st) h else none := R_getfield d_X8_lost_29 rfl
theorem d_X8_lost_32 : decode (mB M_X8_lost) 32 = .ok (.getfield 132, 3) := by decide +kernel
theorem r_X8_lost_32 {x0 x1 x2 : Value} {a : Nat} {st : List Value} {h : AH} : Run M_X8_lost 32 [x0, x1, x2] (.ref a :: st) h = if (gF h a 4 1).isSome = true then Run M_X8_lost 35 [x0, x1, x2] ((gF h a 4 1).getD .null :: st) h else none := R_getfield d_X8_lost_32 rfl
theorem d_X8_lost_35 : decode (mB M_X8_lost) 35 = .ok (.iload_n 1, 1) := by decide +kernel
theorem r_X8_lost_35 {x0 x2 : Value} {a : Int32} {st : List Value} {h : AH} : Run M_X8_lost 35 [x0, .int a, x2] st h = Run M_X8_lost 36 [x0, .int a, x2] (.int a :: st) h := R_iload_n d_X8_lost_35 rfl
theorem d_X8_lost_36 : decode (mB M_X8_lost) 36 = .ok (.aaload, 1) := by decide +kernel
theorem r_X8_lost_36 {x0 x1 x2 : Value} {a : Nat} {i : Int32} {st : List Value} {h : AH} : Run M_X8_lost 36 [x0, x1, x2] (.int i :: .ref a :: st) h = if (gR h a i).isSome = true then Run M_X8_lost 37 [x0, x1, x2] (.ref ((gR h a i).getD 0) :: st) h else none := R_aaload d_X8_lost_36
theorem d_X8_lost_37 : decode (mB M_X8_lost) 37 = .ok (.getfield 144, 3) := by decide +kernel
theorem r_X8_lost_37 {x0 x1 x2 : Value} {a : Nat} {st : List Value} {h : AH} : Run M_X8_lost 37 [x0, x1, x2] (.ref a :: st) h = if (gF h a 6 2).isSome = true then Run M_X8_lost 40 [x0, x1, x2] ((gF h a 6 2).getD .null :: st) h else none := R_getfield d_X8_lost_37 rfl
theorem d_X8_lost_40 : decode (mB M_X8_lost) 40 = .ok (.invokestatic 264, 3) := by decide +kernel
theorem r_X8_lost_40 {x0 x1 x2 : Value} {p0 : Int32} {p1 : Int32} {h : AH} : Run M_X8_lost 40 [x0, x1, x2] (.int p1 :: .int p0 :: []) h = if (Call M_X8_steps h [.int p0, .int p1]).isSome = true then Run M_X8_lost 43 [x0, x1, x2] (rL (Call M_X8_steps h [.int p0, .int p1]) ++ []) (cH (Call M_X8_steps h [.int p0, .int p1])) else none := R_stat d_X8_lost_40 rfl rfl rfl rfl (Nat.le_of_ble_eq_true rfl)
theorem d_X8_lost_43 : decode (mB M_X8_lost) 43 = .ok (.ireturn, 1) := by decide +kernel
theorem r_X8_lost_43 {x0 x1 x2 : Value} {v : Int32} {h : AH} : Run M_X8_lost 43 [x0, x1, x2] [.int v] h = some (h, some (.int v)) := R_ireturn d_X8_lost_43 rfl rfl
theorem d_X8_help_0 : decode (mB M_X8_help) 0 = .ok (.aload_n 0, 1) := by decide +kernel
theorem r_X8_help_0 {x1 x2 x3 x4 x5 x6 x7 : Value} {a : Nat} {st : List Value} {h : AH} : Run M_X8_help 0 [.ref a, x1, x2, x3, x4, x5, x6, x7] st h = Run M_X8_help 1 [.ref a, x1, x2, x3, x4, x5, x6, x7] (.ref a :: st) h := R_aload_n d_X8_help_0 rfl
theorem d_X8_help_1 : decode (mB M_X8_help) 1 = .ok (.getfield 57, 3) := by decide +kernel
theorem r_X8_help_1 {x0 x1 x2 x3 x4 x5 x6 x7 : Value} {a : Nat} {st : List Value} {h : AH} : Run M_X8_help 1 [x0, x1, x2, x3, x4, x5, x6, x7] (.ref a :: st) h = if (gF h a 8 7).isSome = true then Run M_X8_help 4 [x0, x1, x2, x3, x4, x5, x6, x7] ((gF h a 8 7).getD .null :: st) h else none := R_getfield d_X8_help_1 rfl
theorem d_X8_help_4 : decode (mB M_X8_help) 4 = .ok (.iload_n 1, 1) := by decide +kernel
theorem r_X8_help_4 {x0 x2 x3 x4 x5 x6 x7 : Value} {a : Int32} {st : List Value} {h : AH} : Run M_X8_help 4 [x0, .int a, x2, x3, x4, x5, x6, x7] st h = Run M_X8_help 5 [x0, .int a, x2, x3, x4, x5, x6, x7] (.int a :: st) h := R_iload_n d_X8_help_4 rfl
theorem d_X8_help_5 : decode (mB M_X8_help) 5 = .ok (.invokevirtual 128, 3) := by decide +kernel
theorem r_X8_help_5 {x0 x1 x2 x3 x4 x5 x6 x7 : Value} {p0 : Int32} {a : Nat} {h : AH} : Run M_X8_help 5 [x0, x1, x2, x3, x4, x5, x6, x7] (.int p0 :: .ref a :: []) h = if refO h 4 (some (.ref a)) = true then (if (Call M_X4_hasPart h [.ref a, .int p0]).isSome = true then Run M_X8_help 8 [x0, x1, x2, x3, x4, x5, x6, x7] (rL (Call M_X4_hasPart h [.ref a, .int p0]) ++ []) (cH (Call M_X4_hasPart h [.ref a, .int p0])) else none) else none := R_virt d_X8_help_5 rfl rfl rfl rfl rfl (Nat.le_of_ble_eq_true rfl)
theorem d_X8_help_8 : decode (mB M_X8_help) 8 = .ok (.ifCond .ne 6, 3) := by decide +kernel
theorem r_X8_help_8 {x0 x1 x2 x3 x4 x5 x6 x7 : Value} {x : Int32} {st : List Value} {h : AH} : Run M_X8_help 8 [x0, x1, x2, x3, x4, x5, x6, x7] (.int x :: st) h = if x = nI 0 then Run M_X8_help 11 [x0, x1, x2, x3, x4, x5, x6, x7] st h else Run M_X8_help 14 [x0, x1, x2, x3, x4, x5, x6, x7] st h := R_if_ne d_X8_help_8 (by decide)
theorem d_X8_help_11 : decode (mB M_X8_help) 11 = .ok (.ldc 131, 2) := by decide +kernel
theorem r_X8_help_11 {x0 x1 x2 x3 x4 x5 x6 x7 : Value} {st : List Value} {h : AH} : Run M_X8_help 11 [x0, x1, x2, x3, x4, x5, x6, x7] st h = Run M_X8_help 13 [x0, x1, x2, x3, x4, x5, x6, x7] (.int (-1000000001) :: st) h := R_ldc d_X8_help_11 (by decide)
theorem d_X8_help_13 : decode (mB M_X8_help) 13 = .ok (.ireturn, 1) := by decide +kernel
theorem r_X8_help_13 {x0 x1 x2 x3 x4 x5 x6 x7 : Value} {v : Int32} {h : AH} : Run M_X8_help 13 [x0, x1, x2, x3, x4, x5, x6, x7] [.int v] h = some (h, some (.int v)) := R_ireturn d_X8_help_13 rfl rfl
theorem d_X8_help_14 : decode (mB M_X8_help) 14 = .ok (.iload_n 2, 1) := by decide +kernel
theorem r_X8_help_14 {x0 x1 x3 x4 x5 x6 x7 : Value} {a : Int32} {st : List Value} {h : AH} : Run M_X8_help 14 [x0, x1, .int a, x3, x4, x5, x6, x7] st h = Run M_X8_help 15 [x0, x1, .int a, x3, x4, x5, x6, x7] (.int a :: st) h := R_iload_n d_X8_help_14 rfl
theorem d_X8_help_15 : decode (mB M_X8_help) 15 = .ok (.iconst 0, 1) := by decide +kernel
theorem r_X8_help_15 {x0 x1 x2 x3 x4 x5 x6 x7 : Value} {st : List Value} {h : AH} : Run M_X8_help 15 [x0, x1, x2, x3, x4, x5, x6, x7] st h = Run M_X8_help 16 [x0, x1, x2, x3, x4, x5, x6, x7] (.int (nI 0) :: st) h := R_iconst d_X8_help_15 (by decide)
theorem d_X8_help_16 : decode (mB M_X8_help) 16 = .ok (.bipush 11, 2) := by decide +kernel
theorem r_X8_help_16 {x0 x1 x2 x3 x4 x5 x6 x7 : Value} {st : List Value} {h : AH} : Run M_X8_help 16 [x0, x1, x2, x3, x4, x5, x6, x7] st h = Run M_X8_help 18 [x0, x1, x2, x3, x4, x5, x6, x7] (.int (nI 11) :: st) h := R_bipush d_X8_help_16 (by decide)
theorem d_X8_help_18 : decode (mB M_X8_help) 18 = .ok (.invokestatic 65, 3) := by decide +kernel
theorem r_X8_help_18 {x0 x1 x2 x3 x4 x5 x6 x7 : Value} {p0 : Int32} {p1 : Int32} {p2 : Int32} {h : AH} : Run M_X8_help 18 [x0, x1, x2, x3, x4, x5, x6, x7] (.int p2 :: .int p1 :: .int p0 :: []) h = if (Call M_X8_within h [.int p0, .int p1, .int p2]).isSome = true then Run M_X8_help 21 [x0, x1, x2, x3, x4, x5, x6, x7] (rL (Call M_X8_within h [.int p0, .int p1, .int p2]) ++ []) (cH (Call M_X8_within h [.int p0, .int p1, .int p2])) else none := R_stat d_X8_help_18 rfl rfl rfl rfl (Nat.le_of_ble_eq_true rfl)
theorem d_X8_help_21 : decode (mB M_X8_help) 21 = .ok (.ifCond .ne 6, 3) := by decide +kernel
theorem r_X8_help_21 {x0 x1 x2 x3 x4 x5 x6 x7 : Value} {x : Int32} {st : List Value} {h : AH} : Run M_X8_help 21 [x0, x1, x2, x3, x4, x5, x6, x7] (.int x :: st) h = if x = nI 0 then Run M_X8_help 24 [x0, x1, x2, x3, x4, x5, x6, x7] st h else Run M_X8_help 27 [x0, x1, x2, x3, x4, x5, x6, x7] st h := R_if_ne d_X8_help_21 (by decide)
theorem d_X8_help_24 : decode (mB M_X8_help) 24 = .ok (.ldc 69, 2) := by decide +kernel
theorem r_X8_help_24 {x0 x1 x2 x3 x4 x5 x6 x7 : Value} {st : List Value} {h : AH} : Run M_X8_help 24 [x0, x1, x2, x3, x4, x5, x6, x7] st h = Run M_X8_help 26 [x0, x1, x2, x3, x4, x5, x6, x7] (.int (-1000000002) :: st) h := R_ldc d_X8_help_24 (by decide)
theorem d_X8_help_26 : decode (mB M_X8_help) 26 = .ok (.ireturn, 1) := by decide +kernel
theorem r_X8_help_26 {x0 x1 x2 x3 x4 x5 x6 x7 : Value} {v : Int32} {h : AH} : Run M_X8_help 26 [x0, x1, x2, x3, x4, x5, x6, x7] [.int v] h = some (h, some (.int v)) := R_ireturn d_X8_help_26 rfl rfl
theorem d_X8_help_27 : decode (mB M_X8_help) 27 = .ok (.iconst (-1), 1) := by decide +kernel
theorem r_X8_help_27 {x0 x1 x2 x3 x4 x5 x6 x7 : Value} {st : List Value} {h : AH} : Run M_X8_help 27 [x0, x1, x2, x3, x4, x5, x6, x7] st h = Run M_X8_help 28 [x0, x1, x2, x3, x4, x5, x6, x7] (.int (-1) :: st) h := R_iconst d_X8_help_27 (by decide)
theorem d_X8_help_28 : decode (mB M_X8_help) 28 = .ok (.istore_n 3, 1) := by decide +kernel
theorem r_X8_help_28 {x0 x1 x2 x3 x4 x5 x6 x7 : Value} {a : Int32} {st : List Value} {h : AH} (hc : x2.category = 1) : Run M_X8_help 28 [x0, x1, x2, x3, x4, x5, x6, x7] (.int a :: st) h = Run M_X8_help 29 [x0, x1, x2, .int a, x4, x5, x6, x7] st h := R_istore_n d_X8_help_28 (Nat.lt_of_lt_of_le (by decide : 3 < 8) (Nat.le_refl 8)) (catP_of rfl hc)
theorem d_X8_help_29 : decode (mB M_X8_help) 29 = .ok (.iconst 0, 1) := by decide +kernel
theorem r_X8_help_29 {x0 x1 x2 x3 x4 x5 x6 x7 : Value} {st : List Value} {h : AH} : Run M_X8_help 29 [x0, x1, x2, x3, x4, x5, x6, x7] st h = Run M_X8_help 30 [x0, x1, x2, x3, x4, x5, x6, x7] (.int (nI 0) :: st) h := R_iconst d_X8_help_29 (by decide)
theorem d_X8_help_30 : decode (mB M_X8_help) 30 = .ok (.istore 4, 2) := by decide +kernel
theorem r_X8_help_30 {x0 x1 x2 x3 x4 x5 x6 x7 : Value} {a : Int32} {st : List Value} {h : AH} (hc : x3.category = 1) : Run M_X8_help 30 [x0, x1, x2, x3, x4, x5, x6, x7] (.int a :: st) h = Run M_X8_help 32 [x0, x1, x2, x3, .int a, x5, x6, x7] st h := R_istore d_X8_help_30 (Nat.lt_of_lt_of_le (by decide : 4 < 8) (Nat.le_refl 8)) (catP_of rfl hc)
theorem d_X8_help_32 : decode (mB M_X8_help) 32 = .ok (.iconst 0, 1) := by decide +kernel
theorem r_X8_help_32 {x0 x1 x2 x3 x4 x5 x6 x7 : Value} {st : List Value} {h : AH} : Run M_X8_help 32 [x0, x1, x2, x3, x4, x5, x6, x7] st h = Run M_X8_help 33 [x0, x1, x2, x3, x4, x5, x6, x7] (.int (nI 0) :: st) h := R_iconst d_X8_help_32 (by decide)
theorem d_X8_help_33 : decode (mB M_X8_help) 33 = .ok (.istore 5, 2) := by decide +kernel
theorem r_X8_help_33 {x0 x1 x2 x3 x4 x5 x6 x7 : Value} {a : Int32} {st : List Value} {h : AH} (hc : x4.category = 1) : Run M_X8_help 33 [x0, x1, x2, x3, x4, x5, x6, x7] (.int a :: st) h = Run M_X8_help 35 [x0, x1, x2, x3, x4, .int a, x6, x7] st h := R_istore d_X8_help_33 (Nat.lt_of_lt_of_le (by decide : 5 < 8) (Nat.le_refl 8)) (catP_of rfl hc)
theorem d_X8_help_35 : decode (mB M_X8_help) 35 = .ok (.iload 5, 2) := by decide +kernel
theorem r_X8_help_35 {x0 x1 x2 x3 x4 x6 x7 : Value} {a : Int32} {st : List Value} {h : AH} : Run M_X8_help 35 [x0, x1, x2, x3, x4, .int a, x6, x7] st h = Run M_X8_help 37 [x0, x1, x2, x3, x4, .int a, x6, x7] (.int a :: st) h := R_iload d_X8_help_35 rfl
theorem d_X8_help_37 : decode (mB M_X8_help) 37 = .ok (.aload_n 0, 1) := by decide +kernel
theorem r_X8_help_37 {x1 x2 x3 x4 x5 x6 x7 : Value} {a : Nat} {st : List Value} {h : AH} : Run M_X8_help 37 [.ref a, x1, x2, x3, x4, x5, x6, x7] st h = Run M_X8_help 38 [.ref a, x1, x2, x3, x4, x5, x6, x7] (.ref a :: st) h := R_aload_n d_X8_help_37 rfl
theorem d_X8_help_38 : decode (mB M_X8_help) 38 = .ok (.getfield 57, 3) := by decide +kernel
theorem r_X8_help_38 {x0 x1 x2 x3 x4 x5 x6 x7 : Value} {a : Nat} {st : List Value} {h : AH} : Run M_X8_help 38 [x0, x1, x2, x3, x4, x5, x6, x7] (.ref a :: st) h = if (gF h a 8 7).isSome = true then Run M_X8_help 41 [x0, x1, x2, x3, x4, x5, x6, x7] ((gF h a 8 7).getD .null :: st) h else none := R_getfield d_X8_help_38 rfl
theorem d_X8_help_41 : decode (mB M_X8_help) 41 = .ok (.getfield 99, 3) := by decide +kernel
theorem r_X8_help_41 {x0 x1 x2 x3 x4 x5 x6 x7 : Value} {a : Nat} {st : List Value} {h : AH} : Run M_X8_help 41 [x0, x1, x2, x3, x4, x5, x6, x7] (.ref a :: st) h = if (gF h a 4 3).isSome = true then Run M_X8_help 44 [x0, x1, x2, x3, x4, x5, x6, x7] ((gF h a 4 3).getD .null :: st) h else none := R_getfield d_X8_help_41 rfl
theorem d_X8_help_44 : decode (mB M_X8_help) 44 = .ok (.if_icmp .ge 81, 3) := by decide +kernel
theorem r_X8_help_44 {x0 x1 x2 x3 x4 x5 x6 x7 : Value} {x y : Int32} {st : List Value} {h : AH} : Run M_X8_help 44 [x0, x1, x2, x3, x4, x5, x6, x7] (.int y :: .int x :: st) h = if y ≤ x then Run M_X8_help 125 [x0, x1, x2, x3, x4, x5, x6, x7] st h else Run M_X8_help 47 [x0, x1, x2, x3, x4, x5, x6, x7] st h := R_icmp_ge d_X8_help_44 (by decide)
theorem d_X8_help_47 : decode (mB M_X8_help) 47 = .ok (.aload_n 0, 1) := by decide +kernel
theorem r_X8_help_47 {x1 x2 x3 x4 x5 x6 x7 : Value} {a : Nat} {st : List Value} {h : AH} : Run M_X8_help 47 [.ref a, x1, x2, x3, x4, x5, x6, x7] st h = Run M_X8_help 48 [.ref a, x1, x2, x3, x4, x5, x6, x7] (.ref a :: st) h := R_aload_n d_X8_help_47 rfl
theorem d_X8_help_48 : decode (mB M_X8_help) 48 = .ok (.getfield 57, 3) := by decide +kernel
theorem r_X8_help_48 {x0 x1 x2 x3 x4 x5 x6 x7 : Value} {a : Nat} {st : List Value} {h : AH} : Run M_X8_help 48 [x0, x1, x2, x3, x4, x5, x6, x7] (.ref a :: st) h = if (gF h a 8 7).isSome = true then Run M_X8_help 51 [x0, x1, x2, x3, x4, x5, x6, x7] ((gF h a 8 7).getD .null :: st) h else none := R_getfield d_X8_help_48 rfl
theorem d_X8_help_51 : decode (mB M_X8_help) 51 = .ok (.getfield 163, 3) := by decide +kernel
theorem r_X8_help_51 {x0 x1 x2 x3 x4 x5 x6 x7 : Value} {a : Nat} {st : List Value} {h : AH} : Run M_X8_help 51 [x0, x1, x2, x3, x4, x5, x6, x7] (.ref a :: st) h = if (gF h a 4 4).isSome = true then Run M_X8_help 54 [x0, x1, x2, x3, x4, x5, x6, x7] ((gF h a 4 4).getD .null :: st) h else none := R_getfield d_X8_help_51 rfl
theorem d_X8_help_54 : decode (mB M_X8_help) 54 = .ok (.iload 5, 2) := by decide +kernel
theorem r_X8_help_54 {x0 x1 x2 x3 x4 x6 x7 : Value} {a : Int32} {st : List Value} {h : AH} : Run M_X8_help 54 [x0, x1, x2, x3, x4, .int a, x6, x7] st h = Run M_X8_help 56 [x0, x1, x2, x3, x4, .int a, x6, x7] (.int a :: st) h := R_iload d_X8_help_54 rfl
theorem d_X8_help_56 : decode (mB M_X8_help) 56 = .ok (.iaload, 1) := by decide +kernel
theorem r_X8_help_56 {x0 x1 x2 x3 x4 x5 x6 x7 : Value} {a : Nat} {i : Int32} {st : List Value} {h : AH} : Run M_X8_help 56 [x0, x1, x2, x3, x4, x5, x6, x7] (.int i :: .ref a :: st) h = if (gI 0 h a i).isSome = true then Run M_X8_help 57 [x0, x1, x2, x3, x4, x5, x6, x7] (.int ((gI 0 h a i).getD 0) :: st) h else none := R_iaload d_X8_help_56
theorem d_X8_help_57 : decode (mB M_X8_help) 57 = .ok (.istore 6, 2) := by decide +kernel
theorem r_X8_help_57 {x0 x1 x2 x3 x4 x5 x6 x7 : Value} {a : Int32} {st : List Value} {h : AH} (hc : x5.category = 1) : Run M_X8_help 57 [x0, x1, x2, x3, x4, x5, x6, x7] (.int a :: st) h = Run M_X8_help 59 [x0, x1, x2, x3, x4, x5, .int a, x7] st h := R_istore d_X8_help_57 (Nat.lt_of_lt_of_le (by decide : 6 < 8) (Nat.le_refl 8)) (catP_of rfl hc)
theorem d_X8_help_59 : decode (mB M_X8_help) 59 = .ok (.aload_n 0, 1) := by decide +kernel
theorem r_X8_help_59 {x1 x2 x3 x4 x5 x6 x7 : Value} {a : Nat} {st : List Value} {h : AH} : Run M_X8_help 59 [.ref a, x1, x2, x3, x4, x5, x6, x7] st h = Run M_X8_help 60 [.ref a, x1, x2, x3, x4, x5, x6, x7] (.ref a :: st) h := R_aload_n d_X8_help_59 rfl
theorem d_X8_help_60 : decode (mB M_X8_help) 60 = .ok (.getfield 57, 3) := by decide +kernel
theorem r_X8_help_60 {x0 x1 x2 x3 x4 x5 x6 x7 : Value} {a : Nat} {st : List Value} {h : AH} : Run M_X8_help 60 [x0, x1, x2, x3, x4, x5, x6, x7] (.ref a :: st) h = if (gF h a 8 7).isSome = true then Run M_X8_help 63 [x0, x1, x2, x3, x4, x5, x6, x7] ((gF h a 8 7).getD .null :: st) h else none := R_getfield d_X8_help_60 rfl
theorem d_X8_help_63 : decode (mB M_X8_help) 63 = .ok (.getfield 166, 3) := by decide +kernel
theorem r_X8_help_63 {x0 x1 x2 x3 x4 x5 x6 x7 : Value} {a : Nat} {st : List Value} {h : AH} : Run M_X8_help 63 [x0, x1, x2, x3, x4, x5, x6, x7] (.ref a :: st) h = if (gF h a 4 5).isSome = true then Run M_X8_help 66 [x0, x1, x2, x3, x4, x5, x6, x7] ((gF h a 4 5).getD .null :: st) h else none := R_getfield d_X8_help_63 rfl
theorem d_X8_help_66 : decode (mB M_X8_help) 66 = .ok (.iload 5, 2) := by decide +kernel
theorem r_X8_help_66 {x0 x1 x2 x3 x4 x6 x7 : Value} {a : Int32} {st : List Value} {h : AH} : Run M_X8_help 66 [x0, x1, x2, x3, x4, .int a, x6, x7] st h = Run M_X8_help 68 [x0, x1, x2, x3, x4, .int a, x6, x7] (.int a :: st) h := R_iload d_X8_help_66 rfl
theorem d_X8_help_68 : decode (mB M_X8_help) 68 = .ok (.iaload, 1) := by decide +kernel
theorem r_X8_help_68 {x0 x1 x2 x3 x4 x5 x6 x7 : Value} {a : Nat} {i : Int32} {st : List Value} {h : AH} : Run M_X8_help 68 [x0, x1, x2, x3, x4, x5, x6, x7] (.int i :: .ref a :: st) h = if (gI 0 h a i).isSome = true then Run M_X8_help 69 [x0, x1, x2, x3, x4, x5, x6, x7] (.int ((gI 0 h a i).getD 0) :: st) h else none := R_iaload d_X8_help_68
theorem d_X8_help_69 : decode (mB M_X8_help) 69 = .ok (.iconst 5, 1) := by decide +kernel
theorem r_X8_help_69 {x0 x1 x2 x3 x4 x5 x6 x7 : Value} {st : List Value} {h : AH} : Run M_X8_help 69 [x0, x1, x2, x3, x4, x5, x6, x7] st h = Run M_X8_help 70 [x0, x1, x2, x3, x4, x5, x6, x7] (.int (nI 5) :: st) h := R_iconst d_X8_help_69 (by decide)
theorem d_X8_help_70 : decode (mB M_X8_help) 70 = .ok (.iload_n 2, 1) := by decide +kernel
theorem r_X8_help_70 {x0 x1 x3 x4 x5 x6 x7 : Value} {a : Int32} {st : List Value} {h : AH} : Run M_X8_help 70 [x0, x1, .int a, x3, x4, x5, x6, x7] st h = Run M_X8_help 71 [x0, x1, .int a, x3, x4, x5, x6, x7] (.int a :: st) h := R_iload_n d_X8_help_70 rfl
theorem d_X8_help_71 : decode (mB M_X8_help) 71 = .ok (.iload 6, 2) := by decide +kernel
theorem r_X8_help_71 {x0 x1 x2 x3 x4 x5 x7 : Value} {a : Int32} {st : List Value} {h : AH} : Run M_X8_help 71 [x0, x1, x2, x3, x4, x5, .int a, x7] st h = Run M_X8_help 73 [x0, x1, x2, x3, x4, x5, .int a, x7] (.int a :: st) h := R_iload d_X8_help_71 rfl
theorem d_X8_help_73 : decode (mB M_X8_help) 73 = .ok (.invokestatic 264, 3) := by decide +kernel
theorem r_X8_help_73 {x0 x1 x2 x3 x4 x5 x6 x7 : Value} {p0 : Int32} {p1 : Int32} {w0 w1 : Value} {h : AH} : Run M_X8_help 73 [x0, x1, x2, x3, x4, x5, x6, x7] (.int p1 :: .int p0 :: [w0, w1]) h = if (Call M_X8_steps h [.int p0, .int p1]).isSome = true then Run M_X8_help 76 [x0, x1, x2, x3, x4, x5, x6, x7] (rL (Call M_X8_steps h [.int p0, .int p1]) ++ [w0, w1]) (cH (Call M_X8_steps h [.int p0, .int p1])) else none := R_stat d_X8_help_73 rfl rfl rfl rfl (Nat.le_of_ble_eq_true rfl)
theorem d_X8_help_76 : decode (mB M_X8_help) 76 = .ok (.imul, 1) := by decide +kernel
theorem r_X8_help_76 {x0 x1 x2 x3 x4 x5 x6 x7 : Value} {x y : Int32} {st : List Value} {h : AH} : Run M_X8_help 76 [x0, x1, x2, x3, x4, x5, x6, x7] (.int y :: .int x :: st) h = Run M_X8_help 77 [x0, x1, x2, x3, x4, x5, x6, x7] (.int (x * y) :: st) h := R_imul d_X8_help_76
theorem d_X8_help_77 : decode (mB M_X8_help) 77 = .ok (.iadd, 1) := by decide +kernel
theorem r_X8_help_77 {x0 x1 x2 x3 x4 x5 x6 x7 : Value} {x y : Int32} {st : List Value} {h : AH} : Run M_X8_help 77 [x0, x1, x2, x3, x4, x5, x6, x7] (.int y :: .int x :: st) h = Run M_X8_help 78 [x0, x1, x2, x3, x4, x5, x6, x7] (.int (x + y) :: st) h := R_iadd d_X8_help_77
theorem d_X8_help_78 : decode (mB M_X8_help) 78 = .ok (.iconst 3, 1) := by decide +kernel
theorem r_X8_help_78 {x0 x1 x2 x3 x4 x5 x6 x7 : Value} {st : List Value} {h : AH} : Run M_X8_help 78 [x0, x1, x2, x3, x4, x5, x6, x7] st h = Run M_X8_help 79 [x0, x1, x2, x3, x4, x5, x6, x7] (.int (nI 3) :: st) h := R_iconst d_X8_help_78 (by decide)
theorem d_X8_help_79 : decode (mB M_X8_help) 79 = .ok (.iload 6, 2) := by decide +kernel
theorem r_X8_help_79 {x0 x1 x2 x3 x4 x5 x7 : Value} {a : Int32} {st : List Value} {h : AH} : Run M_X8_help 79 [x0, x1, x2, x3, x4, x5, .int a, x7] st h = Run M_X8_help 81 [x0, x1, x2, x3, x4, x5, .int a, x7] (.int a :: st) h := R_iload d_X8_help_79 rfl
theorem d_X8_help_81 : decode (mB M_X8_help) 81 = .ok (.aload_n 0, 1) := by decide +kernel
theorem r_X8_help_81 {x1 x2 x3 x4 x5 x6 x7 : Value} {a : Nat} {st : List Value} {h : AH} : Run M_X8_help 81 [.ref a, x1, x2, x3, x4, x5, x6, x7] st h = Run M_X8_help 82 [.ref a, x1, x2, x3, x4, x5, x6, x7] (.ref a :: st) h := R_aload_n d_X8_help_81 rfl
theorem d_X8_help_82 : decode (mB M_X8_help) 82 = .ok (.getfield 57, 3) := by decide +kernel
theorem r_X8_help_82 {x0 x1 x2 x3 x4 x5 x6 x7 : Value} {a : Nat} {st : List Value} {h : AH} : Run M_X8_help 82 [x0, x1, x2, x3, x4, x5, x6, x7] (.ref a :: st) h = if (gF h a 8 7).isSome = true then Run M_X8_help 85 [x0, x1, x2, x3, x4, x5, x6, x7] ((gF h a 8 7).getD .null :: st) h else none := R_getfield d_X8_help_82 rfl
theorem d_X8_help_85 : decode (mB M_X8_help) 85 = .ok (.getfield 132, 3) := by decide +kernel
theorem r_X8_help_85 {x0 x1 x2 x3 x4 x5 x6 x7 : Value} {a : Nat} {st : List Value} {h : AH} : Run M_X8_help 85 [x0, x1, x2, x3, x4, x5, x6, x7] (.ref a :: st) h = if (gF h a 4 1).isSome = true then Run M_X8_help 88 [x0, x1, x2, x3, x4, x5, x6, x7] ((gF h a 4 1).getD .null :: st) h else none := R_getfield d_X8_help_85 rfl
theorem d_X8_help_88 : decode (mB M_X8_help) 88 = .ok (.iload_n 1, 1) := by decide +kernel
theorem r_X8_help_88 {x0 x2 x3 x4 x5 x6 x7 : Value} {a : Int32} {st : List Value} {h : AH} : Run M_X8_help 88 [x0, .int a, x2, x3, x4, x5, x6, x7] st h = Run M_X8_help 89 [x0, .int a, x2, x3, x4, x5, x6, x7] (.int a :: st) h := R_iload_n d_X8_help_88 rfl
theorem d_X8_help_89 : decode (mB M_X8_help) 89 = .ok (.aaload, 1) := by decide +kernel
theorem r_X8_help_89 {x0 x1 x2 x3 x4 x5 x6 x7 : Value} {a : Nat} {i : Int32} {st : List Value} {h : AH} : Run M_X8_help 89 [x0, x1, x2, x3, x4, x5, x6, x7] (.int i :: .ref a :: st) h = if (gR h a i).isSome = true then Run M_X8_help 90 [x0, x1, x2, x3, x4, x5, x6, x7] (.ref ((gR h a i).getD 0) :: st) h else none := R_aaload d_X8_help_89
theorem d_X8_help_90 : decode (mB M_X8_help) 90 = .ok (.getfield 144, 3) := by decide +kernel
theorem r_X8_help_90 {x0 x1 x2 x3 x4 x5 x6 x7 : Value} {a : Nat} {st : List Value} {h : AH} : Run M_X8_help 90 [x0, x1, x2, x3, x4, x5, x6, x7] (.ref a :: st) h = if (gF h a 6 2).isSome = true then Run M_X8_help 93 [x0, x1, x2, x3, x4, x5, x6, x7] ((gF h a 6 2).getD .null :: st) h else none := R_getfield d_X8_help_90 rfl
theorem d_X8_help_93 : decode (mB M_X8_help) 93 = .ok (.invokestatic 264, 3) := by decide +kernel
theorem r_X8_help_93 {x0 x1 x2 x3 x4 x5 x6 x7 : Value} {p0 : Int32} {p1 : Int32} {w0 w1 : Value} {h : AH} : Run M_X8_help 93 [x0, x1, x2, x3, x4, x5, x6, x7] (.int p1 :: .int p0 :: [w0, w1]) h = if (Call M_X8_steps h [.int p0, .int p1]).isSome = true then Run M_X8_help 96 [x0, x1, x2, x3, x4, x5, x6, x7] (rL (Call M_X8_steps h [.int p0, .int p1]) ++ [w0, w1]) (cH (Call M_X8_steps h [.int p0, .int p1])) else none := R_stat d_X8_help_93 rfl rfl rfl rfl (Nat.le_of_ble_eq_true rfl)
theorem d_X8_help_96 : decode (mB M_X8_help) 96 = .ok (.imul, 1) := by decide +kernel
theorem r_X8_help_96 {x0 x1 x2 x3 x4 x5 x6 x7 : Value} {x y : Int32} {st : List Value} {h : AH} : Run M_X8_help 96 [x0, x1, x2, x3, x4, x5, x6, x7] (.int y :: .int x :: st) h = Run M_X8_help 97 [x0, x1, x2, x3, x4, x5, x6, x7] (.int (x * y) :: st) h := R_imul d_X8_help_96
theorem d_X8_help_97 : decode (mB M_X8_help) 97 = .ok (.iadd, 1) := by decide +kernel
theorem r_X8_help_97 {x0 x1 x2 x3 x4 x5 x6 x7 : Value} {x y : Int32} {st : List Value} {h : AH} : Run M_X8_help 97 [x0, x1, x2, x3, x4, x5, x6, x7] (.int y :: .int x :: st) h = Run M_X8_help 98 [x0, x1, x2, x3, x4, x5, x6, x7] (.int (x + y) :: st) h := R_iadd d_X8_help_97
theorem d_X8_help_98 : decode (mB M_X8_help) 98 = .ok (.istore 7, 2) := by decide +kernel
theorem r_X8_help_98 {x0 x1 x2 x3 x4 x5 x6 x7 : Value} {a : Int32} {st : List Value} {h : AH} (hc : x6.category = 1) : Run M_X8_help 98 [x0, x1, x2, x3, x4, x5, x6, x7] (.int a :: st) h = Run M_X8_help 100 [x0, x1, x2, x3, x4, x5, x6, .int a] st h := R_istore d_X8_help_98 (Nat.lt_of_lt_of_le (by decide : 7 < 8) (Nat.le_refl 8)) (catP_of rfl hc)
theorem d_X8_help_100 : decode (mB M_X8_help) 100 = .ok (.iload_n 3, 1) := by decide +kernel
theorem r_X8_help_100 {x0 x1 x2 x4 x5 x6 x7 : Value} {a : Int32} {st : List Value} {h : AH} : Run M_X8_help 100 [x0, x1, x2, .int a, x4, x5, x6, x7] st h = Run M_X8_help 101 [x0, x1, x2, .int a, x4, x5, x6, x7] (.int a :: st) h := R_iload_n d_X8_help_100 rfl
theorem d_X8_help_101 : decode (mB M_X8_help) 101 = .ok (.iconst (-1), 1) := by decide +kernel
theorem r_X8_help_101 {x0 x1 x2 x3 x4 x5 x6 x7 : Value} {st : List Value} {h : AH} : Run M_X8_help 101 [x0, x1, x2, x3, x4, x5, x6, x7] st h = Run M_X8_help 102 [x0, x1, x2, x3, x4, x5, x6, x7] (.int (-1) :: st) h := R_iconst d_X8_help_101 (by decide)
theorem d_X8_help_102 : decode (mB M_X8_help) 102 = .ok (.if_icmp .eq 10, 3) := by decide +kernel
theorem r_X8_help_102 {x0 x1 x2 x3 x4 x5 x6 x7 : Value} {x y : Int32} {st : List Value} {h : AH} : Run M_X8_help 102 [x0, x1, x2, x3, x4, x5, x6, x7] (.int y :: .int x :: st) h = if x = y then Run M_X8_help 112 [x0, x1, x2, x3, x4, x5, x6, x7] st h else Run M_X8_help 105 [x0, x1, x2, x3, x4, x5, x6, x7] st h := R_icmp_eq d_X8_help_102 (by decide)
theorem d_X8_help_105 : decode (mB M_X8_help) 105 = .ok (.iload 7, 2) := by decide +kernel
theorem r_X8_help_105 {x0 x1 x2 x3 x4 x5 x6 : Value} {a : Int32} {st : List Value} {h : AH} : Run M_X8_help 105 [x0, x1, x2, x3, x4, x5, x6, .int a] st h = Run M_X8_help 107 [x0, x1, x2, x3, x4, x5, x6, .int a] (.int a :: st) h := R_iload d_X8_help_105 rfl
theorem d_X8_help_107 : decode (mB M_X8_help) 107 = .ok (.iload 4, 2) := by decide +kernel
theorem r_X8_help_107 {x0 x1 x2 x3 x5 x6 x7 : Value} {a : Int32} {st : List Value} {h : AH} : Run M_X8_help 107 [x0, x1, x2, x3, .int a, x5, x6, x7] st h = Run M_X8_help 109 [x0, x1, x2, x3, .int a, x5, x6, x7] (.int a :: st) h := R_iload d_X8_help_107 rfl
theorem d_X8_help_109 : decode (mB M_X8_help) 109 = .ok (.if_icmp .ge 10, 3) := by decide +kernel
theorem r_X8_help_109 {x0 x1 x2 x3 x4 x5 x6 x7 : Value} {x y : Int32} {st : List Value} {h : AH} : Run M_X8_help 109 [x0, x1, x2, x3, x4, x5, x6, x7] (.int y :: .int x :: st) h = if y ≤ x then Run M_X8_help 119 [x0, x1, x2, x3, x4, x5, x6, x7] st h else Run M_X8_help 112 [x0, x1, x2, x3, x4, x5, x6, x7] st h := R_icmp_ge d_X8_help_109 (by decide)
theorem d_X8_help_112 : decode (mB M_X8_help) 112 = .ok (.iload 7, 2) := by decide +kernel
theorem r_X8_help_112 {x0 x1 x2 x3 x4 x5 x6 : Value} {a : Int32} {st : List Value} {h : AH} : Run M_X8_help 112 [x0, x1, x2, x3, x4, x5, x6, .int a] st h = Run M_X8_help 114 [x0, x1, x2, x3, x4, x5, x6, .int a] (.int a :: st) h := R_iload d_X8_help_112 rfl
theorem d_X8_help_114 : decode (mB M_X8_help) 114 = .ok (.istore 4, 2) := by decide +kernel
theorem r_X8_help_114 {x0 x1 x2 x3 x4 x5 x6 x7 : Value} {a : Int32} {st : List Value} {h : AH} (hc : x3.category = 1) : Run M_X8_help 114 [x0, x1, x2, x3, x4, x5, x6, x7] (.int a :: st) h = Run M_X8_help 116 [x0, x1, x2, x3, .int a, x5, x6, x7] st h := R_istore d_X8_help_114 (Nat.lt_of_lt_of_le (by decide : 4 < 8) (Nat.le_refl 8)) (catP_of rfl hc)
theorem d_X8_help_116 : decode (mB M_X8_help) 116 = .ok (.iload 5, 2) := by decide +kernel
theorem r_X8_help_116 {x0 x1 x2 x3 x4 x6 x7 : Value} {a : Int32} {st : List Value} {h : AH} : Run M_X8_help 116 [x0, x1, x2, x3, x4, .int a, x6, x7] st h = Run M_X8_help 118 [x0, x1, x2, x3, x4, .int a, x6, x7] (.int a :: st) h := R_iload d_X8_help_116 rfl
theorem d_X8_help_118 : decode (mB M_X8_help) 118 = .ok (.istore_n 3, 1) := by decide +kernel
theorem r_X8_help_118 {x0 x1 x2 x3 x4 x5 x6 x7 : Value} {a : Int32} {st : List Value} {h : AH} (hc : x2.category = 1) : Run M_X8_help 118 [x0, x1, x2, x3, x4, x5, x6, x7] (.int a :: st) h = Run M_X8_help 119 [x0, x1, x2, .int a, x4, x5, x6, x7] st h := R_istore_n d_X8_help_118 (Nat.lt_of_lt_of_le (by decide : 3 < 8) (Nat.le_refl 8)) (catP_of rfl hc)
theorem d_X8_help_119 : decode (mB M_X8_help) 119 = .ok (.iinc 5 1, 3) := by decide +kernel
theorem r_X8_help_119 {x0 x1 x2 x3 x4 x6 x7 : Value} {a : Int32} {st : List Value} {h : AH} (hc : x4.category = 1) : Run M_X8_help 119 [x0, x1, x2, x3, x4, .int a, x6, x7] st h = Run M_X8_help 122 [x0, x1, x2, x3, x4, .int (a + (nI 1)), x6, x7] st h := R_iinc d_X8_help_119 (by decide) rfl (catP_of rfl hc)
theorem d_X8_help_122 : decode (mB M_X8_help) 122 = .ok (.goto (-87), 3) := by decide +kernel
theorem r_X8_help_122 {x0 x1 x2 x3 x4 x5 x6 x7 : Value} {st : List Value} {h : AH} : Run M_X8_help 122 [x0, x1, x2, x3, x4, x5, x6, x7] st h = Run M_X8_help 35 [x0, x1, x2, x3, x4, x5, x6, x7] st h := R_goto d_X8_help_122 (by decide)
theorem d_X8_help_125 : decode (mB M_X8_help) 125 = .ok (.iload_n 3, 1) := by decide +kernel
theorem r_X8_help_125 {x0 x1 x2 x4 x5 x6 x7 : Value} {a : Int32} {st : List Value} {h : AH} : Run M_X8_help 125 [x0, x1, x2, .int a, x4, x5, x6, x7] st h = Run M_X8_help 126 [x0, x1, x2, .int a, x4, x5, x6, x7] (.int a :: st) h := R_iload_n d_X8_help_125 rfl
theorem d_X8_help_126 : decode (mB M_X8_help) 126 = .ok (.ireturn, 1) := by decide +kernel
theorem r_X8_help_126 {x0 x1 x2 x3 x4 x5 x6 x7 : Value} {v : Int32} {h : AH} : Run M_X8_help 126 [x0, x1, x2, x3, x4, x5, x6, x7] [.int v] h = some (h, some (.int v)) := R_ireturn d_X8_help_126 rfl rfl
theorem d_X8_out_0 : decode (mB M_X8_out) 0 = .ok (.iload_n 1, 1) := by decide +kernel
theorem r_X8_out_0 {x0 x2 : Value} {a : Int32} {st : List Value} {h : AH} : Run M_X8_out 0 [x0, .int a, x2] st h = Run M_X8_out 1 [x0, .int a, x2] (.int a :: st) h := R_iload_n d_X8_out_0 rfl
theorem d_X8_out_1 : decode (mB M_X8_out) 1 = .ok (.invokestatic 188, 3) := by decide +kernel
theorem r_X8_out_1 {x0 x1 x2 : Value} {p0 : Int32} {h : AH} : Run M_X8_out 1 [x0, x1, x2] (.int p0 :: []) h = if (Call M_X8_isTenth h [.int p0]).isSome = true then Run M_X8_out 4 [x0, x1, x2] (rL (Call M_X8_isTenth h [.int p0]) ++ []) (cH (Call M_X8_isTenth h [.int p0])) else none := R_stat d_X8_out_1 rfl rfl rfl rfl (Nat.le_of_ble_eq_true rfl)
theorem d_X8_out_4 : decode (mB M_X8_out) 4 = .ok (.ifCond .eq 12, 3) := by decide +kernel
theorem r_X8_out_4 {x0 x1 x2 : Value} {x : Int32} {st : List Value} {h : AH} : Run M_X8_out 4 [x0, x1, x2] (.int x :: st) h = if x = nI 0 then Run M_X8_out 16 [x0, x1, x2] st h else Run M_X8_out 7 [x0, x1, x2] st h := R_if_eq d_X8_out_4 (by decide)
theorem d_X8_out_7 : decode (mB M_X8_out) 7 = .ok (.iload_n 2, 1) := by decide +kernel
theorem r_X8_out_7 {x0 x1 : Value} {a : Int32} {st : List Value} {h : AH} : Run M_X8_out 7 [x0, x1, .int a] st h = Run M_X8_out 8 [x0, x1, .int a] (.int a :: st) h := R_iload_n d_X8_out_7 rfl
theorem d_X8_out_8 : decode (mB M_X8_out) 8 = .ok (.iconst 0, 1) := by decide +kernel
theorem r_X8_out_8 {x0 x1 x2 : Value} {st : List Value} {h : AH} : Run M_X8_out 8 [x0, x1, x2] st h = Run M_X8_out 9 [x0, x1, x2] (.int (nI 0) :: st) h := R_iconst d_X8_out_8 (by decide)
theorem d_X8_out_9 : decode (mB M_X8_out) 9 = .ok (.iconst 2, 1) := by decide +kernel
theorem r_X8_out_9 {x0 x1 x2 : Value} {st : List Value} {h : AH} : Run M_X8_out 9 [x0, x1, x2] st h = Run M_X8_out 10 [x0, x1, x2] (.int (nI 2) :: st) h := R_iconst d_X8_out_9 (by decide)
theorem d_X8_out_10 : decode (mB M_X8_out) 10 = .ok (.invokestatic 65, 3) := by decide +kernel
theorem r_X8_out_10 {x0 x1 x2 : Value} {p0 : Int32} {p1 : Int32} {p2 : Int32} {h : AH} : Run M_X8_out 10 [x0, x1, x2] (.int p2 :: .int p1 :: .int p0 :: []) h = if (Call M_X8_within h [.int p0, .int p1, .int p2]).isSome = true then Run M_X8_out 13 [x0, x1, x2] (rL (Call M_X8_within h [.int p0, .int p1, .int p2]) ++ []) (cH (Call M_X8_within h [.int p0, .int p1, .int p2])) else none := R_stat d_X8_out_10 rfl rfl rfl rfl (Nat.le_of_ble_eq_true rfl)
theorem d_X8_out_13 : decode (mB M_X8_out) 13 = .ok (.ifCond .ne 6, 3) := by decide +kernel
theorem r_X8_out_13 {x0 x1 x2 : Value} {x : Int32} {st : List Value} {h : AH} : Run M_X8_out 13 [x0, x1, x2] (.int x :: st) h = if x = nI 0 then Run M_X8_out 16 [x0, x1, x2] st h else Run M_X8_out 19 [x0, x1, x2] st h := R_if_ne d_X8_out_13 (by decide)
theorem d_X8_out_16 : decode (mB M_X8_out) 16 = .ok (.ldc 69, 2) := by decide +kernel
theorem r_X8_out_16 {x0 x1 x2 : Value} {st : List Value} {h : AH} : Run M_X8_out 16 [x0, x1, x2] st h = Run M_X8_out 18 [x0, x1, x2] (.int (-1000000002) :: st) h := R_ldc d_X8_out_16 (by decide)
theorem d_X8_out_18 : decode (mB M_X8_out) 18 = .ok (.ireturn, 1) := by decide +kernel
theorem r_X8_out_18 {x0 x1 x2 : Value} {v : Int32} {h : AH} : Run M_X8_out 18 [x0, x1, x2] [.int v] h = some (h, some (.int v)) := R_ireturn d_X8_out_18 rfl rfl
theorem d_X8_out_19 : decode (mB M_X8_out) 19 = .ok (.aload_n 0, 1) := by decide +kernel
theorem r_X8_out_19 {x1 x2 : Value} {a : Nat} {st : List Value} {h : AH} : Run M_X8_out 19 [.ref a, x1, x2] st h = Run M_X8_out 20 [.ref a, x1, x2] (.ref a :: st) h := R_aload_n d_X8_out_19 rfl
theorem d_X8_out_20 : decode (mB M_X8_out) 20 = .ok (.getfield 26, 3) := by decide +kernel
theorem r_X8_out_20 {x0 x1 x2 : Value} {a : Nat} {st : List Value} {h : AH} : Run M_X8_out 20 [x0, x1, x2] (.ref a :: st) h = if (gF h a 8 2).isSome = true then Run M_X8_out 23 [x0, x1, x2] ((gF h a 8 2).getD .null :: st) h else none := R_getfield d_X8_out_20 rfl
theorem d_X8_out_23 : decode (mB M_X8_out) 23 = .ok (.aload_n 0, 1) := by decide +kernel
theorem r_X8_out_23 {x1 x2 : Value} {a : Nat} {st : List Value} {h : AH} : Run M_X8_out 23 [.ref a, x1, x2] st h = Run M_X8_out 24 [.ref a, x1, x2] (.ref a :: st) h := R_aload_n d_X8_out_23 rfl
theorem d_X8_out_24 : decode (mB M_X8_out) 24 = .ok (.getfield 57, 3) := by decide +kernel
theorem r_X8_out_24 {x0 x1 x2 : Value} {a : Nat} {st : List Value} {h : AH} : Run M_X8_out 24 [x0, x1, x2] (.ref a :: st) h = if (gF h a 8 7).isSome = true then Run M_X8_out 27 [x0, x1, x2] ((gF h a 8 7).getD .null :: st) h else none := R_getfield d_X8_out_24 rfl
theorem d_X8_out_27 : decode (mB M_X8_out) 27 = .ok (.invokevirtual 267, 3) := by decide +kernel
theorem r_X8_out_27 {x0 x1 x2 : Value} {p0 : Nat} {a : Nat} {h : AH} : Run M_X8_out 27 [x0, x1, x2] (.ref p0 :: .ref a :: []) h = if refO h 5 (some (.ref a)) = true then (if (Call M_X5_weighOnce h [.ref a, .ref p0]).isSome = true then Run M_X8_out 30 [x0, x1, x2] (rL (Call M_X5_weighOnce h [.ref a, .ref p0]) ++ []) (cH (Call M_X5_weighOnce h [.ref a, .ref p0])) else none) else none := R_virt d_X8_out_27 rfl rfl rfl rfl rfl (Nat.le_of_ble_eq_true rfl)
theorem d_X8_out_30 : decode (mB M_X8_out) 30 = .ok (.iload_n 2, 1) := by decide +kernel
theorem r_X8_out_30 {x0 x1 : Value} {a : Int32} {st : List Value} {h : AH} : Run M_X8_out 30 [x0, x1, .int a] st h = Run M_X8_out 31 [x0, x1, .int a] (.int a :: st) h := R_iload_n d_X8_out_30 rfl
theorem d_X8_out_31 : decode (mB M_X8_out) 31 = .ok (.lookupswitch 45 #[(0, 25), (1, 35)], 25) := by decide +kernel
theorem r_X8_out_31 {x0 x1 x2 : Value} {x : Int32} {st : List Value} {h : AH} : Run M_X8_out 31 [x0, x1, x2] (.int x :: st) h = if x = (nI 0) then Run M_X8_out 56 [x0, x1, x2] st h else if x = (nI 1) then Run M_X8_out 66 [x0, x1, x2] st h else Run M_X8_out 76 [x0, x1, x2] st h := by
  by_cases h0 : x = (nI 0)
  · subst h0; rw [if_pos rfl]; exact R_lookup (off := 25) d_X8_out_31 (by decide) (by decide) (by decide) (by decide)
  rw [if_neg h0]
  by_cases h1 : x = (nI 1)
  · subst h1; rw [if_pos rfl]; exact R_lookup (off := 35) d_X8_out_31 (by decide) (by decide) (by decide) (by decide)
  rw [if_neg h1]
  refine R_lookup (off := 45) d_X8_out_31 (by decide) (by decide) ?_ (by decide)
  show Op.lookupswitch.offset [(0, 25), (1, 35)] 45 x.toInt = 45
  rw [lv_osw h0 (by decide), lv_osw h1 (by decide)]
  rfl
theorem d_X8_out_56 : decode (mB M_X8_out) 56 = .ok (.aload_n 0, 1) := by decide +kernel
theorem r_X8_out_56 {x1 x2 : Value} {a : Nat} {st : List Value} {h : AH} : Run M_X8_out 56 [.ref a, x1, x2] st h = Run M_X8_out 57 [.ref a, x1, x2] (.ref a :: st) h := R_aload_n d_X8_out_56 rfl
theorem d_X8_out_57 : decode (mB M_X8_out) 57 = .ok (.getfield 26, 3) := by decide +kernel
theorem r_X8_out_57 {x0 x1 x2 : Value} {a : Nat} {st : List Value} {h : AH} : Run M_X8_out 57 [x0, x1, x2] (.ref a :: st) h = if (gF h a 8 2).isSome = true then Run M_X8_out 60 [x0, x1, x2] ((gF h a 8 2).getD .null :: st) h else none := R_getfield d_X8_out_57 rfl
theorem d_X8_out_60 : decode (mB M_X8_out) 60 = .ok (.getfield 271, 3) := by decide +kernel
theorem r_X8_out_60 {x0 x1 x2 : Value} {a : Nat} {st : List Value} {h : AH} : Run M_X8_out 60 [x0, x1, x2] (.ref a :: st) h = if (gF h a 5 0).isSome = true then Run M_X8_out 63 [x0, x1, x2] ((gF h a 5 0).getD .null :: st) h else none := R_getfield d_X8_out_60 rfl
theorem d_X8_out_63 : decode (mB M_X8_out) 63 = .ok (.iload_n 1, 1) := by decide +kernel
theorem r_X8_out_63 {x0 x2 : Value} {a : Int32} {st : List Value} {h : AH} : Run M_X8_out 63 [x0, .int a, x2] st h = Run M_X8_out 64 [x0, .int a, x2] (.int a :: st) h := R_iload_n d_X8_out_63 rfl
theorem d_X8_out_64 : decode (mB M_X8_out) 64 = .ok (.iaload, 1) := by decide +kernel
theorem r_X8_out_64 {x0 x1 x2 : Value} {a : Nat} {i : Int32} {st : List Value} {h : AH} : Run M_X8_out 64 [x0, x1, x2] (.int i :: .ref a :: st) h = if (gI 0 h a i).isSome = true then Run M_X8_out 65 [x0, x1, x2] (.int ((gI 0 h a i).getD 0) :: st) h else none := R_iaload d_X8_out_64
theorem d_X8_out_65 : decode (mB M_X8_out) 65 = .ok (.ireturn, 1) := by decide +kernel
theorem r_X8_out_65 {x0 x1 x2 : Value} {v : Int32} {h : AH} : Run M_X8_out 65 [x0, x1, x2] [.int v] h = some (h, some (.int v)) := R_ireturn d_X8_out_65 rfl rfl
theorem d_X8_out_66 : decode (mB M_X8_out) 66 = .ok (.aload_n 0, 1) := by decide +kernel
theorem r_X8_out_66 {x1 x2 : Value} {a : Nat} {st : List Value} {h : AH} : Run M_X8_out 66 [.ref a, x1, x2] st h = Run M_X8_out 67 [.ref a, x1, x2] (.ref a :: st) h := R_aload_n d_X8_out_66 rfl
theorem d_X8_out_67 : decode (mB M_X8_out) 67 = .ok (.getfield 26, 3) := by decide +kernel
theorem r_X8_out_67 {x0 x1 x2 : Value} {a : Nat} {st : List Value} {h : AH} : Run M_X8_out 67 [x0, x1, x2] (.ref a :: st) h = if (gF h a 8 2).isSome = true then Run M_X8_out 70 [x0, x1, x2] ((gF h a 8 2).getD .null :: st) h else none := R_getfield d_X8_out_67 rfl
theorem d_X8_out_70 : decode (mB M_X8_out) 70 = .ok (.getfield 274, 3) := by decide +kernel
theorem r_X8_out_70 {x0 x1 x2 : Value} {a : Nat} {st : List Value} {h : AH} : Run M_X8_out 70 [x0, x1, x2] (.ref a :: st) h = if (gF h a 5 1).isSome = true then Run M_X8_out 73 [x0, x1, x2] ((gF h a 5 1).getD .null :: st) h else none := R_getfield d_X8_out_70 rfl
theorem d_X8_out_73 : decode (mB M_X8_out) 73 = .ok (.iload_n 1, 1) := by decide +kernel
theorem r_X8_out_73 {x0 x2 : Value} {a : Int32} {st : List Value} {h : AH} : Run M_X8_out 73 [x0, .int a, x2] st h = Run M_X8_out 74 [x0, .int a, x2] (.int a :: st) h := R_iload_n d_X8_out_73 rfl
theorem d_X8_out_74 : decode (mB M_X8_out) 74 = .ok (.iaload, 1) := by decide +kernel
theorem r_X8_out_74 {x0 x1 x2 : Value} {a : Nat} {i : Int32} {st : List Value} {h : AH} : Run M_X8_out 74 [x0, x1, x2] (.int i :: .ref a :: st) h = if (gI 0 h a i).isSome = true then Run M_X8_out 75 [x0, x1, x2] (.int ((gI 0 h a i).getD 0) :: st) h else none := R_iaload d_X8_out_74
theorem d_X8_out_75 : decode (mB M_X8_out) 75 = .ok (.ireturn, 1) := by decide +kernel
theorem r_X8_out_75 {x0 x1 x2 : Value} {v : Int32} {h : AH} : Run M_X8_out 75 [x0, x1, x2] [.int v] h = some (h, some (.int v)) := R_ireturn d_X8_out_75 rfl rfl
theorem d_X8_out_76 : decode (mB M_X8_out) 76 = .ok (.aload_n 0, 1) := by decide +kernel
theorem r_X8_out_76 {x1 x2 : Value} {a : Nat} {st : List Value} {h : AH} : Run M_X8_out 76 [.ref a, x1, x2] st h = Run M_X8_out 77 [.ref a, x1, x2] (.ref a :: st) h := R_aload_n d_X8_out_76 rfl
theorem d_X8_out_77 : decode (mB M_X8_out) 77 = .ok (.getfield 26, 3) := by decide +kernel
theorem r_X8_out_77 {x0 x1 x2 : Value} {a : Nat} {st : List Value} {h : AH} : Run M_X8_out 77 [x0, x1, x2] (.ref a :: st) h = if (gF h a 8 2).isSome = true then Run M_X8_out 80 [x0, x1, x2] ((gF h a 8 2).getD .null :: st) h else none := R_getfield d_X8_out_77 rfl
theorem d_X8_out_80 : decode (mB M_X8_out) 80 = .ok (.getfield 277, 3) := by decide +kernel
theorem r_X8_out_80 {x0 x1 x2 : Value} {a : Nat} {st : List Value} {h : AH} : Run M_X8_out 80 [x0, x1, x2] (.ref a :: st) h = if (gF h a 5 2).isSome = true then Run M_X8_out 83 [x0, x1, x2] ((gF h a 5 2).getD .null :: st) h else none := R_getfield d_X8_out_80 rfl
theorem d_X8_out_83 : decode (mB M_X8_out) 83 = .ok (.iload_n 1, 1) := by decide +kernel
theorem r_X8_out_83 {x0 x2 : Value} {a : Int32} {st : List Value} {h : AH} : Run M_X8_out 83 [x0, .int a, x2] st h = Run M_X8_out 84 [x0, .int a, x2] (.int a :: st) h := R_iload_n d_X8_out_83 rfl
theorem d_X8_out_84 : decode (mB M_X8_out) 84 = .ok (.iaload, 1) := by decide +kernel
theorem r_X8_out_84 {x0 x1 x2 : Value} {a : Nat} {i : Int32} {st : List Value} {h : AH} : Run M_X8_out 84 [x0, x1, x2] (.int i :: .ref a :: st) h = if (gI 0 h a i).isSome = true then Run M_X8_out 85 [x0, x1, x2] (.int ((gI 0 h a i).getD 0) :: st) h else none := R_iaload d_X8_out_84
theorem d_X8_out_85 : decode (mB M_X8_out) 85 = .ok (.ireturn, 1) := by decide +kernel
theorem r_X8_out_85 {x0 x1 x2 : Value} {v : Int32} {h : AH} : Run M_X8_out 85 [x0, x1, x2] [.int v] h = some (h, some (.int v)) := R_ireturn d_X8_out_85 rfl rfl
theorem d_X8_enter_0 : decode (mB M_X8_enter) 0 = .ok (.aload_n 0, 1) := by decide +kernel
theorem r_X8_enter_0 {x1 x2 : Value} {a : Nat} {st : List Value} {h : AH} : Run M_X8_enter 0 [.ref a, x1, x2] st h = Run M_X8_enter 1 [.ref a, x1, x2] (.ref a :: st) h := R_aload_n d_X8_enter_0 rfl
theorem d_X8_enter_1 : decode (mB M_X8_enter) 1 = .ok (.getfield 57, 3) := by decide +kernel
theorem r_X8_enter_1 {x0 x1 x2 : Value} {a : Nat} {st : List Value} {h : AH} : Run M_X8_enter 1 [x0, x1, x2] (.ref a :: st) h = if (gF h a 8 7).isSome = true then Run M_X8_enter 4 [x0, x1, x2] ((gF h a 8 7).getD .null :: st) h else none := R_getfield d_X8_enter_1 rfl
theorem d_X8_enter_4 : decode (mB M_X8_enter) 4 = .ok (.iload_n 1, 1) := by decide +kernel
theorem r_X8_enter_4 {x0 x2 : Value} {a : Int32} {st : List Value} {h : AH} : Run M_X8_enter 4 [x0, .int a, x2] st h = Run M_X8_enter 5 [x0, .int a, x2] (.int a :: st) h := R_iload_n d_X8_enter_4 rfl
theorem d_X8_enter_5 : decode (mB M_X8_enter) 5 = .ok (.invokevirtual 154, 3) := by decide +kernel
theorem r_X8_enter_5 {x0 x1 x2 : Value} {p0 : Int32} {a : Nat} {h : AH} : Run M_X8_enter 5 [x0, x1, x2] (.int p0 :: .ref a :: []) h = if refO h 4 (some (.ref a)) = true then (if (Call M_X4_hasPlayer h [.ref a, .int p0]).isSome = true then Run M_X8_enter 8 [x0, x1, x2] (rL (Call M_X4_hasPlayer h [.ref a, .int p0]) ++ []) (cH (Call M_X4_hasPlayer h [.ref a, .int p0])) else none) else none := R_virt d_X8_enter_5 rfl rfl rfl rfl rfl (Nat.le_of_ble_eq_true rfl)
theorem d_X8_enter_8 : decode (mB M_X8_enter) 8 = .ok (.ifCond .ne 6, 3) := by decide +kernel
theorem r_X8_enter_8 {x0 x1 x2 : Value} {x : Int32} {st : List Value} {h : AH} : Run M_X8_enter 8 [x0, x1, x2] (.int x :: st) h = if x = nI 0 then Run M_X8_enter 11 [x0, x1, x2] st h else Run M_X8_enter 14 [x0, x1, x2] st h := R_if_ne d_X8_enter_8 (by decide)
theorem d_X8_enter_11 : decode (mB M_X8_enter) 11 = .ok (.ldc 131, 2) := by decide +kernel
theorem r_X8_enter_11 {x0 x1 x2 : Value} {st : List Value} {h : AH} : Run M_X8_enter 11 [x0, x1, x2] st h = Run M_X8_enter 13 [x0, x1, x2] (.int (-1000000001) :: st) h := R_ldc d_X8_enter_11 (by decide)
theorem d_X8_enter_13 : decode (mB M_X8_enter) 13 = .ok (.ireturn, 1) := by decide +kernel
theorem r_X8_enter_13 {x0 x1 x2 : Value} {v : Int32} {h : AH} : Run M_X8_enter 13 [x0, x1, x2] [.int v] h = some (h, some (.int v)) := R_ireturn d_X8_enter_13 rfl rfl
theorem d_X8_enter_14 : decode (mB M_X8_enter) 14 = .ok (.iload_n 2, 1) := by decide +kernel
theorem r_X8_enter_14 {x0 x1 : Value} {a : Int32} {st : List Value} {h : AH} : Run M_X8_enter 14 [x0, x1, .int a] st h = Run M_X8_enter 15 [x0, x1, .int a] (.int a :: st) h := R_iload_n d_X8_enter_14 rfl
theorem d_X8_enter_15 : decode (mB M_X8_enter) 15 = .ok (.iconst 0, 1) := by decide +kernel
theorem r_X8_enter_15 {x0 x1 x2 : Value} {st : List Value} {h : AH} : Run M_X8_enter 15 [x0, x1, x2] st h = Run M_X8_enter 16 [x0, x1, x2] (.int (nI 0) :: st) h := R_iconst d_X8_enter_15 (by decide)
theorem d_X8_enter_16 : decode (mB M_X8_enter) 16 = .ok (.sipush 999, 3) := by decide +kernel
theorem r_X8_enter_16 {x0 x1 x2 : Value} {st : List Value} {h : AH} : Run M_X8_enter 16 [x0, x1, x2] st h = Run M_X8_enter 19 [x0, x1, x2] (.int (nI 999) :: st) h := R_sipush d_X8_enter_16 (by decide)
theorem d_X8_enter_19 : decode (mB M_X8_enter) 19 = .ok (.invokestatic 65, 3) := by decide +kernel
theorem r_X8_enter_19 {x0 x1 x2 : Value} {p0 : Int32} {p1 : Int32} {p2 : Int32} {h : AH} : Run M_X8_enter 19 [x0, x1, x2] (.int p2 :: .int p1 :: .int p0 :: []) h = if (Call M_X8_within h [.int p0, .int p1, .int p2]).isSome = true then Run M_X8_enter 22 [x0, x1, x2] (rL (Call M_X8_within h [.int p0, .int p1, .int p2]) ++ []) (cH (Call M_X8_within h [.int p0, .int p1, .int p2])) else none := R_stat d_X8_enter_19 rfl rfl rfl rfl (Nat.le_of_ble_eq_true rfl)
theorem d_X8_enter_22 : decode (mB M_X8_enter) 22 = .ok (.ifCond .ne 6, 3) := by decide +kernel
theorem r_X8_enter_22 {x0 x1 x2 : Value} {x : Int32} {st : List Value} {h : AH} : Run M_X8_enter 22 [x0, x1, x2] (.int x :: st) h = if x = nI 0 then Run M_X8_enter 25 [x0, x1, x2] st h else Run M_X8_enter 28 [x0, x1, x2] st h := R_if_ne d_X8_enter_22 (by decide)
theorem d_X8_enter_25 : decode (mB M_X8_enter) 25 = .ok (.ldc 69, 2) := by decide +kernel
theorem r_X8_enter_25 {x0 x1 x2 : Value} {st : List Value} {h : AH} : Run M_X8_enter 25 [x0, x1, x2] st h = Run M_X8_enter 27 [x0, x1, x2] (.int (-1000000002) :: st) h := R_ldc d_X8_enter_25 (by decide)
theorem d_X8_enter_27 : decode (mB M_X8_enter) 27 = .ok (.ireturn, 1) := by decide +kernel
theorem r_X8_enter_27 {x0 x1 x2 : Value} {v : Int32} {h : AH} : Run M_X8_enter 27 [x0, x1, x2] [.int v] h = some (h, some (.int v)) := R_ireturn d_X8_enter_27 rfl rfl
theorem d_X8_enter_28 : decode (mB M_X8_enter) 28 = .ok (.aload_n 0, 1) := by decide +kernel
theorem r_X8_enter_28 {x1 x2 : Value} {a : Nat} {st : List Value} {h : AH} : Run M_X8_enter 28 [.ref a, x1, x2] st h = Run M_X8_enter 29 [.ref a, x1, x2] (.ref a :: st) h := R_aload_n d_X8_enter_28 rfl
theorem d_X8_enter_29 : decode (mB M_X8_enter) 29 = .ok (.getfield 33, 3) := by decide +kernel
theorem r_X8_enter_29 {x0 x1 x2 : Value} {a : Nat} {st : List Value} {h : AH} : Run M_X8_enter 29 [x0, x1, x2] (.ref a :: st) h = if (gF h a 8 3).isSome = true then Run M_X8_enter 32 [x0, x1, x2] ((gF h a 8 3).getD .null :: st) h else none := R_getfield d_X8_enter_29 rfl
theorem d_X8_enter_32 : decode (mB M_X8_enter) 32 = .ok (.iload_n 1, 1) := by decide +kernel
theorem r_X8_enter_32 {x0 x2 : Value} {a : Int32} {st : List Value} {h : AH} : Run M_X8_enter 32 [x0, .int a, x2] st h = Run M_X8_enter 33 [x0, .int a, x2] (.int a :: st) h := R_iload_n d_X8_enter_32 rfl
theorem d_X8_enter_33 : decode (mB M_X8_enter) 33 = .ok (.iload_n 2, 1) := by decide +kernel
theorem r_X8_enter_33 {x0 x1 : Value} {a : Int32} {st : List Value} {h : AH} : Run M_X8_enter 33 [x0, x1, .int a] st h = Run M_X8_enter 34 [x0, x1, .int a] (.int a :: st) h := R_iload_n d_X8_enter_33 rfl
theorem d_X8_enter_34 : decode (mB M_X8_enter) 34 = .ok (.invokevirtual 280, 3) := by decide +kernel
theorem r_X8_enter_34 {x0 x1 x2 : Value} {p0 : Int32} {p1 : Int32} {a : Nat} {h : AH} : Run M_X8_enter 34 [x0, x1, x2] (.int p1 :: .int p0 :: .ref a :: []) h = if refO h 3 (some (.ref a)) = true then (if (Call M_X3_put h [.ref a, .int p0, .int p1]).isSome = true then Run M_X8_enter 37 [x0, x1, x2] (rL (Call M_X3_put h [.ref a, .int p0, .int p1]) ++ []) (cH (Call M_X3_put h [.ref a, .int p0, .int p1])) else none) else none := R_virt d_X8_enter_34 rfl rfl rfl rfl rfl (Nat.le_of_ble_eq_true rfl)
theorem d_X8_enter_37 : decode (mB M_X8_enter) 37 = .ok (.ifCond .eq 13, 3) := by decide +kernel
theorem r_X8_enter_37 {x0 x1 x2 : Value} {x : Int32} {st : List Value} {h : AH} : Run M_X8_enter 37 [x0, x1, x2] (.int x :: st) h = if x = nI 0 then Run M_X8_enter 50 [x0, x1, x2] st h else Run M_X8_enter 40 [x0, x1, x2] st h := R_if_eq d_X8_enter_37 (by decide)
theorem d_X8_enter_40 : decode (mB M_X8_enter) 40 = .ok (.aload_n 0, 1) := by decide +kernel
theorem r_X8_enter_40 {x1 x2 : Value} {a : Nat} {st : List Value} {h : AH} : Run M_X8_enter 40 [.ref a, x1, x2] st h = Run M_X8_enter 41 [.ref a, x1, x2] (.ref a :: st) h := R_aload_n d_X8_enter_40 rfl
theorem d_X8_enter_41 : decode (mB M_X8_enter) 41 = .ok (.getfield 33, 3) := by decide +kernel
theorem r_X8_enter_41 {x0 x1 x2 : Value} {a : Nat} {st : List Value} {h : AH} : Run M_X8_enter 41 [x0, x1, x2] (.ref a :: st) h = if (gF h a 8 3).isSome = true then Run M_X8_enter 44 [x0, x1, x2] ((gF h a 8 3).getD .null :: st) h else none := R_getfield d_X8_enter_41 rfl
theorem d_X8_enter_44 : decode (mB M_X8_enter) 44 = .ok (.getfield 126, 3) := by decide +kernel
theorem r_X8_enter_44 {x0 x1 x2 : Value} {a : Nat} {st : List Value} {h : AH} : Run M_X8_enter 44 [x0, x1, x2] (.ref a :: st) h = if (gF h a 3 2).isSome = true then Run M_X8_enter 47 [x0, x1, x2] ((gF h a 3 2).getD .null :: st) h else none := R_getfield d_X8_enter_44 rfl
theorem d_X8_enter_47 : decode (mB M_X8_enter) 47 = .ok (.goto 5, 3) := by decide +kernel
theorem r_X8_enter_47 {x0 x1 x2 : Value} {st : List Value} {h : AH} : Run M_X8_enter 47 [x0, x1, x2] st h = Run M_X8_enter 52 [x0, x1, x2] st h := R_goto d_X8_enter_47 (by decide)
theorem d_X8_enter_50 : decode (mB M_X8_enter) 50 = .ok (.ldc 78, 2) := by decide +kernel
theorem r_X8_enter_50 {x0 x1 x2 : Value} {st : List Value} {h : AH} : Run M_X8_enter 50 [x0, x1, x2] st h = Run M_X8_enter 52 [x0, x1, x2] (.int (-1000000004) :: st) h := R_ldc d_X8_enter_50 (by decide)
theorem d_X8_enter_52 : decode (mB M_X8_enter) 52 = .ok (.ireturn, 1) := by decide +kernel
theorem r_X8_enter_52 {x0 x1 x2 : Value} {v : Int32} {h : AH} : Run M_X8_enter 52 [x0, x1, x2] [.int v] h = some (h, some (.int v)) := R_ireturn d_X8_enter_52 rfl rfl
theorem d_X8_firstIn_0 : decode (mB M_X8_firstIn) 0 = .ok (.iload_n 1, 1) := by decide +kernel
theorem r_X8_firstIn_0 {x0 x2 : Value} {a : Int32} {st : List Value} {h : AH} : Run M_X8_firstIn 0 [x0, .int a, x2] st h = Run M_X8_firstIn 1 [x0, .int a, x2] (.int a :: st) h := R_iload_n d_X8_firstIn_0 rfl
theorem d_X8_firstIn_1 : decode (mB M_X8_firstIn) 1 = .ok (.iconst 0, 1) := by decide +kernel
theorem r_X8_firstIn_1 {x0 x1 x2 : Value} {st : List Value} {h : AH} : Run M_X8_firstIn 1 [x0, x1, x2] st h = Run M_X8_firstIn 2 [x0, x1, x2] (.int (nI 0) :: st) h := R_iconst d_X8_firstIn_1 (by decide)
theorem d_X8_firstIn_2 : decode (mB M_X8_firstIn) 2 = .ok (.iconst 1, 1) := by decide +kernel
theorem r_X8_firstIn_2 {x0 x1 x2 : Value} {st : List Value} {h : AH} : Run M_X8_firstIn 2 [x0, x1, x2] st h = Run M_X8_firstIn 3 [x0, x1, x2] (.int (nI 1) :: st) h := R_iconst d_X8_firstIn_2 (by decide)
theorem d_X8_firstIn_3 : decode (mB M_X8_firstIn) 3 = .ok (.invokestatic 65, 3) := by decide +kernel
theorem r_X8_firstIn_3 {x0 x1 x2 : Value} {p0 : Int32} {p1 : Int32} {p2 : Int32} {h : AH} : Run M_X8_firstIn 3 [x0, x1, x2] (.int p2 :: .int p1 :: .int p0 :: []) h = if (Call M_X8_within h [.int p0, .int p1, .int p2]).isSome = true then Run M_X8_firstIn 6 [x0, x1, x2] (rL (Call M_X8_within h [.int p0, .int p1, .int p2]) ++ []) (cH (Call M_X8_within h [.int p0, .int p1, .int p2])) else none := R_stat d_X8_firstIn_3 rfl rfl rfl rfl (Nat.le_of_ble_eq_true rfl)
theorem d_X8_firstIn_6 : decode (mB M_X8_firstIn) 6 = .ok (.ifCond .ne 6, 3) := by decide +kernel
theorem r_X8_firstIn_6 {x0 x1 x2 : Value} {x : Int32} {st : List Value} {h : AH} : Run M_X8_firstIn 6 [x0, x1, x2] (.int x :: st) h = if x = nI 0 then Run M_X8_firstIn 9 [x0, x1, x2] st h else Run M_X8_firstIn 12 [x0, x1, x2] st h := R_if_ne d_X8_firstIn_6 (by decide)
theorem d_X8_firstIn_9 : decode (mB M_X8_firstIn) 9 = .ok (.ldc 69, 2) := by decide +kernel
theorem r_X8_firstIn_9 {x0 x1 x2 : Value} {st : List Value} {h : AH} : Run M_X8_firstIn 9 [x0, x1, x2] st h = Run M_X8_firstIn 11 [x0, x1, x2] (.int (-1000000002) :: st) h := R_ldc d_X8_firstIn_9 (by decide)
theorem d_X8_firstIn_11 : decode (mB M_X8_firstIn) 11 = .ok (.ireturn, 1) := by decide +kernel
theorem r_X8_firstIn_11 {x0 x1 x2 : Value} {v : Int32} {h : AH} : Run M_X8_firstIn 11 [x0, x1, x2] [.int v] h = some (h, some (.int v)) := R_ireturn d_X8_firstIn_11 rfl rfl
theorem d_X8_firstIn_12 : decode (mB M_X8_firstIn) 12 = .ok (.aload_n 0, 1) := by decide +kernel
theorem r_X8_firstIn_12 {x1 x2 : Value} {a : Nat} {st : List Value} {h : AH} : Run M_X8_firstIn 12 [.ref a, x1, x2] st h = Run M_X8_firstIn 13 [.ref a, x1, x2] (.ref a :: st) h := R_aload_n d_X8_firstIn_12 rfl
theorem d_X8_firstIn_13 : decode (mB M_X8_firstIn) 13 = .ok (.getfield 33, 3) := by decide +kernel
theorem r_X8_firstIn_13 {x0 x1 x2 : Value} {a : Nat} {st : List Value} {h : AH} : Run M_X8_firstIn 13 [x0, x1, x2] (.ref a :: st) h = if (gF h a 8 3).isSome = true then Run M_X8_firstIn 16 [x0, x1, x2] ((gF h a 8 3).getD .null :: st) h else none := R_getfield d_X8_firstIn_13 rfl
theorem d_X8_firstIn_16 : decode (mB M_X8_firstIn) 16 = .ok (.invokevirtual 283, 3) := by decide +kernel
theorem r_X8_firstIn_16 {x0 x1 x2 : Value} {a : Nat} {h : AH} : Run M_X8_firstIn 16 [x0, x1, x2] (.ref a :: []) h = if refO h 3 (some (.ref a)) = true then (if (Call M_X3_first h [.ref a]).isSome = true then Run M_X8_firstIn 19 [x0, x1, x2] (rL (Call M_X3_first h [.ref a]) ++ []) (cH (Call M_X3_first h [.ref a])) else none) else none := R_virt d_X8_firstIn_16 rfl rfl rfl rfl rfl (Nat.le_of_ble_eq_true rfl)
theorem d_X8_firstIn_19 : decode (mB M_X8_firstIn) 19 = .ok (.istore_n 2, 1) := by decide +kernel
theorem r_X8_firstIn_19 {x0 x1 x2 : Value} {a : Int32} {st : List Value} {h : AH} (hc : x1.category = 1) : Run M_X8_firstIn 19 [x0, x1, x2] (.int a :: st) h = Run M_X8_firstIn 20 [x0, x1, .int a] st h := R_istore_n d_X8_firstIn_19 (Nat.lt_of_lt_of_le (by decide : 2 < 3) (Nat.le_refl 3)) (catP_of rfl hc)
theorem d_X8_firstIn_20 : decode (mB M_X8_firstIn) 20 = .ok (.iload_n 2, 1) := by decide +kernel
theorem r_X8_firstIn_20 {x0 x1 : Value} {a : Int32} {st : List Value} {h : AH} : Run M_X8_firstIn 20 [x0, x1, .int a] st h = Run M_X8_firstIn 21 [x0, x1, .int a] (.int a :: st) h := R_iload_n d_X8_firstIn_20 rfl
theorem d_X8_firstIn_21 : decode (mB M_X8_firstIn) 21 = .ok (.iconst (-1), 1) := by decide +kernel
theorem r_X8_firstIn_21 {x0 x1 x2 : Value} {st : List Value} {h : AH} : Run M_X8_firstIn 21 [x0, x1, x2] st h = Run M_X8_firstIn 22 [x0, x1, x2] (.int (-1) :: st) h := R_iconst d_X8_firstIn_21 (by decide)
theorem d_X8_firstIn_22 : decode (mB M_X8_firstIn) 22 = .ok (.if_icmp .ne 5, 3) := by decide +kernel
theorem r_X8_firstIn_22 {x0 x1 x2 : Value} {x y : Int32} {st : List Value} {h : AH} : Run M_X8_firstIn 22 [x0, x1, x2] (.int y :: .int x :: st) h = if x = y then Run M_X8_firstIn 25 [x0, x1, x2] st h else Run M_X8_firstIn 27 [x0, x1, x2] st h := R_icmp_ne d_X8_firstIn_22 (by decide)
theorem d_X8_firstIn_25 : decode (mB M_X8_firstIn) 25 = .ok (.iconst (-1), 1) := by decide +kernel
theorem r_X8_firstIn_25 {x0 x1 x2 : Value} {st : List Value} {h : AH} : Run M_X8_firstIn 25 [x0, x1, x2] st h = Run M_X8_firstIn 26 [x0, x1, x2] (.int (-1) :: st) h := R_iconst d_X8_firstIn_25 (by decide)
theorem d_X8_firstIn_26 : decode (mB M_X8_firstIn) 26 = .ok (.ireturn, 1) := by decide +kernel
theorem r_X8_firstIn_26 {x0 x1 x2 : Value} {v : Int32} {h : AH} : Run M_X8_firstIn 26 [x0, x1, x2] [.int v] h = some (h, some (.int v)) := R_ireturn d_X8_firstIn_26 rfl rfl
theorem d_X8_firstIn_27 : decode (mB M_X8_firstIn) 27 = .ok (.iload_n 1, 1) := by decide +kernel
theorem r_X8_firstIn_27 {x0 x2 : Value} {a : Int32} {st : List Value} {h : AH} : Run M_X8_firstIn 27 [x0, .int a, x2] st h = Run M_X8_firstIn 28 [x0, .int a, x2] (.int a :: st) h := R_iload_n d_X8_firstIn_27 rfl
theorem d_X8_firstIn_28 : decode (mB M_X8_firstIn) 28 = .ok (.ifCond .ne 15, 3) := by decide +kernel
theorem r_X8_firstIn_28 {x0 x1 x2 : Value} {x : Int32} {st : List Value} {h : AH} : Run M_X8_firstIn 28 [x0, x1, x2] (.int x :: st) h = if x = nI 0 then Run M_X8_firstIn 31 [x0, x1, x2] st h else Run M_X8_firstIn 43 [x0, x1, x2] st h := R_if_ne d_X8_firstIn_28 (by decide)
theorem d_X8_firstIn_31 : decode (mB M_X8_firstIn) 31 = .ok (.aload_n 0, 1) := by decide +kernel
theorem r_X8_firstIn_31 {x1 x2 : Value} {a : Nat} {st : List Value} {h : AH} : Run M_X8_firstIn 31 [.ref a, x1, x2] st h = Run M_X8_firstIn 32 [.ref a, x1, x2] (.ref a :: st) h := R_aload_n d_X8_firstIn_31 rfl
theorem d_X8_firstIn_32 : decode (mB M_X8_firstIn) 32 = .ok (.getfield 33, 3) := by decide +kernel
theorem r_X8_firstIn_32 {x0 x1 x2 : Value} {a : Nat} {st : List Value} {h : AH} : Run M_X8_firstIn 32 [x0, x1, x2] (.ref a :: st) h = if (gF h a 8 3).isSome = true then Run M_X8_firstIn 35 [x0, x1, x2] ((gF h a 8 3).getD .null :: st) h else none := R_getfield d_X8_firstIn_32 rfl
theorem d_X8_firstIn_35 : decode (mB M_X8_firstIn) 35 = .ok (.getfield 286, 3) := by decide +kernel
theorem r_X8_firstIn_35 {x0 x1 x2 : Value} {a : Nat} {st : List Value} {h : AH} : Run M_X8_firstIn 35 [x0, x1, x2] (.ref a :: st) h = if (gF h a 3 0).isSome = true then Run M_X8_firstIn 38 [x0, x1, x2] ((gF h a 3 0).getD .null :: st) h else none := R_getfield d_X8_firstIn_35 rfl
theorem d_X8_firstIn_38 : decode (mB M_X8_firstIn) 38 = .ok (.iload_n 2, 1) := by decide +kernel
theorem r_X8_firstIn_38 {x0 x1 : Value} {a : Int32} {st : List Value} {h : AH} : Run M_X8_firstIn 38 [x0, x1, .int a] st h = Run M_X8_firstIn 39 [x0, x1, .int a] (.int a :: st) h := R_iload_n d_X8_firstIn_38 rfl
theorem d_X8_firstIn_39 : decode (mB M_X8_firstIn) 39 = .ok (.iaload, 1) := by decide +kernel
theorem r_X8_firstIn_39 {x0 x1 x2 : Value} {a : Nat} {i : Int32} {st : List Value} {h : AH} : Run M_X8_firstIn 39 [x0, x1, x2] (.int i :: .ref a :: st) h = if (gI 0 h a i).isSome = true then Run M_X8_firstIn 40 [x0, x1, x2] (.int ((gI 0 h a i).getD 0) :: st) h else none := R_iaload d_X8_firstIn_39
theorem d_X8_firstIn_40 : decode (mB M_X8_firstIn) 40 = .ok (.goto 12, 3) := by decide +kernel
theorem r_X8_firstIn_40 {x0 x1 x2 : Value} {st : List Value} {h : AH} : Run M_X8_firstIn 40 [x0, x1, x2] st h = Run M_X8_firstIn 52 [x0, x1, x2] st h := R_goto d_X8_firstIn_40 (by decide)
theorem d_X8_firstIn_43 : decode (mB M_X8_firstIn) 43 = .ok (.aload_n 0, 1) := by decide +kernel
theorem r_X8_firstIn_43 {x1 x2 : Value} {a : Nat} {st : List Value} {h : AH} : Run M_X8_firstIn 43 [.ref a, x1, x2] st h = Run M_X8_firstIn 44 [.ref a, x1, x2] (.ref a :: st) h := R_aload_n d_X8_firstIn_43 rfl
theorem d_X8_firstIn_44 : decode (mB M_X8_firstIn) 44 = .ok (.getfield 33, 3) := by decide +kernel
theorem r_X8_firstIn_44 {x0 x1 x2 : Value} {a : Nat} {st : List Value} {h : AH} : Run M_X8_firstIn 44 [x0, x1, x2] (.ref a :: st) h = if (gF h a 8 3).isSome = true then Run M_X8_firstIn 47 [x0, x1, x2] ((gF h a 8 3).getD .null :: st) h else none := R_getfield d_X8_firstIn_44 rfl
theorem d_X8_firstIn_47 : decode (mB M_X8_firstIn) 47 = .ok (.getfield 289, 3) := by decide +kernel
theorem r_X8_firstIn_47 {x0 x1 x2 : Value} {a : Nat} {st : List Value} {h : AH} : Run M_X8_firstIn 47 [x0, x1, x2] (.ref a :: st) h = if (gF h a 3 1).isSome = true then Run M_X8_firstIn 50 [x0, x1, x2] ((gF h a 3 1).getD .null :: st) h else none := R_getfield d_X8_firstIn_47 rfl
theorem d_X8_firstIn_50 : decode (mB M_X8_firstIn) 50 = .ok (.iload_n 2, 1) := by decide +kernel
theorem r_X8_firstIn_50 {x0 x1 : Value} {a : Int32} {st : List Value} {h : AH} : Run M_X8_firstIn 50 [x0, x1, .int a] st h = Run M_X8_firstIn 51 [x0, x1, .int a] (.int a :: st) h := R_iload_n d_X8_firstIn_50 rfl
theorem d_X8_firstIn_51 : decode (mB M_X8_firstIn) 51 = .ok (.iaload, 1) := by decide +kernel
theorem r_X8_firstIn_51 {x0 x1 x2 : Value} {a : Nat} {i : Int32} {st : List Value} {h : AH} : Run M_X8_firstIn 51 [x0, x1, x2] (.int i :: .ref a :: st) h = if (gI 0 h a i).isSome = true then Run M_X8_firstIn 52 [x0, x1, x2] (.int ((gI 0 h a i).getD 0) :: st) h else none := R_iaload d_X8_firstIn_51
theorem d_X8_firstIn_52 : decode (mB M_X8_firstIn) 52 = .ok (.ireturn, 1) := by decide +kernel
theorem r_X8_firstIn_52 {x0 x1 x2 : Value} {v : Int32} {h : AH} : Run M_X8_firstIn 52 [x0, x1, x2] [.int v] h = some (h, some (.int v)) := R_ireturn d_X8_firstIn_52 rfl rfl
theorem d_X8_ahead_0 : decode (mB M_X8_ahead) 0 = .ok (.iload_n 1, 1) := by decide +kernel
theorem r_X8_ahead_0 {x0 : Value} {a : Int32} {st : List Value} {h : AH} : Run M_X8_ahead 0 [x0, .int a] st h = Run M_X8_ahead 1 [x0, .int a] (.int a :: st) h := R_iload_n d_X8_ahead_0 rfl
theorem d_X8_ahead_1 : decode (mB M_X8_ahead) 1 = .ok (.iconst 0, 1) := by decide +kernel
theorem r_X8_ahead_1 {x0 x1 : Value} {st : List Value} {h : AH} : Run M_X8_ahead 1 [x0, x1] st h = Run M_X8_ahead 2 [x0, x1] (.int (nI 0) :: st) h := R_iconst d_X8_ahead_1 (by decide)
theorem d_X8_ahead_2 : decode (mB M_X8_ahead) 2 = .ok (.sipush 999, 3) := by decide +kernel
theorem r_X8_ahead_2 {x0 x1 : Value} {st : List Value} {h : AH} : Run M_X8_ahead 2 [x0, x1] st h = Run M_X8_ahead 5 [x0, x1] (.int (nI 999) :: st) h := R_sipush d_X8_ahead_2 (by decide)
theorem d_X8_ahead_5 : decode (mB M_X8_ahead) 5 = .ok (.invokestatic 65, 3) := by decide +kernel
theorem r_X8_ahead_5 {x0 x1 : Value} {p0 : Int32} {p1 : Int32} {p2 : Int32} {h : AH} : Run M_X8_ahead 5 [x0, x1] (.int p2 :: .int p1 :: .int p0 :: []) h = if (Call M_X8_within h [.int p0, .int p1, .int p2]).isSome = true then Run M_X8_ahead 8 [x0, x1] (rL (Call M_X8_within h [.int p0, .int p1, .int p2]) ++ []) (cH (Call M_X8_within h [.int p0, .int p1, .int p2])) else none := R_stat d_X8_ahead_5 rfl rfl rfl rfl (Nat.le_of_ble_eq_true rfl)
theorem d_X8_ahead_8 : decode (mB M_X8_ahead) 8 = .ok (.ifCond .eq 14, 3) := by decide +kernel
theorem r_X8_ahead_8 {x0 x1 : Value} {x : Int32} {st : List Value} {h : AH} : Run M_X8_ahead 8 [x0, x1] (.int x :: st) h = if x = nI 0 then Run M_X8_ahead 22 [x0, x1] st h else Run M_X8_ahead 11 [x0, x1] st h := R_if_eq d_X8_ahead_8 (by decide)
theorem d_X8_ahead_11 : decode (mB M_X8_ahead) 11 = .ok (.aload_n 0, 1) := by decide +kernel
theorem r_X8_ahead_11 {x1 : Value} {a : Nat} {st : List Value} {h : AH} : Run M_X8_ahead 11 [.ref a, x1] st h = Run M_X8_ahead 12 [.ref a, x1] (.ref a :: st) h := R_aload_n d_X8_ahead_11 rfl
theorem d_X8_ahead_12 : decode (mB M_X8_ahead) 12 = .ok (.getfield 33, 3) := by decide +kernel
theorem r_X8_ahead_12 {x0 x1 : Value} {a : Nat} {st : List Value} {h : AH} : Run M_X8_ahead 12 [x0, x1] (.ref a :: st) h = if (gF h a 8 3).isSome = true then Run M_X8_ahead 15 [x0, x1] ((gF h a 8 3).getD .null :: st) h else none := R_getfield d_X8_ahead_12 rfl
theorem d_X8_ahead_15 : decode (mB M_X8_ahead) 15 = .ok (.iload_n 1, 1) := by decide +kernel
theorem r_X8_ahead_15 {x0 : Value} {a : Int32} {st : List Value} {h : AH} : Run M_X8_ahead 15 [x0, .int a] st h = Run M_X8_ahead 16 [x0, .int a] (.int a :: st) h := R_iload_n d_X8_ahead_15 rfl
theorem d_X8_ahead_16 : decode (mB M_X8_ahead) 16 = .ok (.invokevirtual 292, 3) := by decide +kernel
theorem r_X8_ahead_16 {x0 x1 : Value} {p0 : Int32} {a : Nat} {h : AH} : Run M_X8_ahead 16 [x0, x1] (.int p0 :: .ref a :: []) h = if refO h 3 (some (.ref a)) = true then (if (Call M_X3_aheadOf h [.ref a, .int p0]).isSome = true then Run M_X8_ahead 19 [x0, x1] (rL (Call M_X3_aheadOf h [.ref a, .int p0]) ++ []) (cH (Call M_X3_aheadOf h [.ref a, .int p0])) else none) else none := R_virt d_X8_ahead_16 rfl rfl rfl rfl rfl (Nat.le_of_ble_eq_true rfl)
theorem d_X8_ahead_19 : decode (mB M_X8_ahead) 19 = .ok (.goto 5, 3) := by decide +kernel
theorem r_X8_ahead_19 {x0 x1 : Value} {st : List Value} {h : AH} : Run M_X8_ahead 19 [x0, x1] st h = Run M_X8_ahead 24 [x0, x1] st h := R_goto d_X8_ahead_19 (by decide)
theorem d_X8_ahead_22 : decode (mB M_X8_ahead) 22 = .ok (.ldc 69, 2) := by decide +kernel
theorem r_X8_ahead_22 {x0 x1 : Value} {st : List Value} {h : AH} : Run M_X8_ahead 22 [x0, x1] st h = Run M_X8_ahead 24 [x0, x1] (.int (-1000000002) :: st) h := R_ldc d_X8_ahead_22 (by decide)
theorem d_X8_ahead_24 : decode (mB M_X8_ahead) 24 = .ok (.ireturn, 1) := by decide +kernel
theorem r_X8_ahead_24 {x0 x1 : Value} {v : Int32} {h : AH} : Run M_X8_ahead 24 [x0, x1] [.int v] h = some (h, some (.int v)) := R_ireturn d_X8_ahead_24 rfl rfl
theorem d_X8_write_0 : decode (mB M_X8_write) 0 = .ok (.aload_n 0, 1) := by decide +kernel
theorem r_X8_write_0 {x1 x2 : Value} {a : Nat} {st : List Value} {h : AH} : Run M_X8_write 0 [.ref a, x1, x2] st h = Run M_X8_write 1 [.ref a, x1, x2] (.ref a :: st) h := R_aload_n d_X8_write_0 rfl
theorem d_X8_write_1 : decode (mB M_X8_write) 1 = .ok (.getfield 57, 3) := by decide +kernel
theorem r_X8_write_1 {x0 x1 x2 : Value} {a : Nat} {st : List Value} {h : AH} : Run M_X8_write 1 [x0, x1, x2] (.ref a :: st) h = if (gF h a 8 7).isSome = true then Run M_X8_write 4 [x0, x1, x2] ((gF h a 8 7).getD .null :: st) h else none := R_getfield d_X8_write_1 rfl
theorem d_X8_write_4 : decode (mB M_X8_write) 4 = .ok (.iload_n 1, 1) := by decide +kernel
theorem r_X8_write_4 {x0 x2 : Value} {a : Int32} {st : List Value} {h : AH} : Run M_X8_write 4 [x0, .int a, x2] st h = Run M_X8_write 5 [x0, .int a, x2] (.int a :: st) h := R_iload_n d_X8_write_4 rfl
theorem d_X8_write_5 : decode (mB M_X8_write) 5 = .ok (.invokevirtual 128, 3) := by decide +kernel
theorem r_X8_write_5 {x0 x1 x2 : Value} {p0 : Int32} {a : Nat} {h : AH} : Run M_X8_write 5 [x0, x1, x2] (.int p0 :: .ref a :: []) h = if refO h 4 (some (.ref a)) = true then (if (Call M_X4_hasPart h [.ref a, .int p0]).isSome = true then Run M_X8_write 8 [x0, x1, x2] (rL (Call M_X4_hasPart h [.ref a, .int p0]) ++ []) (cH (Call M_X4_hasPart h [.ref a, .int p0])) else none) else none := R_virt d_X8_write_5 rfl rfl rfl rfl rfl (Nat.le_of_ble_eq_true rfl)
theorem d_X8_write_8 : decode (mB M_X8_write) 8 = .ok (.ifCond .ne 6, 3) := by decide +kernel
theorem r_X8_write_8 {x0 x1 x2 : Value} {x : Int32} {st : List Value} {h : AH} : Run M_X8_write 8 [x0, x1, x2] (.int x :: st) h = if x = nI 0 then Run M_X8_write 11 [x0, x1, x2] st h else Run M_X8_write 14 [x0, x1, x2] st h := R_if_ne d_X8_write_8 (by decide)
theorem d_X8_write_11 : decode (mB M_X8_write) 11 = .ok (.ldc 131, 2) := by decide +kernel
theorem r_X8_write_11 {x0 x1 x2 : Value} {st : List Value} {h : AH} : Run M_X8_write 11 [x0, x1, x2] st h = Run M_X8_write 13 [x0, x1, x2] (.int (-1000000001) :: st) h := R_ldc d_X8_write_11 (by decide)
theorem d_X8_write_13 : decode (mB M_X8_write) 13 = .ok (.ireturn, 1) := by decide +kernel
theorem r_X8_write_13 {x0 x1 x2 : Value} {v : Int32} {h : AH} : Run M_X8_write 13 [x0, x1, x2] [.int v] h = some (h, some (.int v)) := R_ireturn d_X8_write_13 rfl rfl
theorem d_X8_write_14 : decode (mB M_X8_write) 14 = .ok (.iload_n 2, 1) := by decide +kernel
theorem r_X8_write_14 {x0 x1 : Value} {a : Int32} {st : List Value} {h : AH} : Run M_X8_write 14 [x0, x1, .int a] st h = Run M_X8_write 15 [x0, x1, .int a] (.int a :: st) h := R_iload_n d_X8_write_14 rfl
theorem d_X8_write_15 : decode (mB M_X8_write) 15 = .ok (.iconst 0, 1) := by decide +kernel
theorem r_X8_write_15 {x0 x1 x2 : Value} {st : List Value} {h : AH} : Run M_X8_write 15 [x0, x1, x2] st h = Run M_X8_write 16 [x0, x1, x2] (.int (nI 0) :: st) h := R_iconst d_X8_write_15 (by decide)
theorem d_X8_write_16 : decode (mB M_X8_write) 16 = .ok (.bipush 60, 2) := by decide +kernel
theorem r_X8_write_16 {x0 x1 x2 : Value} {st : List Value} {h : AH} : Run M_X8_write 16 [x0, x1, x2] st h = Run M_X8_write 18 [x0, x1, x2] (.int (nI 60) :: st) h := R_bipush d_X8_write_16 (by decide)
theorem d_X8_write_18 : decode (mB M_X8_write) 18 = .ok (.invokestatic 65, 3) := by decide +kernel
theorem r_X8_write_18 {x0 x1 x2 : Value} {p0 : Int32} {p1 : Int32} {p2 : Int32} {h : AH} : Run M_X8_write 18 [x0, x1, x2] (.int p2 :: .int p1 :: .int p0 :: []) h = if (Call M_X8_within h [.int p0, .int p1, .int p2]).isSome = true then Run M_X8_write 21 [x0, x1, x2] (rL (Call M_X8_within h [.int p0, .int p1, .int p2]) ++ []) (cH (Call M_X8_within h [.int p0, .int p1, .int p2])) else none := R_stat d_X8_write_18 rfl rfl rfl rfl (Nat.le_of_ble_eq_true rfl)
theorem d_X8_write_21 : decode (mB M_X8_write) 21 = .ok (.ifCond .ne 6, 3) := by decide +kernel
theorem r_X8_write_21 {x0 x1 x2 : Value} {x : Int32} {st : List Value} {h : AH} : Run M_X8_write 21 [x0, x1, x2] (.int x :: st) h = if x = nI 0 then Run M_X8_write 24 [x0, x1, x2] st h else Run M_X8_write 27 [x0, x1, x2] st h := R_if_ne d_X8_write_21 (by decide)
theorem d_X8_write_24 : decode (mB M_X8_write) 24 = .ok (.ldc 69, 2) := by decide +kernel
theorem r_X8_write_24 {x0 x1 x2 : Value} {st : List Value} {h : AH} : Run M_X8_write 24 [x0, x1, x2] st h = Run M_X8_write 26 [x0, x1, x2] (.int (-1000000002) :: st) h := R_ldc d_X8_write_24 (by decide)
theorem d_X8_write_26 : decode (mB M_X8_write) 26 = .ok (.ireturn, 1) := by decide +kernel
theorem r_X8_write_26 {x0 x1 x2 : Value} {v : Int32} {h : AH} : Run M_X8_write 26 [x0, x1, x2] [.int v] h = some (h, some (.int v)) := R_ireturn d_X8_write_26 rfl rfl
theorem d_X8_write_27 : decode (mB M_X8_write) 27 = .ok (.aload_n 0, 1) := by decide +kernel
theorem r_X8_write_27 {x1 x2 : Value} {a : Nat} {st : List Value} {h : AH} : Run M_X8_write 27 [.ref a, x1, x2] st h = Run M_X8_write 28 [.ref a, x1, x2] (.ref a :: st) h := R_aload_n d_X8_write_27 rfl
theorem d_X8_write_28 : decode (mB M_X8_write) 28 = .ok (.getfield 40, 3) := by decide +kernel
theorem r_X8_write_28 {x0 x1 x2 : Value} {a : Nat} {st : List Value} {h : AH} : Run M_X8_write 28 [x0, x1, x2] (.ref a :: st) h = if (gF h a 8 4).isSome = true then Run M_X8_write 31 [x0, x1, x2] ((gF h a 8 4).getD .null :: st) h else none := R_getfield d_X8_write_28 rfl
theorem d_X8_write_31 : decode (mB M_X8_write) 31 = .ok (.iload_n 1, 1) := by decide +kernel
theorem r_X8_write_31 {x0 x2 : Value} {a : Int32} {st : List Value} {h : AH} : Run M_X8_write 31 [x0, .int a, x2] st h = Run M_X8_write 32 [x0, .int a, x2] (.int a :: st) h := R_iload_n d_X8_write_31 rfl
theorem d_X8_write_32 : decode (mB M_X8_write) 32 = .ok (.iload_n 2, 1) := by decide +kernel
theorem r_X8_write_32 {x0 x1 : Value} {a : Int32} {st : List Value} {h : AH} : Run M_X8_write 32 [x0, x1, .int a] st h = Run M_X8_write 33 [x0, x1, .int a] (.int a :: st) h := R_iload_n d_X8_write_32 rfl
theorem d_X8_write_33 : decode (mB M_X8_write) 33 = .ok (.invokevirtual 295, 3) := by decide +kernel
theorem r_X8_write_33 {x0 x1 x2 : Value} {p0 : Int32} {p1 : Int32} {a : Nat} {h : AH} : Run M_X8_write 33 [x0, x1, x2] (.int p1 :: .int p0 :: .ref a :: []) h = if refO h 1 (some (.ref a)) = true then (if (Call M_X1_put h [.ref a, .int p0, .int p1]).isSome = true then Run M_X8_write 36 [x0, x1, x2] (rL (Call M_X1_put h [.ref a, .int p0, .int p1]) ++ []) (cH (Call M_X1_put h [.ref a, .int p0, .int p1])) else none) else none := R_virt d_X8_write_33 rfl rfl rfl rfl rfl (Nat.le_of_ble_eq_true rfl)
theorem d_X8_write_36 : decode (mB M_X8_write) 36 = .ok (.ifCond .eq 13, 3) := by decide +kernel
theorem r_X8_write_36 {x0 x1 x2 : Value} {x : Int32} {st : List Value} {h : AH} : Run M_X8_write 36 [x0, x1, x2] (.int x :: st) h = if x = nI 0 then Run M_X8_write 49 [x0, x1, x2] st h else Run M_X8_write 39 [x0, x1, x2] st h := R_if_eq d_X8_write_36 (by decide)
theorem d_X8_write_39 : decode (mB M_X8_write) 39 = .ok (.aload_n 0, 1) := by decide +kernel
theorem r_X8_write_39 {x1 x2 : Value} {a : Nat} {st : List Value} {h : AH} : Run M_X8_write 39 [.ref a, x1, x2] st h = Run M_X8_write 40 [.ref a, x1, x2] (.ref a :: st) h := R_aload_n d_X8_write_39 rfl
theorem d_X8_write_40 : decode (mB M_X8_write) 40 = .ok (.getfield 40, 3) := by decide +kernel
theorem r_X8_write_40 {x0 x1 x2 : Value} {a : Nat} {st : List Value} {h : AH} : Run M_X8_write 40 [x0, x1, x2] (.ref a :: st) h = if (gF h a 8 4).isSome = true then Run M_X8_write 43 [x0, x1, x2] ((gF h a 8 4).getD .null :: st) h else none := R_getfield d_X8_write_40 rfl
theorem d_X8_write_43 : decode (mB M_X8_write) 43 = .ok (.getfield 127, 3) := by decide +kernel
theorem r_X8_write_43 {x0 x1 x2 : Value} {a : Nat} {st : List Value} {h : AH} : Run M_X8_write 43 [x0, x1, x2] (.ref a :: st) h = if (gF h a 1 2).isSome = true then Run M_X8_write 46 [x0, x1, x2] ((gF h a 1 2).getD .null :: st) h else none := R_getfield d_X8_write_43 rfl
theorem d_X8_write_46 : decode (mB M_X8_write) 46 = .ok (.goto 5, 3) := by decide +kernel
theorem r_X8_write_46 {x0 x1 x2 : Value} {st : List Value} {h : AH} : Run M_X8_write 46 [x0, x1, x2] st h = Run M_X8_write 51 [x0, x1, x2] st h := R_goto d_X8_write_46 (by decide)
theorem d_X8_write_49 : decode (mB M_X8_write) 49 = .ok (.ldc 78, 2) := by decide +kernel
theorem r_X8_write_49 {x0 x1 x2 : Value} {st : List Value} {h : AH} : Run M_X8_write 49 [x0, x1, x2] st h = Run M_X8_write 51 [x0, x1, x2] (.int (-1000000004) :: st) h := R_ldc d_X8_write_49 (by decide)
theorem d_X8_write_51 : decode (mB M_X8_write) 51 = .ok (.ireturn, 1) := by decide +kernel
theorem r_X8_write_51 {x0 x1 x2 : Value} {v : Int32} {h : AH} : Run M_X8_write 51 [x0, x1, x2] [.int v] h = some (h, some (.int v)) := R_ireturn d_X8_write_51 rfl rfl
theorem d_X8_judge_0 : decode (mB M_X8_judge) 0 = .ok (.aload_n 0, 1) := by decide +kernel
theorem r_X8_judge_0 {a : Nat} {st : List Value} {h : AH} : Run M_X8_judge 0 [.ref a] st h = Run M_X8_judge 1 [.ref a] (.ref a :: st) h := R_aload_n d_X8_judge_0 rfl
theorem d_X8_judge_1 : decode (mB M_X8_judge) 1 = .ok (.getfield 40, 3) := by decide +kernel
theorem r_X8_judge_1 {x0 : Value} {a : Nat} {st : List Value} {h : AH} : Run M_X8_judge 1 [x0] (.ref a :: st) h = if (gF h a 8 4).isSome = true then Run M_X8_judge 4 [x0] ((gF h a 8 4).getD .null :: st) h else none := R_getfield d_X8_judge_1 rfl
theorem d_X8_judge_4 : decode (mB M_X8_judge) 4 = .ok (.aload_n 0, 1) := by decide +kernel
theorem r_X8_judge_4 {a : Nat} {st : List Value} {h : AH} : Run M_X8_judge 4 [.ref a] st h = Run M_X8_judge 5 [.ref a] (.ref a :: st) h := R_aload_n d_X8_judge_4 rfl
theorem d_X8_judge_5 : decode (mB M_X8_judge) 5 = .ok (.getfield 57, 3) := by decide +kernel
theorem r_X8_judge_5 {x0 : Value} {a : Nat} {st : List Value} {h : AH} : Run M_X8_judge 5 [x0] (.ref a :: st) h = if (gF h a 8 7).isSome = true then Run M_X8_judge 8 [x0] ((gF h a 8 7).getD .null :: st) h else none := R_getfield d_X8_judge_5 rfl
theorem d_X8_judge_8 : decode (mB M_X8_judge) 8 = .ok (.invokevirtual 296, 3) := by decide +kernel
theorem r_X8_judge_8 {x0 : Value} {p0 : Nat} {a : Nat} {h : AH} : Run M_X8_judge 8 [x0] (.ref p0 :: .ref a :: []) h = if refO h 1 (some (.ref a)) = true then (if (Call M_X1_firstWrong h [.ref a, .ref p0]).isSome = true then Run M_X8_judge 11 [x0] (rL (Call M_X1_firstWrong h [.ref a, .ref p0]) ++ []) (cH (Call M_X1_firstWrong h [.ref a, .ref p0])) else none) else none := R_virt d_X8_judge_8 rfl rfl rfl rfl rfl (Nat.le_of_ble_eq_true rfl)
theorem d_X8_judge_11 : decode (mB M_X8_judge) 11 = .ok (.ireturn, 1) := by decide +kernel
theorem r_X8_judge_11 {x0 : Value} {v : Int32} {h : AH} : Run M_X8_judge 11 [x0] [.int v] h = some (h, some (.int v)) := R_ireturn d_X8_judge_11 rfl rfl
theorem d_X8_tear_0 : decode (mB M_X8_tear) 0 = .ok (.aload_n 0, 1) := by decide +kernel
theorem r_X8_tear_0 {x1 : Value} {a : Nat} {st : List Value} {h : AH} : Run M_X8_tear 0 [.ref a, x1] st h = Run M_X8_tear 1 [.ref a, x1] (.ref a :: st) h := R_aload_n d_X8_tear_0 rfl
theorem d_X8_tear_1 : decode (mB M_X8_tear) 1 = .ok (.getfield 33, 3) := by decide +kernel
theorem r_X8_tear_1 {x0 x1 : Value} {a : Nat} {st : List Value} {h : AH} : Run M_X8_tear 1 [x0, x1] (.ref a :: st) h = if (gF h a 8 3).isSome = true then Run M_X8_tear 4 [x0, x1] ((gF h a 8 3).getD .null :: st) h else none := R_getfield d_X8_tear_1 rfl
theorem d_X8_tear_4 : decode (mB M_X8_tear) 4 = .ok (.getfield 126, 3) := by decide +kernel
theorem r_X8_tear_4 {x0 x1 : Value} {a : Nat} {st : List Value} {h : AH} : Run M_X8_tear 4 [x0, x1] (.ref a :: st) h = if (gF h a 3 2).isSome = true then Run M_X8_tear 7 [x0, x1] ((gF h a 3 2).getD .null :: st) h else none := R_getfield d_X8_tear_4 rfl
theorem d_X8_tear_7 : decode (mB M_X8_tear) 7 = .ok (.aload_n 0, 1) := by decide +kernel
theorem r_X8_tear_7 {x1 : Value} {a : Nat} {st : List Value} {h : AH} : Run M_X8_tear 7 [.ref a, x1] st h = Run M_X8_tear 8 [.ref a, x1] (.ref a :: st) h := R_aload_n d_X8_tear_7 rfl
theorem d_X8_tear_8 : decode (mB M_X8_tear) 8 = .ok (.getfield 40, 3) := by decide +kernel
theorem r_X8_tear_8 {x0 x1 : Value} {a : Nat} {st : List Value} {h : AH} : Run M_X8_tear 8 [x0, x1] (.ref a :: st) h = if (gF h a 8 4).isSome = true then Run M_X8_tear 11 [x0, x1] ((gF h a 8 4).getD .null :: st) h else none := R_getfield d_X8_tear_8 rfl
theorem d_X8_tear_11 : decode (mB M_X8_tear) 11 = .ok (.getfield 127, 3) := by decide +kernel
theorem r_X8_tear_11 {x0 x1 : Value} {a : Nat} {st : List Value} {h : AH} : Run M_X8_tear 11 [x0, x1] (.ref a :: st) h = if (gF h a 1 2).isSome = true then Run M_X8_tear 14 [x0, x1] ((gF h a 1 2).getD .null :: st) h else none := R_getfield d_X8_tear_11 rfl
theorem d_X8_tear_14 : decode (mB M_X8_tear) 14 = .ok (.iadd, 1) := by decide +kernel
theorem r_X8_tear_14 {x0 x1 : Value} {x y : Int32} {st : List Value} {h : AH} : Run M_X8_tear 14 [x0, x1] (.int y :: .int x :: st) h = Run M_X8_tear 15 [x0, x1] (.int (x + y) :: st) h := R_iadd d_X8_tear_14
theorem d_X8_tear_15 : decode (mB M_X8_tear) 15 = .ok (.istore_n 1, 1) := by decide +kernel
theorem r_X8_tear_15 {x0 x1 : Value} {a : Int32} {st : List Value} {h : AH} (hc : x0.category = 1) : Run M_X8_tear 15 [x0, x1] (.int a :: st) h = Run M_X8_tear 16 [x0, .int a] st h := R_istore_n d_X8_tear_15 (Nat.lt_of_lt_of_le (by decide : 1 < 2) (Nat.le_refl 2)) (catP_of rfl hc)
theorem d_X8_tear_16 : decode (mB M_X8_tear) 16 = .ok (.aload_n 0, 1) := by decide +kernel
theorem r_X8_tear_16 {x1 : Value} {a : Nat} {st : List Value} {h : AH} : Run M_X8_tear 16 [.ref a, x1] st h = Run M_X8_tear 17 [.ref a, x1] (.ref a :: st) h := R_aload_n d_X8_tear_16 rfl
theorem d_X8_tear_17 : decode (mB M_X8_tear) 17 = .ok (.getfield 33, 3) := by decide +kernel
theorem r_X8_tear_17 {x0 x1 : Value} {a : Nat} {st : List Value} {h : AH} : Run M_X8_tear 17 [x0, x1] (.ref a :: st) h = if (gF h a 8 3).isSome = true then Run M_X8_tear 20 [x0, x1] ((gF h a 8 3).getD .null :: st) h else none := R_getfield d_X8_tear_17 rfl
theorem d_X8_tear_20 : decode (mB M_X8_tear) 20 = .ok (.iconst 0, 1) := by decide +kernel
theorem r_X8_tear_20 {x0 x1 : Value} {st : List Value} {h : AH} : Run M_X8_tear 20 [x0, x1] st h = Run M_X8_tear 21 [x0, x1] (.int (nI 0) :: st) h := R_iconst d_X8_tear_20 (by decide)
theorem d_X8_tear_21 : decode (mB M_X8_tear) 21 = .ok (.putfield 126, 3) := by decide +kernel
theorem r_X8_tear_21 {x0 x1 : Value} {v : Int32} {a : Nat} {st : List Value} {h : AH} : Run M_X8_tear 21 [x0, x1] (.int v :: .ref a :: st) h = if (pF h a 3 2 (.int v)).isSome = true then Run M_X8_tear 24 [x0, x1] st ((pF h a 3 2 (.int v)).getD h) else none := R_putfield d_X8_tear_21 rfl (okP_int rfl rfl)
theorem d_X8_tear_24 : decode (mB M_X8_tear) 24 = .ok (.aload_n 0, 1) := by decide +kernel
theorem r_X8_tear_24 {x1 : Value} {a : Nat} {st : List Value} {h : AH} : Run M_X8_tear 24 [.ref a, x1] st h = Run M_X8_tear 25 [.ref a, x1] (.ref a :: st) h := R_aload_n d_X8_tear_24 rfl
theorem d_X8_tear_25 : decode (mB M_X8_tear) 25 = .ok (.getfield 40, 3) := by decide +kernel
theorem r_X8_tear_25 {x0 x1 : Value} {a : Nat} {st : List Value} {h : AH} : Run M_X8_tear 25 [x0, x1] (.ref a :: st) h = if (gF h a 8 4).isSome = true then Run M_X8_tear 28 [x0, x1] ((gF h a 8 4).getD .null :: st) h else none := R_getfield d_X8_tear_25 rfl
theorem d_X8_tear_28 : decode (mB M_X8_tear) 28 = .ok (.iconst 0, 1) := by decide +kernel
theorem r_X8_tear_28 {x0 x1 : Value} {st : List Value} {h : AH} : Run M_X8_tear 28 [x0, x1] st h = Run M_X8_tear 29 [x0, x1] (.int (nI 0) :: st) h := R_iconst d_X8_tear_28 (by decide)
theorem d_X8_tear_29 : decode (mB M_X8_tear) 29 = .ok (.putfield 127, 3) := by decide +kernel
theorem r_X8_tear_29 {x0 x1 : Value} {v : Int32} {a : Nat} {st : List Value} {h : AH} : Run M_X8_tear 29 [x0, x1] (.int v :: .ref a :: st) h = if (pF h a 1 2 (.int v)).isSome = true then Run M_X8_tear 32 [x0, x1] st ((pF h a 1 2 (.int v)).getD h) else none := R_putfield d_X8_tear_29 rfl (okP_int rfl rfl)
theorem d_X8_tear_32 : decode (mB M_X8_tear) 32 = .ok (.iload_n 1, 1) := by decide +kernel
theorem r_X8_tear_32 {x0 : Value} {a : Int32} {st : List Value} {h : AH} : Run M_X8_tear 32 [x0, .int a] st h = Run M_X8_tear 33 [x0, .int a] (.int a :: st) h := R_iload_n d_X8_tear_32 rfl
theorem d_X8_tear_33 : decode (mB M_X8_tear) 33 = .ok (.ireturn, 1) := by decide +kernel
theorem r_X8_tear_33 {x0 x1 : Value} {v : Int32} {h : AH} : Run M_X8_tear 33 [x0, x1] [.int v] h = some (h, some (.int v)) := R_ireturn d_X8_tear_33 rfl rfl
theorem d_X8_seed_0 : decode (mB M_X8_seed) 0 = .ok (.iload_n 1, 1) := by decide +kernel
theorem r_X8_seed_0 {x0 x2 : Value} {a : Int32} {st : List Value} {h : AH} : Run M_X8_seed 0 [x0, .int a, x2] st h = Run M_X8_seed 1 [x0, .int a, x2] (.int a :: st) h := R_iload_n d_X8_seed_0 rfl
theorem d_X8_seed_1 : decode (mB M_X8_seed) 1 = .ok (.ifCond .ge 6, 3) := by decide +kernel
theorem r_X8_seed_1 {x0 x1 x2 : Value} {x : Int32} {st : List Value} {h : AH} : Run M_X8_seed 1 [x0, x1, x2] (.int x :: st) h = if nI 0 ≤ x then Run M_X8_seed 7 [x0, x1, x2] st h else Run M_X8_seed 4 [x0, x1, x2] st h := R_if_ge d_X8_seed_1 (by decide)
theorem d_X8_seed_4 : decode (mB M_X8_seed) 4 = .ok (.ldc 69, 2) := by decide +kernel
theorem r_X8_seed_4 {x0 x1 x2 : Value} {st : List Value} {h : AH} : Run M_X8_seed 4 [x0, x1, x2] st h = Run M_X8_seed 6 [x0, x1, x2] (.int (-1000000002) :: st) h := R_ldc d_X8_seed_4 (by decide)
theorem d_X8_seed_6 : decode (mB M_X8_seed) 6 = .ok (.ireturn, 1) := by decide +kernel
theorem r_X8_seed_6 {x0 x1 x2 : Value} {v : Int32} {h : AH} : Run M_X8_seed 6 [x0, x1, x2] [.int v] h = some (h, some (.int v)) := R_ireturn d_X8_seed_6 rfl rfl
theorem d_X8_seed_7 : decode (mB M_X8_seed) 7 = .ok (.aload_n 0, 1) := by decide +kernel
theorem r_X8_seed_7 {x1 x2 : Value} {a : Nat} {st : List Value} {h : AH} : Run M_X8_seed 7 [.ref a, x1, x2] st h = Run M_X8_seed 8 [.ref a, x1, x2] (.ref a :: st) h := R_aload_n d_X8_seed_7 rfl
theorem d_X8_seed_8 : decode (mB M_X8_seed) 8 = .ok (.getfield 57, 3) := by decide +kernel
theorem r_X8_seed_8 {x0 x1 x2 : Value} {a : Nat} {st : List Value} {h : AH} : Run M_X8_seed 8 [x0, x1, x2] (.ref a :: st) h = if (gF h a 8 7).isSome = true then Run M_X8_seed 11 [x0, x1, x2] ((gF h a 8 7).getD .null :: st) h else none := R_getfield d_X8_seed_8 rfl
theorem d_X8_seed_11 : decode (mB M_X8_seed) 11 = .ok (.getfield 92, 3) := by decide +kernel
theorem r_X8_seed_11 {x0 x1 x2 : Value} {a : Nat} {st : List Value} {h : AH} : Run M_X8_seed 11 [x0, x1, x2] (.ref a :: st) h = if (gF h a 4 6).isSome = true then Run M_X8_seed 14 [x0, x1, x2] ((gF h a 4 6).getD .null :: st) h else none := R_getfield d_X8_seed_11 rfl
theorem d_X8_seed_14 : decode (mB M_X8_seed) 14 = .ok (.getfield 299, 3) := by decide +kernel
theorem r_X8_seed_14 {x0 x1 x2 : Value} {a : Nat} {st : List Value} {h : AH} : Run M_X8_seed 14 [x0, x1, x2] (.ref a :: st) h = if (gF h a 0 10).isSome = true then Run M_X8_seed 17 [x0, x1, x2] ((gF h a 0 10).getD .null :: st) h else none := R_getfield d_X8_seed_14 rfl
theorem d_X8_seed_17 : decode (mB M_X8_seed) 17 = .ok (.istore_n 2, 1) := by decide +kernel
theorem r_X8_seed_17 {x0 x1 x2 : Value} {a : Int32} {st : List Value} {h : AH} (hc : x1.category = 1) : Run M_X8_seed 17 [x0, x1, x2] (.int a :: st) h = Run M_X8_seed 18 [x0, x1, .int a] st h := R_istore_n d_X8_seed_17 (Nat.lt_of_lt_of_le (by decide : 2 < 3) (Nat.le_refl 3)) (catP_of rfl hc)
theorem d_X8_seed_18 : decode (mB M_X8_seed) 18 = .ok (.aload_n 0, 1) := by decide +kernel
theorem r_X8_seed_18 {x1 x2 : Value} {a : Nat} {st : List Value} {h : AH} : Run M_X8_seed 18 [.ref a, x1, x2] st h = Run M_X8_seed 19 [.ref a, x1, x2] (.ref a :: st) h := R_aload_n d_X8_seed_18 rfl
theorem d_X8_seed_19 : decode (mB M_X8_seed) 19 = .ok (.getfield 57, 3) := by decide +kernel
theorem r_X8_seed_19 {x0 x1 x2 : Value} {a : Nat} {st : List Value} {h : AH} : Run M_X8_seed 19 [x0, x1, x2] (.ref a :: st) h = if (gF h a 8 7).isSome = true then Run M_X8_seed 22 [x0, x1, x2] ((gF h a 8 7).getD .null :: st) h else none := R_getfield d_X8_seed_19 rfl
theorem d_X8_seed_22 : decode (mB M_X8_seed) 22 = .ok (.getfield 92, 3) := by decide +kernel
theorem r_X8_seed_22 {x0 x1 x2 : Value} {a : Nat} {st : List Value} {h : AH} : Run M_X8_seed 22 [x0, x1, x2] (.ref a :: st) h = if (gF h a 4 6).isSome = true then Run M_X8_seed 25 [x0, x1, x2] ((gF h a 4 6).getD .null :: st) h else none := R_getfield d_X8_seed_22 rfl
theorem d_X8_seed_25 : decode (mB M_X8_seed) 25 = .ok (.iload_n 1, 1) := by decide +kernel
theorem r_X8_seed_25 {x0 x2 : Value} {a : Int32} {st : List Value} {h : AH} : Run M_X8_seed 25 [x0, .int a, x2] st h = Run M_X8_seed 26 [x0, .int a, x2] (.int a :: st) h := R_iload_n d_X8_seed_25 rfl
theorem d_X8_seed_26 : decode (mB M_X8_seed) 26 = .ok (.putfield 299, 3) := by decide +kernel
theorem r_X8_seed_26 {x0 x1 x2 : Value} {v : Int32} {a : Nat} {st : List Value} {h : AH} : Run M_X8_seed 26 [x0, x1, x2] (.int v :: .ref a :: st) h = if (pF h a 0 10 (.int v)).isSome = true then Run M_X8_seed 29 [x0, x1, x2] st ((pF h a 0 10 (.int v)).getD h) else none := R_putfield d_X8_seed_26 rfl (okP_int rfl rfl)
theorem d_X8_seed_29 : decode (mB M_X8_seed) 29 = .ok (.iload_n 2, 1) := by decide +kernel
theorem r_X8_seed_29 {x0 x1 : Value} {a : Int32} {st : List Value} {h : AH} : Run M_X8_seed 29 [x0, x1, .int a] st h = Run M_X8_seed 30 [x0, x1, .int a] (.int a :: st) h := R_iload_n d_X8_seed_29 rfl
theorem d_X8_seed_30 : decode (mB M_X8_seed) 30 = .ok (.ireturn, 1) := by decide +kernel
theorem r_X8_seed_30 {x0 x1 x2 : Value} {v : Int32} {h : AH} : Run M_X8_seed 30 [x0, x1, x2] [.int v] h = some (h, some (.int v)) := R_ireturn d_X8_seed_30 rfl rfl
theorem d_X8_keep_0 : decode (mB M_X8_keep) 0 = .ok (.iload_n 1, 1) := by decide +kernel
theorem r_X8_keep_0 {x0 : Value} {a : Int32} {st : List Value} {h : AH} : Run M_X8_keep 0 [x0, .int a] st h = Run M_X8_keep 1 [x0, .int a] (.int a :: st) h := R_iload_n d_X8_keep_0 rfl
theorem d_X8_keep_1 : decode (mB M_X8_keep) 1 = .ok (.iconst 0, 1) := by decide +kernel
theorem r_X8_keep_1 {x0 x1 : Value} {st : List Value} {h : AH} : Run M_X8_keep 1 [x0, x1] st h = Run M_X8_keep 2 [x0, x1] (.int (nI 0) :: st) h := R_iconst d_X8_keep_1 (by decide)
theorem d_X8_keep_2 : decode (mB M_X8_keep) 2 = .ok (.iconst 1, 1) := by decide +kernel
theorem r_X8_keep_2 {x0 x1 : Value} {st : List Value} {h : AH} : Run M_X8_keep 2 [x0, x1] st h = Run M_X8_keep 3 [x0, x1] (.int (nI 1) :: st) h := R_iconst d_X8_keep_2 (by decide)
theorem d_X8_keep_3 : decode (mB M_X8_keep) 3 = .ok (.invokestatic 65, 3) := by decide +kernel
theorem r_X8_keep_3 {x0 x1 : Value} {p0 : Int32} {p1 : Int32} {p2 : Int32} {h : AH} : Run M_X8_keep 3 [x0, x1] (.int p2 :: .int p1 :: .int p0 :: []) h = if (Call M_X8_within h [.int p0, .int p1, .int p2]).isSome = true then Run M_X8_keep 6 [x0, x1] (rL (Call M_X8_within h [.int p0, .int p1, .int p2]) ++ []) (cH (Call M_X8_within h [.int p0, .int p1, .int p2])) else none := R_stat d_X8_keep_3 rfl rfl rfl rfl (Nat.le_of_ble_eq_true rfl)
theorem d_X8_keep_6 : decode (mB M_X8_keep) 6 = .ok (.ifCond .ne 6, 3) := by decide +kernel
theorem r_X8_keep_6 {x0 x1 : Value} {x : Int32} {st : List Value} {h : AH} : Run M_X8_keep 6 [x0, x1] (.int x :: st) h = if x = nI 0 then Run M_X8_keep 9 [x0, x1] st h else Run M_X8_keep 12 [x0, x1] st h := R_if_ne d_X8_keep_6 (by decide)
theorem d_X8_keep_9 : decode (mB M_X8_keep) 9 = .ok (.ldc 131, 2) := by decide +kernel
theorem r_X8_keep_9 {x0 x1 : Value} {st : List Value} {h : AH} : Run M_X8_keep 9 [x0, x1] st h = Run M_X8_keep 11 [x0, x1] (.int (-1000000001) :: st) h := R_ldc d_X8_keep_9 (by decide)
theorem d_X8_keep_11 : decode (mB M_X8_keep) 11 = .ok (.ireturn, 1) := by decide +kernel
theorem r_X8_keep_11 {x0 x1 : Value} {v : Int32} {h : AH} : Run M_X8_keep 11 [x0, x1] [.int v] h = some (h, some (.int v)) := R_ireturn d_X8_keep_11 rfl rfl
theorem d_X8_keep_12 : decode (mB M_X8_keep) 12 = .ok (.aload_n 0, 1) := by decide +kernel
theorem r_X8_keep_12 {x1 : Value} {a : Nat} {st : List Value} {h : AH} : Run M_X8_keep 12 [.ref a, x1] st h = Run M_X8_keep 13 [.ref a, x1] (.ref a :: st) h := R_aload_n d_X8_keep_12 rfl
theorem d_X8_keep_13 : decode (mB M_X8_keep) 13 = .ok (.getfield 46, 3) := by decide +kernel
theorem r_X8_keep_13 {x0 x1 : Value} {a : Nat} {st : List Value} {h : AH} : Run M_X8_keep 13 [x0, x1] (.ref a :: st) h = if (gF h a 8 5).isSome = true then Run M_X8_keep 16 [x0, x1] ((gF h a 8 5).getD .null :: st) h else none := R_getfield d_X8_keep_13 rfl
theorem d_X8_keep_16 : decode (mB M_X8_keep) 16 = .ok (.iload_n 1, 1) := by decide +kernel
theorem r_X8_keep_16 {x0 : Value} {a : Int32} {st : List Value} {h : AH} : Run M_X8_keep 16 [x0, .int a] st h = Run M_X8_keep 17 [x0, .int a] (.int a :: st) h := R_iload_n d_X8_keep_16 rfl
theorem d_X8_keep_17 : decode (mB M_X8_keep) 17 = .ok (.aaload, 1) := by decide +kernel
theorem r_X8_keep_17 {x0 x1 : Value} {a : Nat} {i : Int32} {st : List Value} {h : AH} : Run M_X8_keep 17 [x0, x1] (.int i :: .ref a :: st) h = if (gR h a i).isSome = true then Run M_X8_keep 18 [x0, x1] (.ref ((gR h a i).getD 0) :: st) h else none := R_aaload d_X8_keep_17
theorem d_X8_keep_18 : decode (mB M_X8_keep) 18 = .ok (.aload_n 0, 1) := by decide +kernel
theorem r_X8_keep_18 {x1 : Value} {a : Nat} {st : List Value} {h : AH} : Run M_X8_keep 18 [.ref a, x1] st h = Run M_X8_keep 19 [.ref a, x1] (.ref a :: st) h := R_aload_n d_X8_keep_18 rfl
theorem d_X8_keep_19 : decode (mB M_X8_keep) 19 = .ok (.getfield 57, 3) := by decide +kernel
theorem r_X8_keep_19 {x0 x1 : Value} {a : Nat} {st : List Value} {h : AH} : Run M_X8_keep 19 [x0, x1] (.ref a :: st) h = if (gF h a 8 7).isSome = true then Run M_X8_keep 22 [x0, x1] ((gF h a 8 7).getD .null :: st) h else none := R_getfield d_X8_keep_19 rfl
theorem d_X8_keep_22 : decode (mB M_X8_keep) 22 = .ok (.getfield 92, 3) := by decide +kernel
theorem r_X8_keep_22 {x0 x1 : Value} {a : Nat} {st : List Value} {h : AH} : Run M_X8_keep 22 [x0, x1] (.ref a :: st) h = if (gF h a 4 6).isSome = true then Run M_X8_keep 25 [x0, x1] ((gF h a 4 6).getD .null :: st) h else none := R_getfield d_X8_keep_22 rfl
theorem d_X8_keep_25 : decode (mB M_X8_keep) 25 = .ok (.invokevirtual 302, 3) := by decide +kernel
theorem r_X8_keep_25 {x0 x1 : Value} {p0 : Nat} {a : Nat} {h : AH} : Run M_X8_keep 25 [x0, x1] (.ref p0 :: .ref a :: []) h = if refO h 0 (some (.ref a)) = true then (if (Call M_X0_copyFrom h [.ref a, .ref p0]).isSome = true then Run M_X8_keep 28 [x0, x1] (rL (Call M_X0_copyFrom h [.ref a, .ref p0]) ++ []) (cH (Call M_X0_copyFrom h [.ref a, .ref p0])) else none) else none := R_virt d_X8_keep_25 rfl rfl rfl rfl rfl (Nat.le_of_ble_eq_true rfl)
theorem d_X8_keep_28 : decode (mB M_X8_keep) 28 = .ok (.aload_n 0, 1) := by decide +kernel
theorem r_X8_keep_28 {x1 : Value} {a : Nat} {st : List Value} {h : AH} : Run M_X8_keep 28 [.ref a, x1] st h = Run M_X8_keep 29 [.ref a, x1] (.ref a :: st) h := R_aload_n d_X8_keep_28 rfl
theorem d_X8_keep_29 : decode (mB M_X8_keep) 29 = .ok (.getfield 50, 3) := by decide +kernel
theorem r_X8_keep_29 {x0 x1 : Value} {a : Nat} {st : List Value} {h : AH} : Run M_X8_keep 29 [x0, x1] (.ref a :: st) h = if (gF h a 8 6).isSome = true then Run M_X8_keep 32 [x0, x1] ((gF h a 8 6).getD .null :: st) h else none := R_getfield d_X8_keep_29 rfl
theorem d_X8_keep_32 : decode (mB M_X8_keep) 32 = .ok (.iload_n 1, 1) := by decide +kernel
theorem r_X8_keep_32 {x0 : Value} {a : Int32} {st : List Value} {h : AH} : Run M_X8_keep 32 [x0, .int a] st h = Run M_X8_keep 33 [x0, .int a] (.int a :: st) h := R_iload_n d_X8_keep_32 rfl
theorem d_X8_keep_33 : decode (mB M_X8_keep) 33 = .ok (.iconst 1, 1) := by decide +kernel
theorem r_X8_keep_33 {x0 x1 : Value} {st : List Value} {h : AH} : Run M_X8_keep 33 [x0, x1] st h = Run M_X8_keep 34 [x0, x1] (.int (nI 1) :: st) h := R_iconst d_X8_keep_33 (by decide)
theorem d_X8_keep_34 : decode (mB M_X8_keep) 34 = .ok (.bastore, 1) := by decide +kernel
theorem r_X8_keep_34 {x0 x1 : Value} {a : Nat} {i x : Int32} {st : List Value} {h : AH} : Run M_X8_keep 34 [x0, x1] (.int x :: .int i :: .ref a :: st) h = if (pI 2 h a i (x &&& 1)).isSome = true then Run M_X8_keep 35 [x0, x1] st ((pI 2 h a i (x &&& 1)).getD h) else none := R_bastore d_X8_keep_34
theorem d_X8_keep_35 : decode (mB M_X8_keep) 35 = .ok (.iconst 1, 1) := by decide +kernel
theorem r_X8_keep_35 {x0 x1 : Value} {st : List Value} {h : AH} : Run M_X8_keep 35 [x0, x1] st h = Run M_X8_keep 36 [x0, x1] (.int (nI 1) :: st) h := R_iconst d_X8_keep_35 (by decide)
theorem d_X8_keep_36 : decode (mB M_X8_keep) 36 = .ok (.ireturn, 1) := by decide +kernel
theorem r_X8_keep_36 {x0 x1 : Value} {v : Int32} {h : AH} : Run M_X8_keep 36 [x0, x1] [.int v] h = some (h, some (.int v)) := R_ireturn d_X8_keep_36 rfl rfl
theorem d_X8_goBack_0 : decode (mB M_X8_goBack) 0 = .ok (.iload_n 1, 1) := by decide +kernel
theorem r_X8_goBack_0 {x0 : Value} {a : Int32} {st : List Value} {h : AH} : Run M_X8_goBack 0 [x0, .int a] st h = Run M_X8_goBack 1 [x0, .int a] (.int a :: st) h := R_iload_n d_X8_goBack_0 rfl
theorem d_X8_goBack_1 : decode (mB M_X8_goBack) 1 = .ok (.iconst 0, 1) := by decide +kernel
theorem r_X8_goBack_1 {x0 x1 : Value} {st : List Value} {h : AH} : Run M_X8_goBack 1 [x0, x1] st h = Run M_X8_goBack 2 [x0, x1] (.int (nI 0) :: st) h := R_iconst d_X8_goBack_1 (by decide)
theorem d_X8_goBack_2 : decode (mB M_X8_goBack) 2 = .ok (.iconst 1, 1) := by decide +kernel
theorem r_X8_goBack_2 {x0 x1 : Value} {st : List Value} {h : AH} : Run M_X8_goBack 2 [x0, x1] st h = Run M_X8_goBack 3 [x0, x1] (.int (nI 1) :: st) h := R_iconst d_X8_goBack_2 (by decide)
theorem d_X8_goBack_3 : decode (mB M_X8_goBack) 3 = .ok (.invokestatic 65, 3) := by decide +kernel
theorem r_X8_goBack_3 {x0 x1 : Value} {p0 : Int32} {p1 : Int32} {p2 : Int32} {h : AH} : Run M_X8_goBack 3 [x0, x1] (.int p2 :: .int p1 :: .int p0 :: []) h = if (Call M_X8_within h [.int p0, .int p1, .int p2]).isSome = true then Run M_X8_goBack 6 [x0, x1] (rL (Call M_X8_within h [.int p0, .int p1, .int p2]) ++ []) (cH (Call M_X8_within h [.int p0, .int p1, .int p2])) else none := R_stat d_X8_goBack_3 rfl rfl rfl rfl (Nat.le_of_ble_eq_true rfl)
theorem d_X8_goBack_6 : decode (mB M_X8_goBack) 6 = .ok (.ifCond .ne 6, 3) := by decide +kernel
theorem r_X8_goBack_6 {x0 x1 : Value} {x : Int32} {st : List Value} {h : AH} : Run M_X8_goBack 6 [x0, x1] (.int x :: st) h = if x = nI 0 then Run M_X8_goBack 9 [x0, x1] st h else Run M_X8_goBack 12 [x0, x1] st h := R_if_ne d_X8_goBack_6 (by decide)
theorem d_X8_goBack_9 : decode (mB M_X8_goBack) 9 = .ok (.ldc 131, 2) := by decide +kernel
theorem r_X8_goBack_9 {x0 x1 : Value} {st : List Value} {h : AH} : Run M_X8_goBack 9 [x0, x1] st h = Run M_X8_goBack 11 [x0, x1] (.int (-1000000001) :: st) h := R_ldc d_X8_goBack_9 (by decide)
theorem d_X8_goBack_11 : decode (mB M_X8_goBack) 11 = .ok (.ireturn, 1) := by decide +kernel
theorem r_X8_goBack_11 {x0 x1 : Value} {v : Int32} {h : AH} : Run M_X8_goBack 11 [x0, x1] [.int v] h = some (h, some (.int v)) := R_ireturn d_X8_goBack_11 rfl rfl
theorem d_X8_goBack_12 : decode (mB M_X8_goBack) 12 = .ok (.aload_n 0, 1) := by decide +kernel
theorem r_X8_goBack_12 {x1 : Value} {a : Nat} {st : List Value} {h : AH} : Run M_X8_goBack 12 [.ref a, x1] st h = Run M_X8_goBack 13 [.ref a, x1] (.ref a :: st) h := R_aload_n d_X8_goBack_12 rfl
theorem d_X8_goBack_13 : decode (mB M_X8_goBack) 13 = .ok (.getfield 50, 3) := by decide +kernel
theorem r_X8_goBack_13 {x0 x1 : Value} {a : Nat} {st : List Value} {h : AH} : Run M_X8_goBack 13 [x0, x1] (.ref a :: st) h = if (gF h a 8 6).isSome = true then Run M_X8_goBack 16 [x0, x1] ((gF h a 8 6).getD .null :: st) h else none := R_getfield d_X8_goBack_13 rfl
theorem d_X8_goBack_16 : decode (mB M_X8_goBack) 16 = .ok (.iload_n 1, 1) := by decide +kernel
theorem r_X8_goBack_16 {x0 : Value} {a : Int32} {st : List Value} {h : AH} : Run M_X8_goBack 16 [x0, .int a] st h = Run M_X8_goBack 17 [x0, .int a] (.int a :: st) h := R_iload_n d_X8_goBack_16 rfl
theorem d_X8_goBack_17 : decode (mB M_X8_goBack) 17 = .ok (.baload, 1) := by decide +kernel
theorem r_X8_goBack_17 {x0 x1 : Value} {a : Nat} {i : Int32} {st : List Value} {h : AH} (ha : a ≠ 0) : Run M_X8_goBack 17 [x0, x1] (.int i :: .ref a :: st) h = if (gI 2 h a i).isSome = true then Run M_X8_goBack 18 [x0, x1] (.int ((gI 2 h a i).getD 0) :: st) h else none := R_baload d_X8_goBack_17 ha
theorem d_X8_goBack_18 : decode (mB M_X8_goBack) 18 = .ok (.ifCond .ne 7, 3) := by decide +kernel
theorem r_X8_goBack_18 {x0 x1 : Value} {x : Int32} {st : List Value} {h : AH} : Run M_X8_goBack 18 [x0, x1] (.int x :: st) h = if x = nI 0 then Run M_X8_goBack 21 [x0, x1] st h else Run M_X8_goBack 25 [x0, x1] st h := R_if_ne d_X8_goBack_18 (by decide)
theorem d_X8_goBack_21 : decode (mB M_X8_goBack) 21 = .ok (.ldc_w 306, 3) := by decide +kernel
theorem r_X8_goBack_21 {x0 x1 : Value} {st : List Value} {h : AH} : Run M_X8_goBack 21 [x0, x1] st h = Run M_X8_goBack 24 [x0, x1] (.int (-1000000003) :: st) h := R_ldc_w d_X8_goBack_21 (by decide)
theorem d_X8_goBack_24 : decode (mB M_X8_goBack) 24 = .ok (.ireturn, 1) := by decide +kernel
theorem r_X8_goBack_24 {x0 x1 : Value} {v : Int32} {h : AH} : Run M_X8_goBack 24 [x0, x1] [.int v] h = some (h, some (.int v)) := R_ireturn d_X8_goBack_24 rfl rfl
theorem d_X8_goBack_25 : decode (mB M_X8_goBack) 25 = .ok (.aload_n 0, 1) := by decide +kernel
theorem r_X8_goBack_25 {x1 : Value} {a : Nat} {st : List Value} {h : AH} : Run M_X8_goBack 25 [.ref a, x1] st h = Run M_X8_goBack 26 [.ref a, x1] (.ref a :: st) h := R_aload_n d_X8_goBack_25 rfl
theorem d_X8_goBack_26 : decode (mB M_X8_goBack) 26 = .ok (.getfield 57, 3) := by decide +kernel
theorem r_X8_goBack_26 {x0 x1 : Value} {a : Nat} {st : List Value} {h : AH} : Run M_X8_goBack 26 [x0, x1] (.ref a :: st) h = if (gF h a 8 7).isSome = true then Run M_X8_goBack 29 [x0, x1] ((gF h a 8 7).getD .null :: st) h else none := R_getfield d_X8_goBack_26 rfl
theorem d_X8_goBack_29 : decode (mB M_X8_goBack) 29 = .ok (.getfield 92, 3) := by decide +kernel
theorem r_X8_goBack_29 {x0 x1 : Value} {a : Nat} {st : List Value} {h : AH} : Run M_X8_goBack 29 [x0, x1] (.ref a :: st) h = if (gF h a 4 6).isSome = true then Run M_X8_goBack 32 [x0, x1] ((gF h a 4 6).getD .null :: st) h else none := R_getfield d_X8_goBack_29 rfl
theorem d_X8_goBack_32 : decode (mB M_X8_goBack) 32 = .ok (.aload_n 0, 1) := by decide +kernel
theorem r_X8_goBack_32 {x1 : Value} {a : Nat} {st : List Value} {h : AH} : Run M_X8_goBack 32 [.ref a, x1] st h = Run M_X8_goBack 33 [.ref a, x1] (.ref a :: st) h := R_aload_n d_X8_goBack_32 rfl
theorem d_X8_goBack_33 : decode (mB M_X8_goBack) 33 = .ok (.getfield 46, 3) := by decide +kernel
theorem r_X8_goBack_33 {x0 x1 : Value} {a : Nat} {st : List Value} {h : AH} : Run M_X8_goBack 33 [x0, x1] (.ref a :: st) h = if (gF h a 8 5).isSome = true then Run M_X8_goBack 36 [x0, x1] ((gF h a 8 5).getD .null :: st) h else none := R_getfield d_X8_goBack_33 rfl
theorem d_X8_goBack_36 : decode (mB M_X8_goBack) 36 = .ok (.iload_n 1, 1) := by decide +kernel
theorem r_X8_goBack_36 {x0 : Value} {a : Int32} {st : List Value} {h : AH} : Run M_X8_goBack 36 [x0, .int a] st h = Run M_X8_goBack 37 [x0, .int a] (.int a :: st) h := R_iload_n d_X8_goBack_36 rfl
theorem d_X8_goBack_37 : decode (mB M_X8_goBack) 37 = .ok (.aaload, 1) := by decide +kernel
theorem r_X8_goBack_37 {x0 x1 : Value} {a : Nat} {i : Int32} {st : List Value} {h : AH} : Run M_X8_goBack 37 [x0, x1] (.int i :: .ref a :: st) h = if (gR h a i).isSome = true then Run M_X8_goBack 38 [x0, x1] (.ref ((gR h a i).getD 0) :: st) h else none := R_aaload d_X8_goBack_37
theorem d_X8_goBack_38 : decode (mB M_X8_goBack) 38 = .ok (.invokevirtual 302, 3) := by decide +kernel
theorem r_X8_goBack_38 {x0 x1 : Value} {p0 : Nat} {a : Nat} {h : AH} : Run M_X8_goBack 38 [x0, x1] (.ref p0 :: .ref a :: []) h = if refO h 0 (some (.ref a)) = true then (if (Call M_X0_copyFrom h [.ref a, .ref p0]).isSome = true then Run M_X8_goBack 41 [x0, x1] (rL (Call M_X0_copyFrom h [.ref a, .ref p0]) ++ []) (cH (Call M_X0_copyFrom h [.ref a, .ref p0])) else none) else none := R_virt d_X8_goBack_38 rfl rfl rfl rfl rfl (Nat.le_of_ble_eq_true rfl)
theorem d_X8_goBack_41 : decode (mB M_X8_goBack) 41 = .ok (.iconst 1, 1) := by decide +kernel
theorem r_X8_goBack_41 {x0 x1 : Value} {st : List Value} {h : AH} : Run M_X8_goBack 41 [x0, x1] st h = Run M_X8_goBack 42 [x0, x1] (.int (nI 1) :: st) h := R_iconst d_X8_goBack_41 (by decide)
theorem d_X8_goBack_42 : decode (mB M_X8_goBack) 42 = .ok (.ireturn, 1) := by decide +kernel
theorem r_X8_goBack_42 {x0 x1 : Value} {v : Int32} {h : AH} : Run M_X8_goBack 42 [x0, x1] [.int v] h = some (h, some (.int v)) := R_ireturn d_X8_goBack_42 rfl rfl
theorem d_X8_within_0 : decode (mB M_X8_within) 0 = .ok (.iload_n 0, 1) := by decide +kernel
theorem r_X8_within_0 {x1 x2 : Value} {a : Int32} {st : List Value} {h : AH} : Run M_X8_within 0 [.int a, x1, x2] st h = Run M_X8_within 1 [.int a, x1, x2] (.int a :: st) h := R_iload_n d_X8_within_0 rfl
theorem d_X8_within_1 : decode (mB M_X8_within) 1 = .ok (.iload_n 1, 1) := by decide +kernel
theorem r_X8_within_1 {x0 x2 : Value} {a : Int32} {st : List Value} {h : AH} : Run M_X8_within 1 [x0, .int a, x2] st h = Run M_X8_within 2 [x0, .int a, x2] (.int a :: st) h := R_iload_n d_X8_within_1 rfl
theorem d_X8_within_2 : decode (mB M_X8_within) 2 = .ok (.if_icmp .lt 12, 3) := by decide +kernel
theorem r_X8_within_2 {x0 x1 x2 : Value} {x y : Int32} {st : List Value} {h : AH} : Run M_X8_within 2 [x0, x1, x2] (.int y :: .int x :: st) h = if x < y then Run M_X8_within 14 [x0, x1, x2] st h else Run M_X8_within 5 [x0, x1, x2] st h := R_icmp_lt d_X8_within_2 (by decide)
theorem d_X8_within_5 : decode (mB M_X8_within) 5 = .ok (.iload_n 0, 1) := by decide +kernel
theorem r_X8_within_5 {x1 x2 : Value} {a : Int32} {st : List Value} {h : AH} : Run M_X8_within 5 [.int a, x1, x2] st h = Run M_X8_within 6 [.int a, x1, x2] (.int a :: st) h := R_iload_n d_X8_within_5 rfl
theorem d_X8_within_6 : decode (mB M_X8_within) 6 = .ok (.iload_n 2, 1) := by decide +kernel
theorem r_X8_within_6 {x0 x1 : Value} {a : Int32} {st : List Value} {h : AH} : Run M_X8_within 6 [x0, x1, .int a] st h = Run M_X8_within 7 [x0, x1, .int a] (.int a :: st) h := R_iload_n d_X8_within_6 rfl
theorem d_X8_within_7 : decode (mB M_X8_within) 7 = .ok (.if_icmp .gt 7, 3) := by decide +kernel
theorem r_X8_within_7 {x0 x1 x2 : Value} {x y : Int32} {st : List Value} {h : AH} : Run M_X8_within 7 [x0, x1, x2] (.int y :: .int x :: st) h = if y < x then Run M_X8_within 14 [x0, x1, x2] st h else Run M_X8_within 10 [x0, x1, x2] st h := R_icmp_gt d_X8_within_7 (by decide)
theorem d_X8_within_10 : decode (mB M_X8_within) 10 = .ok (.iconst 1, 1) := by decide +kernel
theorem r_X8_within_10 {x0 x1 x2 : Value} {st : List Value} {h : AH} : Run M_X8_within 10 [x0, x1, x2] st h = Run M_X8_within 11 [x0, x1, x2] (.int (nI 1) :: st) h := R_iconst d_X8_within_10 (by decide)
theorem d_X8_within_11 : decode (mB M_X8_within) 11 = .ok (.goto 4, 3) := by decide +kernel
theorem r_X8_within_11 {x0 x1 x2 : Value} {st : List Value} {h : AH} : Run M_X8_within 11 [x0, x1, x2] st h = Run M_X8_within 15 [x0, x1, x2] st h := R_goto d_X8_within_11 (by decide)
theorem d_X8_within_14 : decode (mB M_X8_within) 14 = .ok (.iconst 0, 1) := by decide +kernel
theorem r_X8_within_14 {x0 x1 x2 : Value} {st : List Value} {h : AH} : Run M_X8_within 14 [x0, x1, x2] st h = Run M_X8_within 15 [x0, x1, x2] (.int (nI 0) :: st) h := R_iconst d_X8_within_14 (by decide)
theorem d_X8_within_15 : decode (mB M_X8_within) 15 = .ok (.ireturn, 1) := by decide +kernel
theorem r_X8_within_15_0 {x0 x1 x2 : Value} {h : AH} : Run M_X8_within 15 [x0, x1, x2] [.int (nI 0)] h = some (h, some (.int (nI 0))) := R_ireturn d_X8_within_15 rfl (by decide)
theorem r_X8_within_15_1 {x0 x1 x2 : Value} {h : AH} : Run M_X8_within 15 [x0, x1, x2] [.int (nI 1)] h = some (h, some (.int (nI 1))) := R_ireturn d_X8_within_15 rfl (by decide)
theorem r_X8_within_15_c {x0 x1 x2 : Value} {c : Prop} [Decidable c] {h : AH} : Run M_X8_within 15 [x0, x1, x2] [.int (bI c)] h = some (h, some (.int (bI c))) := R_ireturn d_X8_within_15 rfl narrow_bI
theorem d_X8_isTenth_0 : decode (mB M_X8_isTenth) 0 = .ok (.iload_n 0, 1) := by decide +kernel
theorem r_X8_isTenth_0 {a : Int32} {st : List Value} {h : AH} : Run M_X8_isTenth 0 [.int a] st h = Run M_X8_isTenth 1 [.int a] (.int a :: st) h := R_iload_n d_X8_isTenth_0 rfl
theorem d_X8_isTenth_1 : decode (mB M_X8_isTenth) 1 = .ok (.iconst 0, 1) := by decide +kernel
theorem r_X8_isTenth_1 {x0 : Value} {st : List Value} {h : AH} : Run M_X8_isTenth 1 [x0] st h = Run M_X8_isTenth 2 [x0] (.int (nI 0) :: st) h := R_iconst d_X8_isTenth_1 (by decide)
theorem d_X8_isTenth_2 : decode (mB M_X8_isTenth) 2 = .ok (.sipush 420, 3) := by decide +kernel
theorem r_X8_isTenth_2 {x0 : Value} {st : List Value} {h : AH} : Run M_X8_isTenth 2 [x0] st h = Run M_X8_isTenth 5 [x0] (.int (nI 420) :: st) h := R_sipush d_X8_isTenth_2 (by decide)
theorem d_X8_isTenth_5 : decode (mB M_X8_isTenth) 5 = .ok (.invokestatic 65, 3) := by decide +kernel
theorem r_X8_isTenth_5 {x0 : Value} {p0 : Int32} {p1 : Int32} {p2 : Int32} {h : AH} : Run M_X8_isTenth 5 [x0] (.int p2 :: .int p1 :: .int p0 :: []) h = if (Call M_X8_within h [.int p0, .int p1, .int p2]).isSome = true then Run M_X8_isTenth 8 [x0] (rL (Call M_X8_within h [.int p0, .int p1, .int p2]) ++ []) (cH (Call M_X8_within h [.int p0, .int p1, .int p2])) else none := R_stat d_X8_isTenth_5 rfl rfl rfl rfl (Nat.le_of_ble_eq_true rfl)
theorem d_X8_isTenth_8 : decode (mB M_X8_isTenth) 8 = .ok (.ireturn, 1) := by decide +kernel
theorem r_X8_isTenth_8_0 {x0 : Value} {h : AH} : Run M_X8_isTenth 8 [x0] [.int (nI 0)] h = some (h, some (.int (nI 0))) := R_ireturn d_X8_isTenth_8 rfl (by decide)
theorem r_X8_isTenth_8_1 {x0 : Value} {h : AH} : Run M_X8_isTenth 8 [x0] [.int (nI 1)] h = some (h, some (.int (nI 1))) := R_ireturn d_X8_isTenth_8 rfl (by decide)
theorem r_X8_isTenth_8_c {x0 : Value} {c : Prop} [Decidable c] {h : AH} : Run M_X8_isTenth 8 [x0] [.int (bI c)] h = some (h, some (.int (bI c))) := R_ireturn d_X8_isTenth_8 rfl narrow_bI
theorem d_X8_isSide_0 : decode (mB M_X8_isSide) 0 = .ok (.iload_n 0, 1) := by decide +kernel
theorem r_X8_isSide_0 {a : Int32} {st : List Value} {h : AH} : Run M_X8_isSide 0 [.int a] st h = Run M_X8_isSide 1 [.int a] (.int a :: st) h := R_iload_n d_X8_isSide_0 rfl
theorem d_X8_isSide_1 : decode (mB M_X8_isSide) 1 = .ok (.ifCond .eq 8, 3) := by decide +kernel
theorem r_X8_isSide_1 {x0 : Value} {x : Int32} {st : List Value} {h : AH} : Run M_X8_isSide 1 [x0] (.int x :: st) h = if x = nI 0 then Run M_X8_isSide 9 [x0] st h else Run M_X8_isSide 4 [x0] st h := R_if_eq d_X8_isSide_1 (by decide)
theorem d_X8_isSide_4 : decode (mB M_X8_isSide) 4 = .ok (.iload_n 0, 1) := by decide +kernel
theorem r_X8_isSide_4 {a : Int32} {st : List Value} {h : AH} : Run M_X8_isSide 4 [.int a] st h = Run M_X8_isSide 5 [.int a] (.int a :: st) h := R_iload_n d_X8_isSide_4 rfl
theorem d_X8_isSide_5 : decode (mB M_X8_isSide) 5 = .ok (.iconst 1, 1) := by decide +kernel
theorem r_X8_isSide_5 {x0 : Value} {st : List Value} {h : AH} : Run M_X8_isSide 5 [x0] st h = Run M_X8_isSide 6 [x0] (.int (nI 1) :: st) h := R_iconst d_X8_isSide_5 (by decide)
theorem d_X8_isSide_6 : decode (mB M_X8_isSide) 6 = .ok (.if_icmp .ne 7, 3) := by decide +kernel
theorem r_X8_isSide_6 {x0 : Value} {x y : Int32} {st : List Value} {h : AH} : Run M_X8_isSide 6 [x0] (.int y :: .int x :: st) h = if x = y then Run M_X8_isSide 9 [x0] st h else Run M_X8_isSide 13 [x0] st h := R_icmp_ne d_X8_isSide_6 (by decide)
theorem d_X8_isSide_9 : decode (mB M_X8_isSide) 9 = .ok (.iconst 1, 1) := by decide +kernel
theorem r_X8_isSide_9 {x0 : Value} {st : List Value} {h : AH} : Run M_X8_isSide 9 [x0] st h = Run M_X8_isSide 10 [x0] (.int (nI 1) :: st) h := R_iconst d_X8_isSide_9 (by decide)
theorem d_X8_isSide_10 : decode (mB M_X8_isSide) 10 = .ok (.goto 4, 3) := by decide +kernel
theorem r_X8_isSide_10 {x0 : Value} {st : List Value} {h : AH} : Run M_X8_isSide 10 [x0] st h = Run M_X8_isSide 14 [x0] st h := R_goto d_X8_isSide_10 (by decide)
theorem d_X8_isSide_13 : decode (mB M_X8_isSide) 13 = .ok (.iconst 0, 1) := by decide +kernel
theorem r_X8_isSide_13 {x0 : Value} {st : List Value} {h : AH} : Run M_X8_isSide 13 [x0] st h = Run M_X8_isSide 14 [x0] (.int (nI 0) :: st) h := R_iconst d_X8_isSide_13 (by decide)
theorem d_X8_isSide_14 : decode (mB M_X8_isSide) 14 = .ok (.ireturn, 1) := by decide +kernel
theorem r_X8_isSide_14_0 {x0 : Value} {h : AH} : Run M_X8_isSide 14 [x0] [.int (nI 0)] h = some (h, some (.int (nI 0))) := R_ireturn d_X8_isSide_14 rfl (by decide)
theorem r_X8_isSide_14_1 {x0 : Value} {h : AH} : Run M_X8_isSide 14 [x0] [.int (nI 1)] h = some (h, some (.int (nI 1))) := R_ireturn d_X8_isSide_14 rfl (by decide)
theorem r_X8_isSide_14_c {x0 : Value} {c : Prop} [Decidable c] {h : AH} : Run M_X8_isSide 14 [x0] [.int (bI c)] h = some (h, some (.int (bI c))) := R_ireturn d_X8_isSide_14 rfl narrow_bI
theorem d_X8_inLowest_0 : decode (mB M_X8_inLowest) 0 = .ok (.lload_n 0, 1) := by decide +kernel
theorem r_X8_inLowest_0 {x1 x2 x3 x4 x5 x6 : Value} {a : Int64} {st : List Value} {h : AH} : Run M_X8_inLowest 0 [.long a, x1, x2, x3, x4, x5, x6] st h = Run M_X8_inLowest 1 [.long a, x1, x2, x3, x4, x5, x6] (.long a :: st) h := R_lload_n d_X8_inLowest_0 rfl
theorem d_X8_inLowest_1 : decode (mB M_X8_inLowest) 1 = .ok (.lload_n 2, 1) := by decide +kernel
theorem r_X8_inLowest_1 {x0 x1 x3 x4 x5 x6 : Value} {a : Int64} {st : List Value} {h : AH} : Run M_X8_inLowest 1 [x0, x1, .long a, x3, x4, x5, x6] st h = Run M_X8_inLowest 2 [x0, x1, .long a, x3, x4, x5, x6] (.long a :: st) h := R_lload_n d_X8_inLowest_1 rfl
theorem d_X8_inLowest_2 : decode (mB M_X8_inLowest) 2 = .ok (.invokestatic 307, 3) := by decide +kernel
theorem r_X8_inLowest_2 {x0 x1 x2 x3 x4 x5 x6 : Value} {p0 : Int64} {p1 : Int64} {h : AH} : Run M_X8_inLowest 2 [x0, x1, x2, x3, x4, x5, x6] (.long p1 :: .long p0 :: []) h = if (Call M_X8_commonDivisor h [.long p0, .long p1]).isSome = true then Run M_X8_inLowest 5 [x0, x1, x2, x3, x4, x5, x6] (rL (Call M_X8_commonDivisor h [.long p0, .long p1]) ++ []) (cH (Call M_X8_commonDivisor h [.long p0, .long p1])) else none := R_stat d_X8_inLowest_2 rfl rfl rfl rfl (Nat.le_of_ble_eq_true rfl)
theorem d_X8_inLowest_5 : decode (mB M_X8_inLowest) 5 = .ok (.lstore 5, 2) := by decide +kernel
theorem r_X8_inLowest_5 {x0 x1 x2 x3 x4 x5 x6 : Value} {a : Int64} {st : List Value} {h : AH} (hc : x4.category = 1) : Run M_X8_inLowest 5 [x0, x1, x2, x3, x4, x5, x6] (.long a :: st) h = Run M_X8_inLowest 7 [x0, x1, x2, x3, x4, .long a, .null] st h := R_lstore d_X8_inLowest_5 (Nat.lt_of_lt_of_le (by decide : 6 < 7) (Nat.le_refl 7)) (catP_of rfl hc)
theorem d_X8_inLowest_7 : decode (mB M_X8_inLowest) 7 = .ok (.lload 5, 2) := by decide +kernel
theorem r_X8_inLowest_7 {x0 x1 x2 x3 x4 x6 : Value} {a : Int64} {st : List Value} {h : AH} : Run M_X8_inLowest 7 [x0, x1, x2, x3, x4, .long a, x6] st h = Run M_X8_inLowest 9 [x0, x1, x2, x3, x4, .long a, x6] (.long a :: st) h := R_lload d_X8_inLowest_7 rfl
theorem d_X8_inLowest_9 : decode (mB M_X8_inLowest) 9 = .ok (.lconst 0, 1) := by decide +kernel
theorem r_X8_inLowest_9 {x0 x1 x2 x3 x4 x5 x6 : Value} {st : List Value} {h : AH} : Run M_X8_inLowest 9 [x0, x1, x2, x3, x4, x5, x6] st h = Run M_X8_inLowest 10 [x0, x1, x2, x3, x4, x5, x6] (.long (lN 0) :: st) h := R_lconst d_X8_inLowest_9 (by decide)
theorem d_X8_inLowest_10 : decode (mB M_X8_inLowest) 10 = .ok (.lcmp, 1) := by decide +kernel
theorem r_X8_inLowest_10 {x0 x1 x2 x3 x4 x5 x6 : Value} {x y : Int64} {st : List Value} {h : AH} : Run M_X8_inLowest 10 [x0, x1, x2, x3, x4, x5, x6] (.long y :: .long x :: st) h = Run M_X8_inLowest 11 [x0, x1, x2, x3, x4, x5, x6] (.int (lg_cmp x y) :: st) h := R_lcmp d_X8_inLowest_10
theorem d_X8_inLowest_11 : decode (mB M_X8_inLowest) 11 = .ok (.ifCond .ne 7, 3) := by decide +kernel
theorem r_X8_inLowest_11 {x0 x1 x2 x3 x4 x5 x6 : Value} {x : Int32} {st : List Value} {h : AH} : Run M_X8_inLowest 11 [x0, x1, x2, x3, x4, x5, x6] (.int x :: st) h = if x = nI 0 then Run M_X8_inLowest 14 [x0, x1, x2, x3, x4, x5, x6] st h else Run M_X8_inLowest 18 [x0, x1, x2, x3, x4, x5, x6] st h := R_if_ne d_X8_inLowest_11 (by decide)
theorem d_X8_inLowest_14 : decode (mB M_X8_inLowest) 14 = .ok (.iload 4, 2) := by decide +kernel
theorem r_X8_inLowest_14 {x0 x1 x2 x3 x5 x6 : Value} {a : Int32} {st : List Value} {h : AH} : Run M_X8_inLowest 14 [x0, x1, x2, x3, .int a, x5, x6] st h = Run M_X8_inLowest 16 [x0, x1, x2, x3, .int a, x5, x6] (.int a :: st) h := R_iload d_X8_inLowest_14 rfl
theorem d_X8_inLowest_16 : decode (mB M_X8_inLowest) 16 = .ok (.i2l, 1) := by decide +kernel
theorem r_X8_inLowest_16 {x0 x1 x2 x3 x4 x5 x6 : Value} {x : Int32} {st : List Value} {h : AH} : Run M_X8_inLowest 16 [x0, x1, x2, x3, x4, x5, x6] (.int x :: st) h = Run M_X8_inLowest 17 [x0, x1, x2, x3, x4, x5, x6] (.long x.toInt64 :: st) h := R_i2l d_X8_inLowest_16
theorem d_X8_inLowest_17 : decode (mB M_X8_inLowest) 17 = .ok (.lreturn, 1) := by decide +kernel
theorem r_X8_inLowest_17 {x0 x1 x2 x3 x4 x5 x6 : Value} {v : Int64} {h : AH} : Run M_X8_inLowest 17 [x0, x1, x2, x3, x4, x5, x6] [.long v] h = some (h, some (.long v)) := R_lreturn d_X8_inLowest_17 rfl
theorem d_X8_inLowest_18 : decode (mB M_X8_inLowest) 18 = .ok (.iload 4, 2) := by decide +kernel
theorem r_X8_inLowest_18 {x0 x1 x2 x3 x5 x6 : Value} {a : Int32} {st : List Value} {h : AH} : Run M_X8_inLowest 18 [x0, x1, x2, x3, .int a, x5, x6] st h = Run M_X8_inLowest 20 [x0, x1, x2, x3, .int a, x5, x6] (.int a :: st) h := R_iload d_X8_inLowest_18 rfl
theorem d_X8_inLowest_20 : decode (mB M_X8_inLowest) 20 = .ok (.ifCond .ne 7, 3) := by decide +kernel
theorem r_X8_inLowest_20 {x0 x1 x2 x3 x4 x5 x6 : Value} {x : Int32} {st : List Value} {h : AH} : Run M_X8_inLowest 20 [x0, x1, x2, x3, x4, x5, x6] (.int x :: st) h = if x = nI 0 then Run M_X8_inLowest 23 [x0, x1, x2, x3, x4, x5, x6] st h else Run M_X8_inLowest 27 [x0, x1, x2, x3, x4, x5, x6] st h := R_if_ne d_X8_inLowest_20 (by decide)
theorem d_X8_inLowest_23 : decode (mB M_X8_inLowest) 23 = .ok (.lload_n 0, 1) := by decide +kernel
theorem r_X8_inLowest_23 {x1 x2 x3 x4 x5 x6 : Value} {a : Int64} {st : List Value} {h : AH} : Run M_X8_inLowest 23 [.long a, x1, x2, x3, x4, x5, x6] st h = Run M_X8_inLowest 24 [.long a, x1, x2, x3, x4, x5, x6] (.long a :: st) h := R_lload_n d_X8_inLowest_23 rfl
theorem d_X8_inLowest_24 : decode (mB M_X8_inLowest) 24 = .ok (.goto 4, 3) := by decide +kernel
theorem r_X8_inLowest_24 {x0 x1 x2 x3 x4 x5 x6 : Value} {st : List Value} {h : AH} : Run M_X8_inLowest 24 [x0, x1, x2, x3, x4, x5, x6] st h = Run M_X8_inLowest 28 [x0, x1, x2, x3, x4, x5, x6] st h := R_goto d_X8_inLowest_24 (by decide)
theorem d_X8_inLowest_27 : decode (mB M_X8_inLowest) 27 = .ok (.lload_n 2, 1) := by decide +kernel
theorem r_X8_inLowest_27 {x0 x1 x3 x4 x5 x6 : Value} {a : Int64} {st : List Value} {h : AH} : Run M_X8_inLowest 27 [x0, x1, .long a, x3, x4, x5, x6] st h = Run M_X8_inLowest 28 [x0, x1, .long a, x3, x4, x5, x6] (.long a :: st) h := R_lload_n d_X8_inLowest_27 rfl
theorem d_X8_inLowest_28 : decode (mB M_X8_inLowest) 28 = .ok (.lload 5, 2) := by decide +kernel
theorem r_X8_inLowest_28 {x0 x1 x2 x3 x4 x6 : Value} {a : Int64} {st : List Value} {h : AH} : Run M_X8_inLowest 28 [x0, x1, x2, x3, x4, .long a, x6] st h = Run M_X8_inLowest 30 [x0, x1, x2, x3, x4, .long a, x6] (.long a :: st) h := R_lload d_X8_inLowest_28 rfl
theorem d_X8_inLowest_30 : decode (mB M_X8_inLowest) 30 = .ok (.ldiv, 1) := by decide +kernel
theorem r_X8_inLowest_30 {x0 x1 x2 x3 x4 x5 x6 : Value} {x y : Int64} {st : List Value} {h : AH} (hy : ¬ y = 0) : Run M_X8_inLowest 30 [x0, x1, x2, x3, x4, x5, x6] (.long y :: .long x :: st) h = Run M_X8_inLowest 31 [x0, x1, x2, x3, x4, x5, x6] (.long (x / y) :: st) h := R_ldiv d_X8_inLowest_30 hy
theorem d_X8_inLowest_31 : decode (mB M_X8_inLowest) 31 = .ok (.lreturn, 1) := by decide +kernel
theorem r_X8_inLowest_31 {x0 x1 x2 x3 x4 x5 x6 : Value} {v : Int64} {h : AH} : Run M_X8_inLowest 31 [x0, x1, x2, x3, x4, x5, x6] [.long v] h = some (h, some (.long v)) := R_lreturn d_X8_inLowest_31 rfl
theorem d_X8_commonDivisor_0 : decode (mB M_X8_commonDivisor) 0 = .ok (.lload_n 0, 1) := by decide +kernel
theorem r_X8_commonDivisor_0 {x1 x2 x3 x4 x5 x6 x7 x8 x9 x10 : Value} {a : Int64} {st : List Value} {h : AH} : Run M_X8_commonDivisor 0 [.long a, x1, x2, x3, x4, x5, x6, x7, x8, x9, x10] st h = Run M_X8_commonDivisor 1 [.long a, x1, x2, x3, x4, x5, x6, x7, x8, x9, x10] (.long a :: st) h := R_lload_n d_X8_commonDivisor_0 rfl
theorem d_X8_commonDivisor_1 : decode (mB M_X8_commonDivisor) 1 = .ok (.lstore 4, 2) := by decide +kernel
theorem r_X8_commonDivisor_1 {x0 x1 x2 x3 x4 x5 x6 x7 x8 x9 x10 : Value} {a : Int64} {st : List Value} {h : AH} (hc : x3.category = 1) : Run M_X8_commonDivisor 1 [x0, x1, x2, x3, x4, x5, x6, x7, x8, x9, x10] (.long a :: st) h = Run M_X8_commonDivisor 3 [x0, x1, x2, x3, .long a, .null, x6, x7, x8, x9, x10] st h := R_lstore d_X8_commonDivisor_1 (Nat.lt_of_lt_of_le (by decide : 5 < 11) (Nat.le_refl 11)) (catP_of rfl hc)
theorem d_X8_commonDivisor_3 : decode (mB M_X8_commonDivisor) 3 = .ok (.lload_n 2, 1) := by decide +kernel
theorem r_X8_commonDivisor_3 {x0 x1 x3 x4 x5 x6 x7 x8 x9 x10 : Value} {a : Int64} {st : List Value} {h : AH} : Run M_X8_commonDivisor 3 [x0, x1, .long a, x3, x4, x5, x6, x7, x8, x9, x10] st h = Run M_X8_commonDivisor 4 [x0, x1, .long a, x3, x4, x5, x6, x7, x8, x9, x10] (.long a :: st) h := R_lload_n d_X8_commonDivisor_3 rfl
theorem d_X8_commonDivisor_4 : decode (mB M_X8_commonDivisor) 4 = .ok (.lstore 6, 2) := by decide +kernel
theorem r_X8_commonDivisor_4 {x0 x1 x2 x3 x4 x5 x6 x7 x8 x9 x10 : Value} {a : Int64} {st : List Value} {h : AH} (hc : x5.category = 1) : Run M_X8_commonDivisor 4 [x0, x1, x2, x3, x4, x5, x6, x7, x8, x9, x10] (.long a :: st) h = Run M_X8_commonDivisor 6 [x0, x1, x2, x3, x4, x5, .long a, .null, x8, x9, x10] st h := R_lstore d_X8_commonDivisor_4 (Nat.lt_of_lt_of_le (by decide : 7 < 11) (Nat.le_refl 11)) (catP_of rfl hc)
theorem d_X8_commonDivisor_6 : decode (mB M_X8_commonDivisor) 6 = .ok (.iconst 0, 1) := by decide +kernel
theorem r_X8_commonDivisor_6 {x0 x1 x2 x3 x4 x5 x6 x7 x8 x9 x10 : Value} {st : List Value} {h : AH} : Run M_X8_commonDivisor 6 [x0, x1, x2, x3, x4, x5, x6, x7, x8, x9, x10] st h = Run M_X8_commonDivisor 7 [x0, x1, x2, x3, x4, x5, x6, x7, x8, x9, x10] (.int (nI 0) :: st) h := R_iconst d_X8_commonDivisor_6 (by decide)
theorem d_X8_commonDivisor_7 : decode (mB M_X8_commonDivisor) 7 = .ok (.istore 8, 2) := by decide +kernel
theorem r_X8_commonDivisor_7 {x0 x1 x2 x3 x4 x5 x6 x7 x8 x9 x10 : Value} {a : Int32} {st : List Value} {h : AH} (hc : x7.category = 1) : Run M_X8_commonDivisor 7 [x0, x1, x2, x3, x4, x5, x6, x7, x8, x9, x10] (.int a :: st) h = Run M_X8_commonDivisor 9 [x0, x1, x2, x3, x4, x5, x6, x7, .int a, x9, x10] st h := R_istore d_X8_commonDivisor_7 (Nat.lt_of_lt_of_le (by decide : 8 < 11) (Nat.le_refl 11)) (catP_of rfl hc)
theorem d_X8_commonDivisor_9 : decode (mB M_X8_commonDivisor) 9 = .ok (.iload 8, 2) := by decide +kernel
theorem r_X8_commonDivisor_9 {x0 x1 x2 x3 x4 x5 x6 x7 x9 x10 : Value} {a : Int32} {st : List Value} {h : AH} : Run M_X8_commonDivisor 9 [x0, x1, x2, x3, x4, x5, x6, x7, .int a, x9, x10] st h = Run M_X8_commonDivisor 11 [x0, x1, x2, x3, x4, x5, x6, x7, .int a, x9, x10] (.int a :: st) h := R_iload d_X8_commonDivisor_9 rfl
theorem d_X8_commonDivisor_11 : decode (mB M_X8_commonDivisor) 11 = .ok (.sipush 200, 3) := by decide +kernel
theorem r_X8_commonDivisor_11 {x0 x1 x2 x3 x4 x5 x6 x7 x8 x9 x10 : Value} {st : List Value} {h : AH} : Run M_X8_commonDivisor 11 [x0, x1, x2, x3, x4, x5, x6, x7, x8, x9, x10] st h = Run M_X8_commonDivisor 14 [x0, x1, x2, x3, x4, x5, x6, x7, x8, x9, x10] (.int (nI 200) :: st) h := R_sipush d_X8_commonDivisor_11 (by decide)
theorem d_X8_commonDivisor_14 : decode (mB M_X8_commonDivisor) 14 = .ok (.if_icmp .ge 31, 3) := by decide +kernel
theorem r_X8_commonDivisor_14 {x0 x1 x2 x3 x4 x5 x6 x7 x8 x9 x10 : Value} {x y : Int32} {st : List Value} {h : AH} : Run M_X8_commonDivisor 14 [x0, x1, x2, x3, x4, x5, x6, x7, x8, x9, x10] (.int y :: .int x :: st) h = if y ≤ x then Run M_X8_commonDivisor 45 [x0, x1, x2, x3, x4, x5, x6, x7, x8, x9, x10] st h else Run M_X8_commonDivisor 17 [x0, x1, x2, x3, x4, x5, x6, x7, x8, x9, x10] st h := R_icmp_ge d_X8_commonDivisor_14 (by decide)
theorem d_X8_commonDivisor_17 : decode (mB M_X8_commonDivisor) 17 = .ok (.lload 6, 2) := by decide +kernel
theorem r_X8_commonDivisor_17 {x0 x1 x2 x3 x4 x5 x7 x8 x9 x10 : Value} {a : Int64} {st : List Value} {h : AH} : Run M_X8_commonDivisor 17 [x0, x1, x2, x3, x4, x5, .long a, x7, x8, x9, x10] st h = Run M_X8_commonDivisor 19 [x0, x1, x2, x3, x4, x5, .long a, x7, x8, x9, x10] (.long a :: st) h := R_lload d_X8_commonDivisor_17 rfl
theorem d_X8_commonDivisor_19 : decode (mB M_X8_commonDivisor) 19 = .ok (.lconst 0, 1) := by decide +kernel
theorem r_X8_commonDivisor_19 {x0 x1 x2 x3 x4 x5 x6 x7 x8 x9 x10 : Value} {st : List Value} {h : AH} : Run M_X8_commonDivisor 19 [x0, x1, x2, x3, x4, x5, x6, x7, x8, x9, x10] st h = Run M_X8_commonDivisor 20 [x0, x1, x2, x3, x4, x5, x6, x7, x8, x9, x10] (.long (lN 0) :: st) h := R_lconst d_X8_commonDivisor_19 (by decide)
theorem d_X8_commonDivisor_20 : decode (mB M_X8_commonDivisor) 20 = .ok (.lcmp, 1) := by decide +kernel
theorem r_X8_commonDivisor_20 {x0 x1 x2 x3 x4 x5 x6 x7 x8 x9 x10 : Value} {x y : Int64} {st : List Value} {h : AH} : Run M_X8_commonDivisor 20 [x0, x1, x2, x3, x4, x5, x6, x7, x8, x9, x10] (.long y :: .long x :: st) h = Run M_X8_commonDivisor 21 [x0, x1, x2, x3, x4, x5, x6, x7, x8, x9, x10] (.int (lg_cmp x y) :: st) h := R_lcmp d_X8_commonDivisor_20
theorem d_X8_commonDivisor_21 : decode (mB M_X8_commonDivisor) 21 = .ok (.ifCond .eq 24, 3) := by decide +kernel
theorem r_X8_commonDivisor_21 {x0 x1 x2 x3 x4 x5 x6 x7 x8 x9 x10 : Value} {x : Int32} {st : List Value} {h : AH} : Run M_X8_commonDivisor 21 [x0, x1, x2, x3, x4, x5, x6, x7, x8, x9, x10] (.int x :: st) h = if x = nI 0 then Run M_X8_commonDivisor 45 [x0, x1, x2, x3, x4, x5, x6, x7, x8, x9, x10] st h else Run M_X8_commonDivisor 24 [x0, x1, x2, x3, x4, x5, x6, x7, x8, x9, x10] st h := R_if_eq d_X8_commonDivisor_21 (by decide)
theorem d_X8_commonDivisor_24 : decode (mB M_X8_commonDivisor) 24 = .ok (.lload 4, 2) := by decide +kernel
theorem r_X8_commonDivisor_24 {x0 x1 x2 x3 x5 x6 x7 x8 x9 x10 : Value} {a : Int64} {st : List Value} {h : AH} : Run M_X8_commonDivisor 24 [x0, x1, x2, x3, .long a, x5, x6, x7, x8, x9, x10] st h = Run M_X8_commonDivisor 26 [x0, x1, x2, x3, .long a, x5, x6, x7, x8, x9, x10] (.long a :: st) h := R_lload d_X8_commonDivisor_24 rfl
theorem d_X8_commonDivisor_26 : decode (mB M_X8_commonDivisor) 26 = .ok (.lload 6, 2) := by decide +kernel
theorem r_X8_commonDivisor_26 {x0 x1 x2 x3 x4 x5 x7 x8 x9 x10 : Value} {a : Int64} {st : List Value} {h : AH} : Run M_X8_commonDivisor 26 [x0, x1, x2, x3, x4, x5, .long a, x7, x8, x9, x10] st h = Run M_X8_commonDivisor 28 [x0, x1, x2, x3, x4, x5, .long a, x7, x8, x9, x10] (.long a :: st) h := R_lload d_X8_commonDivisor_26 rfl
theorem d_X8_commonDivisor_28 : decode (mB M_X8_commonDivisor) 28 = .ok (.lrem, 1) := by decide +kernel
theorem r_X8_commonDivisor_28 {x0 x1 x2 x3 x4 x5 x6 x7 x8 x9 x10 : Value} {x y : Int64} {st : List Value} {h : AH} (hy : ¬ y = 0) : Run M_X8_commonDivisor 28 [x0, x1, x2, x3, x4, x5, x6, x7, x8, x9, x10] (.long y :: .long x :: st) h = Run M_X8_commonDivisor 29 [x0, x1, x2, x3, x4, x5, x6, x7, x8, x9, x10] (.long (x - x / y * y) :: st) h := R_lrem d_X8_commonDivisor_28 hy
theorem d_X8_commonDivisor_29 : decode (mB M_X8_commonDivisor) 29 = .ok (.lstore 9, 2) := by decide +kernel
theorem r_X8_commonDivisor_29 {x0 x1 x2 x3 x4 x5 x6 x7 x8 x9 x10 : Value} {a : Int64} {st : List Value} {h : AH} (hc : x8.category = 1) : Run M_X8_commonDivisor 29 [x0, x1, x2, x3, x4, x5, x6, x7, x8, x9, x10] (.long a :: st) h = Run M_X8_commonDivisor 31 [x0, x1, x2, x3, x4, x5, x6, x7, x8, .long a, .null] st h := R_lstore d_X8_commonDivisor_29 (Nat.lt_of_lt_of_le (by decide : 10 < 11) (Nat.le_refl 11)) (catP_of rfl hc)
theorem d_X8_commonDivisor_31 : decode (mB M_X8_commonDivisor) 31 = .ok (.lload 6, 2) := by decide +kernel
theorem r_X8_commonDivisor_31 {x0 x1 x2 x3 x4 x5 x7 x8 x9 x10 : Value} {a : Int64} {st : List Value} {h : AH} : Run M_X8_commonDivisor 31 [x0, x1, x2, x3, x4, x5, .long a, x7, x8, x9, x10] st h = Run M_X8_commonDivisor 33 [x0, x1, x2, x3, x4, x5, .long a, x7, x8, x9, x10] (.long a :: st) h := R_lload d_X8_commonDivisor_31 rfl
theorem d_X8_commonDivisor_33 : decode (mB M_X8_commonDivisor) 33 = .ok (.lstore 4, 2) := by decide +kernel
theorem r_X8_commonDivisor_33 {x0 x1 x2 x3 x4 x5 x6 x7 x8 x9 x10 : Value} {a : Int64} {st : List Value} {h : AH} (hc : x3.category = 1) : Run M_X8_commonDivisor 33 [x0, x1, x2, x3, x4, x5, x6, x7, x8, x9, x10] (.long a :: st) h = Run M_X8_commonDivisor 35 [x0, x1, x2, x3, .long a, .null, x6, x7, x8, x9, x10] st h := R_lstore d_X8_commonDivisor_33 (Nat.lt_of_lt_of_le (by decide : 5 < 11) (Nat.le_refl 11)) (catP_of rfl hc)
theorem d_X8_commonDivisor_35 : decode (mB M_X8_commonDivisor) 35 = .ok (.lload 9, 2) := by decide +kernel
theorem r_X8_commonDivisor_35 {x0 x1 x2 x3 x4 x5 x6 x7 x8 x10 : Value} {a : Int64} {st : List Value} {h : AH} : Run M_X8_commonDivisor 35 [x0, x1, x2, x3, x4, x5, x6, x7, x8, .long a, x10] st h = Run M_X8_commonDivisor 37 [x0, x1, x2, x3, x4, x5, x6, x7, x8, .long a, x10] (.long a :: st) h := R_lload d_X8_commonDivisor_35 rfl
theorem d_X8_commonDivisor_37 : decode (mB M_X8_commonDivisor) 37 = .ok (.lstore 6, 2) := by decide +kernel
theorem r_X8_commonDivisor_37 {x0 x1 x2 x3 x4 x5 x6 x7 x8 x9 x10 : Value} {a : Int64} {st : List Value} {h : AH} (hc : x5.category = 1) : Run M_X8_commonDivisor 37 [x0, x1, x2, x3, x4, x5, x6, x7, x8, x9, x10] (.long a :: st) h = Run M_X8_commonDivisor 39 [x0, x1, x2, x3, x4, x5, .long a, .null, x8, x9, x10] st h := R_lstore d_X8_commonDivisor_37 (Nat.lt_of_lt_of_le (by decide : 7 < 11) (Nat.le_refl 11)) (catP_of rfl hc)
theorem d_X8_commonDivisor_39 : decode (mB M_X8_commonDivisor) 39 = .ok (.iinc 8 1, 3) := by decide +kernel
theorem r_X8_commonDivisor_39 {x0 x1 x2 x3 x4 x5 x6 x7 x9 x10 : Value} {a : Int32} {st : List Value} {h : AH} (hc : x7.category = 1) : Run M_X8_commonDivisor 39 [x0, x1, x2, x3, x4, x5, x6, x7, .int a, x9, x10] st h = Run M_X8_commonDivisor 42 [x0, x1, x2, x3, x4, x5, x6, x7, .int (a + (nI 1)), x9, x10] st h := R_iinc d_X8_commonDivisor_39 (by decide) rfl (catP_of rfl hc)
theorem d_X8_commonDivisor_42 : decode (mB M_X8_commonDivisor) 42 = .ok (.goto (-33), 3) := by decide +kernel
theorem r_X8_commonDivisor_42 {x0 x1 x2 x3 x4 x5 x6 x7 x8 x9 x10 : Value} {st : List Value} {h : AH} : Run M_X8_commonDivisor 42 [x0, x1, x2, x3, x4, x5, x6, x7, x8, x9, x10] st h = Run M_X8_commonDivisor 9 [x0, x1, x2, x3, x4, x5, x6, x7, x8, x9, x10] st h := R_goto d_X8_commonDivisor_42 (by decide)
theorem d_X8_commonDivisor_45 : decode (mB M_X8_commonDivisor) 45 = .ok (.lload 4, 2) := by decide +kernel
theorem r_X8_commonDivisor_45 {x0 x1 x2 x3 x5 x6 x7 x8 x9 x10 : Value} {a : Int64} {st : List Value} {h : AH} : Run M_X8_commonDivisor 45 [x0, x1, x2, x3, .long a, x5, x6, x7, x8, x9, x10] st h = Run M_X8_commonDivisor 47 [x0, x1, x2, x3, .long a, x5, x6, x7, x8, x9, x10] (.long a :: st) h := R_lload d_X8_commonDivisor_45 rfl
theorem d_X8_commonDivisor_47 : decode (mB M_X8_commonDivisor) 47 = .ok (.lreturn, 1) := by decide +kernel
theorem r_X8_commonDivisor_47 {x0 x1 x2 x3 x4 x5 x6 x7 x8 x9 x10 : Value} {v : Int64} {h : AH} : Run M_X8_commonDivisor 47 [x0, x1, x2, x3, x4, x5, x6, x7, x8, x9, x10] [.long v] h = some (h, some (.long v)) := R_lreturn d_X8_commonDivisor_47 rfl
theorem d_X8_steps_0 : decode (mB M_X8_steps) 0 = .ok (.iload_n 1, 1) := by decide +kernel
theorem r_X8_steps_0 {x0 x2 : Value} {a : Int32} {st : List Value} {h : AH} : Run M_X8_steps 0 [x0, .int a, x2] st h = Run M_X8_steps 1 [x0, .int a, x2] (.int a :: st) h := R_iload_n d_X8_steps_0 rfl
theorem d_X8_steps_1 : decode (mB M_X8_steps) 1 = .ok (.iload_n 0, 1) := by decide +kernel
theorem r_X8_steps_1 {x1 x2 : Value} {a : Int32} {st : List Value} {h : AH} : Run M_X8_steps 1 [.int a, x1, x2] st h = Run M_X8_steps 2 [.int a, x1, x2] (.int a :: st) h := R_iload_n d_X8_steps_1 rfl
theorem d_X8_steps_2 : decode (mB M_X8_steps) 2 = .ok (.isub, 1) := by decide +kernel
theorem r_X8_steps_2 {x0 x1 x2 : Value} {x y : Int32} {st : List Value} {h : AH} : Run M_X8_steps 2 [x0, x1, x2] (.int y :: .int x :: st) h = Run M_X8_steps 3 [x0, x1, x2] (.int (x - y) :: st) h := R_isub d_X8_steps_2
theorem d_X8_steps_3 : decode (mB M_X8_steps) 3 = .ok (.bipush 7, 2) := by decide +kernel
theorem r_X8_steps_3 {x0 x1 x2 : Value} {st : List Value} {h : AH} : Run M_X8_steps 3 [x0, x1, x2] st h = Run M_X8_steps 5 [x0, x1, x2] (.int (nI 7) :: st) h := R_bipush d_X8_steps_3 (by decide)
theorem d_X8_steps_5 : decode (mB M_X8_steps) 5 = .ok (.imul, 1) := by decide +kernel
theorem r_X8_steps_5 {x0 x1 x2 : Value} {x y : Int32} {st : List Value} {h : AH} : Run M_X8_steps 5 [x0, x1, x2] (.int y :: .int x :: st) h = Run M_X8_steps 6 [x0, x1, x2] (.int (x * y) :: st) h := R_imul d_X8_steps_5
theorem d_X8_steps_6 : decode (mB M_X8_steps) 6 = .ok (.bipush 12, 2) := by decide +kernel
theorem r_X8_steps_6 {x0 x1 x2 : Value} {st : List Value} {h : AH} : Run M_X8_steps 6 [x0, x1, x2] st h = Run M_X8_steps 8 [x0, x1, x2] (.int (nI 12) :: st) h := R_bipush d_X8_steps_6 (by decide)
theorem d_X8_steps_8 : decode (mB M_X8_steps) 8 = .ok (.invokestatic 311, 3) := by decide +kernel
theorem r_X8_steps_8 {x0 x1 x2 : Value} {p0 : Int32} {p1 : Int32} {h : AH} : Run M_X8_steps 8 [x0, x1, x2] (.int p1 :: .int p0 :: []) h = if (Call M_J9_floorMod_7cf53 h [.int p0, .int p1]).isSome = true then Run M_X8_steps 11 [x0, x1, x2] (rL (Call M_J9_floorMod_7cf53 h [.int p0, .int p1]) ++ []) (cH (Call M_J9_floorMod_7cf53 h [.int p0, .int p1])) else none := R_stat d_X8_steps_8 rfl rfl rfl rfl (Nat.le_of_ble_eq_true rfl)
theorem d_X8_steps_11 : decode (mB M_X8_steps) 11 = .ok (.istore_n 2, 1) := by decide +kernel
theorem r_X8_steps_11 {x0 x1 x2 : Value} {a : Int32} {st : List Value} {h : AH} (hc : x1.category = 1) : Run M_X8_steps 11 [x0, x1, x2] (.int a :: st) h = Run M_X8_steps 12 [x0, x1, .int a] st h := R_istore_n d_X8_steps_11 (Nat.lt_of_lt_of_le (by decide : 2 < 3) (Nat.le_refl 3)) (catP_of rfl hc)
theorem d_X8_steps_12 : decode (mB M_X8_steps) 12 = .ok (.iload_n 2, 1) := by decide +kernel
theorem r_X8_steps_12 {x0 x1 : Value} {a : Int32} {st : List Value} {h : AH} : Run M_X8_steps 12 [x0, x1, .int a] st h = Run M_X8_steps 13 [x0, x1, .int a] (.int a :: st) h := R_iload_n d_X8_steps_12 rfl
theorem d_X8_steps_13 : decode (mB M_X8_steps) 13 = .ok (.bipush 12, 2) := by decide +kernel
theorem r_X8_steps_13 {x0 x1 x2 : Value} {st : List Value} {h : AH} : Run M_X8_steps 13 [x0, x1, x2] st h = Run M_X8_steps 15 [x0, x1, x2] (.int (nI 12) :: st) h := R_bipush d_X8_steps_13 (by decide)
theorem d_X8_steps_15 : decode (mB M_X8_steps) 15 = .ok (.iload_n 2, 1) := by decide +kernel
theorem r_X8_steps_15 {x0 x1 : Value} {a : Int32} {st : List Value} {h : AH} : Run M_X8_steps 15 [x0, x1, .int a] st h = Run M_X8_steps 16 [x0, x1, .int a] (.int a :: st) h := R_iload_n d_X8_steps_15 rfl
theorem d_X8_steps_16 : decode (mB M_X8_steps) 16 = .ok (.isub, 1) := by decide +kernel
theorem r_X8_steps_16 {x0 x1 x2 : Value} {x y : Int32} {st : List Value} {h : AH} : Run M_X8_steps 16 [x0, x1, x2] (.int y :: .int x :: st) h = Run M_X8_steps 17 [x0, x1, x2] (.int (x - y) :: st) h := R_isub d_X8_steps_16
theorem d_X8_steps_17 : decode (mB M_X8_steps) 17 = .ok (.invokestatic 316, 3) := by decide +kernel
theorem r_X8_steps_17 {x0 x1 x2 : Value} {p0 : Int32} {p1 : Int32} {h : AH} : Run M_X8_steps 17 [x0, x1, x2] (.int p1 :: .int p0 :: []) h = if (Call M_J9_min_7cf53 h [.int p0, .int p1]).isSome = true then Run M_X8_steps 20 [x0, x1, x2] (rL (Call M_J9_min_7cf53 h [.int p0, .int p1]) ++ []) (cH (Call M_J9_min_7cf53 h [.int p0, .int p1])) else none := R_stat d_X8_steps_17 rfl rfl rfl rfl (Nat.le_of_ble_eq_true rfl)
theorem d_X8_steps_20 : decode (mB M_X8_steps) 20 = .ok (.ireturn, 1) := by decide +kernel
theorem r_X8_steps_20 {x0 x1 x2 : Value} {v : Int32} {h : AH} : Run M_X8_steps 20 [x0, x1, x2] [.int v] h = some (h, some (.int v)) := R_ireturn d_X8_steps_20 rfl rfl
theorem d_X8_openSpare_0 : decode (mB M_X8_openSpare) 0 = .ok (.aload_n 0, 1) := by decide +kernel
theorem r_X8_openSpare_0 {x1 x2 : Value} {a : Nat} {st : List Value} {h : AH} : Run M_X8_openSpare 0 [.ref a, x1, x2] st h = Run M_X8_openSpare 1 [.ref a, x1, x2] (.ref a :: st) h := R_aload_n d_X8_openSpare_0 rfl
theorem d_X8_openSpare_1 : decode (mB M_X8_openSpare) 1 = .ok (.getfield 57, 3) := by decide +kernel
theorem r_X8_openSpare_1 {x0 x1 x2 : Value} {a : Nat} {st : List Value} {h : AH} : Run M_X8_openSpare 1 [x0, x1, x2] (.ref a :: st) h = if (gF h a 8 7).isSome = true then Run M_X8_openSpare 4 [x0, x1, x2] ((gF h a 8 7).getD .null :: st) h else none := R_getfield d_X8_openSpare_1 rfl
theorem d_X8_openSpare_4 : decode (mB M_X8_openSpare) 4 = .ok (.astore_n 1, 1) := by decide +kernel
theorem r_X8_openSpare_4 {x0 x1 x2 : Value} {a : Nat} {st : List Value} {h : AH} (hc : x0.category = 1) : Run M_X8_openSpare 4 [x0, x1, x2] (.ref a :: st) h = Run M_X8_openSpare 5 [x0, .ref a, x2] st h := R_astore_n d_X8_openSpare_4 (Nat.lt_of_lt_of_le (by decide : 1 < 3) (Nat.le_refl 3)) (catP_of rfl hc)
theorem d_X8_openSpare_5 : decode (mB M_X8_openSpare) 5 = .ok (.aload_n 0, 1) := by decide +kernel
theorem r_X8_openSpare_5 {x1 x2 : Value} {a : Nat} {st : List Value} {h : AH} : Run M_X8_openSpare 5 [.ref a, x1, x2] st h = Run M_X8_openSpare 6 [.ref a, x1, x2] (.ref a :: st) h := R_aload_n d_X8_openSpare_5 rfl
theorem d_X8_openSpare_6 : decode (mB M_X8_openSpare) 6 = .ok (.getfield 61, 3) := by decide +kernel
theorem r_X8_openSpare_6 {x0 x1 x2 : Value} {a : Nat} {st : List Value} {h : AH} : Run M_X8_openSpare 6 [x0, x1, x2] (.ref a :: st) h = if (gF h a 8 8).isSome = true then Run M_X8_openSpare 9 [x0, x1, x2] ((gF h a 8 8).getD .null :: st) h else none := R_getfield d_X8_openSpare_6 rfl
theorem d_X8_openSpare_9 : decode (mB M_X8_openSpare) 9 = .ok (.getfield 92, 3) := by decide +kernel
theorem r_X8_openSpare_9 {x0 x1 x2 : Value} {a : Nat} {st : List Value} {h : AH} : Run M_X8_openSpare 9 [x0, x1, x2] (.ref a :: st) h = if (gF h a 4 6).isSome = true then Run M_X8_openSpare 12 [x0, x1, x2] ((gF h a 4 6).getD .null :: st) h else none := R_getfield d_X8_openSpare_9 rfl
theorem d_X8_openSpare_12 : decode (mB M_X8_openSpare) 12 = .ok (.aload_n 1, 1) := by decide +kernel
theorem r_X8_openSpare_12 {x0 x2 : Value} {a : Nat} {st : List Value} {h : AH} : Run M_X8_openSpare 12 [x0, .ref a, x2] st h = Run M_X8_openSpare 13 [x0, .ref a, x2] (.ref a :: st) h := R_aload_n d_X8_openSpare_12 rfl
theorem d_X8_openSpare_13 : decode (mB M_X8_openSpare) 13 = .ok (.getfield 92, 3) := by decide +kernel
theorem r_X8_openSpare_13 {x0 x1 x2 : Value} {a : Nat} {st : List Value} {h : AH} : Run M_X8_openSpare 13 [x0, x1, x2] (.ref a :: st) h = if (gF h a 4 6).isSome = true then Run M_X8_openSpare 16 [x0, x1, x2] ((gF h a 4 6).getD .null :: st) h else none := R_getfield d_X8_openSpare_13 rfl
theorem d_X8_openSpare_16 : decode (mB M_X8_openSpare) 16 = .ok (.getfield 299, 3) := by decide +kernel
theorem r_X8_openSpare_16 {x0 x1 x2 : Value} {a : Nat} {st : List Value} {h : AH} : Run M_X8_openSpare 16 [x0, x1, x2] (.ref a :: st) h = if (gF h a 0 10).isSome = true then Run M_X8_openSpare 19 [x0, x1, x2] ((gF h a 0 10).getD .null :: st) h else none := R_getfield d_X8_openSpare_16 rfl
theorem d_X8_openSpare_19 : decode (mB M_X8_openSpare) 19 = .ok (.putfield 299, 3) := by decide +kernel
theorem r_X8_openSpare_19 {x0 x1 x2 : Value} {v : Int32} {a : Nat} {st : List Value} {h : AH} : Run M_X8_openSpare 19 [x0, x1, x2] (.int v :: .ref a :: st) h = if (pF h a 0 10 (.int v)).isSome = true then Run M_X8_openSpare 22 [x0, x1, x2] st ((pF h a 0 10 (.int v)).getD h) else none := R_putfield d_X8_openSpare_19 rfl (okP_int rfl rfl)
theorem d_X8_openSpare_22 : decode (mB M_X8_openSpare) 22 = .ok (.aload_n 0, 1) := by decide +kernel
theorem r_X8_openSpare_22 {x1 x2 : Value} {a : Nat} {st : List Value} {h : AH} : Run M_X8_openSpare 22 [.ref a, x1, x2] st h = Run M_X8_openSpare 23 [.ref a, x1, x2] (.ref a :: st) h := R_aload_n d_X8_openSpare_22 rfl
theorem d_X8_openSpare_23 : decode (mB M_X8_openSpare) 23 = .ok (.aload_n 0, 1) := by decide +kernel
theorem r_X8_openSpare_23 {x1 x2 : Value} {a : Nat} {st : List Value} {h : AH} : Run M_X8_openSpare 23 [.ref a, x1, x2] st h = Run M_X8_openSpare 24 [.ref a, x1, x2] (.ref a :: st) h := R_aload_n d_X8_openSpare_23 rfl
theorem d_X8_openSpare_24 : decode (mB M_X8_openSpare) 24 = .ok (.getfield 61, 3) := by decide +kernel
theorem r_X8_openSpare_24 {x0 x1 x2 : Value} {a : Nat} {st : List Value} {h : AH} : Run M_X8_openSpare 24 [x0, x1, x2] (.ref a :: st) h = if (gF h a 8 8).isSome = true then Run M_X8_openSpare 27 [x0, x1, x2] ((gF h a 8 8).getD .null :: st) h else none := R_getfield d_X8_openSpare_24 rfl
theorem d_X8_openSpare_27 : decode (mB M_X8_openSpare) 27 = .ok (.putfield 57, 3) := by decide +kernel
theorem r_X8_openSpare_27 {x0 x1 x2 : Value} {v : Nat} {a : Nat} {st : List Value} {h : AH} : Run M_X8_openSpare 27 [x0, x1, x2] (.ref v :: .ref a :: st) h = if (pF h a 8 7 (.ref v)).isSome = true then Run M_X8_openSpare 30 [x0, x1, x2] st ((pF h a 8 7 (.ref v)).getD h) else none := R_putfield d_X8_openSpare_27 rfl (okP_ref rfl (Or.inl rfl))
theorem d_X8_openSpare_30 : decode (mB M_X8_openSpare) 30 = .ok (.aload_n 0, 1) := by decide +kernel
theorem r_X8_openSpare_30 {x1 x2 : Value} {a : Nat} {st : List Value} {h : AH} : Run M_X8_openSpare 30 [.ref a, x1, x2] st h = Run M_X8_openSpare 31 [.ref a, x1, x2] (.ref a :: st) h := R_aload_n d_X8_openSpare_30 rfl
theorem d_X8_openSpare_31 : decode (mB M_X8_openSpare) 31 = .ok (.aload_n 1, 1) := by decide +kernel
theorem r_X8_openSpare_31 {x0 x2 : Value} {a : Nat} {st : List Value} {h : AH} : Run M_X8_openSpare 31 [x0, .ref a, x2] st h = Run M_X8_openSpare 32 [x0, .ref a, x2] (.ref a :: st) h := R_aload_n d_X8_openSpare_31 rfl
theorem d_X8_openSpare_32 : decode (mB M_X8_openSpare) 32 = .ok (.putfield 61, 3) := by decide +kernel
theorem r_X8_openSpare_32 {x0 x1 x2 : Value} {v : Nat} {a : Nat} {st : List Value} {h : AH} : Run M_X8_openSpare 32 [x0, x1, x2] (.ref v :: .ref a :: st) h = if (pF h a 8 8 (.ref v)).isSome = true then Run M_X8_openSpare 35 [x0, x1, x2] st ((pF h a 8 8 (.ref v)).getD h) else none := R_putfield d_X8_openSpare_32 rfl (okP_ref rfl (Or.inl rfl))
theorem d_X8_openSpare_35 : decode (mB M_X8_openSpare) 35 = .ok (.aload_n 0, 1) := by decide +kernel
theorem r_X8_openSpare_35 {x1 x2 : Value} {a : Nat} {st : List Value} {h : AH} : Run M_X8_openSpare 35 [.ref a, x1, x2] st h = Run M_X8_openSpare 36 [.ref a, x1, x2] (.ref a :: st) h := R_aload_n d_X8_openSpare_35 rfl
theorem d_X8_openSpare_36 : decode (mB M_X8_openSpare) 36 = .ok (.getfield 33, 3) := by decide +kernel
theorem r_X8_openSpare_36 {x0 x1 x2 : Value} {a : Nat} {st : List Value} {h : AH} : Run M_X8_openSpare 36 [x0, x1, x2] (.ref a :: st) h = if (gF h a 8 3).isSome = true then Run M_X8_openSpare 39 [x0, x1, x2] ((gF h a 8 3).getD .null :: st) h else none := R_getfield d_X8_openSpare_36 rfl
theorem d_X8_openSpare_39 : decode (mB M_X8_openSpare) 39 = .ok (.iconst 0, 1) := by decide +kernel
theorem r_X8_openSpare_39 {x0 x1 x2 : Value} {st : List Value} {h : AH} : Run M_X8_openSpare 39 [x0, x1, x2] st h = Run M_X8_openSpare 40 [x0, x1, x2] (.int (nI 0) :: st) h := R_iconst d_X8_openSpare_39 (by decide)
theorem d_X8_openSpare_40 : decode (mB M_X8_openSpare) 40 = .ok (.putfield 126, 3) := by decide +kernel
theorem r_X8_openSpare_40 {x0 x1 x2 : Value} {v : Int32} {a : Nat} {st : List Value} {h : AH} : Run M_X8_openSpare 40 [x0, x1, x2] (.int v :: .ref a :: st) h = if (pF h a 3 2 (.int v)).isSome = true then Run M_X8_openSpare 43 [x0, x1, x2] st ((pF h a 3 2 (.int v)).getD h) else none := R_putfield d_X8_openSpare_40 rfl (okP_int rfl rfl)
theorem d_X8_openSpare_43 : decode (mB M_X8_openSpare) 43 = .ok (.aload_n 0, 1) := by decide +kernel
theorem r_X8_openSpare_43 {x1 x2 : Value} {a : Nat} {st : List Value} {h : AH} : Run M_X8_openSpare 43 [.ref a, x1, x2] st h = Run M_X8_openSpare 44 [.ref a, x1, x2] (.ref a :: st) h := R_aload_n d_X8_openSpare_43 rfl
theorem d_X8_openSpare_44 : decode (mB M_X8_openSpare) 44 = .ok (.getfield 40, 3) := by decide +kernel
theorem r_X8_openSpare_44 {x0 x1 x2 : Value} {a : Nat} {st : List Value} {h : AH} : Run M_X8_openSpare 44 [x0, x1, x2] (.ref a :: st) h = if (gF h a 8 4).isSome = true then Run M_X8_openSpare 47 [x0, x1, x2] ((gF h a 8 4).getD .null :: st) h else none := R_getfield d_X8_openSpare_44 rfl
theorem d_X8_openSpare_47 : decode (mB M_X8_openSpare) 47 = .ok (.iconst 0, 1) := by decide +kernel
theorem r_X8_openSpare_47 {x0 x1 x2 : Value} {st : List Value} {h : AH} : Run M_X8_openSpare 47 [x0, x1, x2] st h = Run M_X8_openSpare 48 [x0, x1, x2] (.int (nI 0) :: st) h := R_iconst d_X8_openSpare_47 (by decide)
theorem d_X8_openSpare_48 : decode (mB M_X8_openSpare) 48 = .ok (.putfield 127, 3) := by decide +kernel
theorem r_X8_openSpare_48 {x0 x1 x2 : Value} {v : Int32} {a : Nat} {st : List Value} {h : AH} : Run M_X8_openSpare 48 [x0, x1, x2] (.int v :: .ref a :: st) h = if (pF h a 1 2 (.int v)).isSome = true then Run M_X8_openSpare 51 [x0, x1, x2] st ((pF h a 1 2 (.int v)).getD h) else none := R_putfield d_X8_openSpare_48 rfl (okP_int rfl rfl)
theorem d_X8_openSpare_51 : decode (mB M_X8_openSpare) 51 = .ok (.iconst 0, 1) := by decide +kernel
theorem r_X8_openSpare_51 {x0 x1 x2 : Value} {st : List Value} {h : AH} : Run M_X8_openSpare 51 [x0, x1, x2] st h = Run M_X8_openSpare 52 [x0, x1, x2] (.int (nI 0) :: st) h := R_iconst d_X8_openSpare_51 (by decide)
theorem d_X8_openSpare_52 : decode (mB M_X8_openSpare) 52 = .ok (.istore_n 2, 1) := by decide +kernel
theorem r_X8_openSpare_52 {x0 x1 x2 : Value} {a : Int32} {st : List Value} {h : AH} (hc : x1.category = 1) : Run M_X8_openSpare 52 [x0, x1, x2] (.int a :: st) h = Run M_X8_openSpare 53 [x0, x1, .int a] st h := R_istore_n d_X8_openSpare_52 (Nat.lt_of_lt_of_le (by decide : 2 < 3) (Nat.le_refl 3)) (catP_of rfl hc)
theorem d_X8_openSpare_53 : decode (mB M_X8_openSpare) 53 = .ok (.iload_n 2, 1) := by decide +kernel
theorem r_X8_openSpare_53 {x0 x1 : Value} {a : Int32} {st : List Value} {h : AH} : Run M_X8_openSpare 53 [x0, x1, .int a] st h = Run M_X8_openSpare 54 [x0, x1, .int a] (.int a :: st) h := R_iload_n d_X8_openSpare_53 rfl
theorem d_X8_openSpare_54 : decode (mB M_X8_openSpare) 54 = .ok (.iconst 2, 1) := by decide +kernel
theorem r_X8_openSpare_54 {x0 x1 x2 : Value} {st : List Value} {h : AH} : Run M_X8_openSpare 54 [x0, x1, x2] st h = Run M_X8_openSpare 55 [x0, x1, x2] (.int (nI 2) :: st) h := R_iconst d_X8_openSpare_54 (by decide)
theorem d_X8_openSpare_55 : decode (mB M_X8_openSpare) 55 = .ok (.if_icmp .ge 16, 3) := by decide +kernel
theorem r_X8_openSpare_55 {x0 x1 x2 : Value} {x y : Int32} {st : List Value} {h : AH} : Run M_X8_openSpare 55 [x0, x1, x2] (.int y :: .int x :: st) h = if y ≤ x then Run M_X8_openSpare 71 [x0, x1, x2] st h else Run M_X8_openSpare 58 [x0, x1, x2] st h := R_icmp_ge d_X8_openSpare_55 (by decide)
theorem d_X8_openSpare_58 : decode (mB M_X8_openSpare) 58 = .ok (.aload_n 0, 1) := by decide +kernel
theorem r_X8_openSpare_58 {x1 x2 : Value} {a : Nat} {st : List Value} {h : AH} : Run M_X8_openSpare 58 [.ref a, x1, x2] st h = Run M_X8_openSpare 59 [.ref a, x1, x2] (.ref a :: st) h := R_aload_n d_X8_openSpare_58 rfl
theorem d_X8_openSpare_59 : decode (mB M_X8_openSpare) 59 = .ok (.getfield 50, 3) := by decide +kernel
theorem r_X8_openSpare_59 {x0 x1 x2 : Value} {a : Nat} {st : List Value} {h : AH} : Run M_X8_openSpare 59 [x0, x1, x2] (.ref a :: st) h = if (gF h a 8 6).isSome = true then Run M_X8_openSpare 62 [x0, x1, x2] ((gF h a 8 6).getD .null :: st) h else none := R_getfield d_X8_openSpare_59 rfl
theorem d_X8_openSpare_62 : decode (mB M_X8_openSpare) 62 = .ok (.iload_n 2, 1) := by decide +kernel
theorem r_X8_openSpare_62 {x0 x1 : Value} {a : Int32} {st : List Value} {h : AH} : Run M_X8_openSpare 62 [x0, x1, .int a] st h = Run M_X8_openSpare 63 [x0, x1, .int a] (.int a :: st) h := R_iload_n d_X8_openSpare_62 rfl
theorem d_X8_openSpare_63 : decode (mB M_X8_openSpare) 63 = .ok (.iconst 0, 1) := by decide +kernel
theorem r_X8_openSpare_63 {x0 x1 x2 : Value} {st : List Value} {h : AH} : Run M_X8_openSpare 63 [x0, x1, x2] st h = Run M_X8_openSpare 64 [x0, x1, x2] (.int (nI 0) :: st) h := R_iconst d_X8_openSpare_63 (by decide)
theorem d_X8_openSpare_64 : decode (mB M_X8_openSpare) 64 = .ok (.bastore, 1) := by decide +kernel
theorem r_X8_openSpare_64 {x0 x1 x2 : Value} {a : Nat} {i x : Int32} {st : List Value} {h : AH} : Run M_X8_openSpare 64 [x0, x1, x2] (.int x :: .int i :: .ref a :: st) h = if (pI 2 h a i (x &&& 1)).isSome = true then Run M_X8_openSpare 65 [x0, x1, x2] st ((pI 2 h a i (x &&& 1)).getD h) else none := R_bastore d_X8_openSpare_64
theorem d_X8_openSpare_65 : decode (mB M_X8_openSpare) 65 = .ok (.iinc 2 1, 3) := by decide +kernel
theorem r_X8_openSpare_65 {x0 x1 : Value} {a : Int32} {st : List Value} {h : AH} (hc : x1.category = 1) : Run M_X8_openSpare 65 [x0, x1, .int a] st h = Run M_X8_openSpare 68 [x0, x1, .int (a + (nI 1))] st h := R_iinc d_X8_openSpare_65 (by decide) rfl (catP_of rfl hc)
theorem d_X8_openSpare_68 : decode (mB M_X8_openSpare) 68 = .ok (.goto (-15), 3) := by decide +kernel
theorem r_X8_openSpare_68 {x0 x1 x2 : Value} {st : List Value} {h : AH} : Run M_X8_openSpare 68 [x0, x1, x2] st h = Run M_X8_openSpare 53 [x0, x1, x2] st h := R_goto d_X8_openSpare_68 (by decide)
theorem d_X8_openSpare_71 : decode (mB M_X8_openSpare) 71 = .ok (.aload_n 0, 1) := by decide +kernel
theorem r_X8_openSpare_71 {x1 x2 : Value} {a : Nat} {st : List Value} {h : AH} : Run M_X8_openSpare 71 [.ref a, x1, x2] st h = Run M_X8_openSpare 72 [.ref a, x1, x2] (.ref a :: st) h := R_aload_n d_X8_openSpare_71 rfl
theorem d_X8_openSpare_72 : decode (mB M_X8_openSpare) 72 = .ok (.getfield 19, 3) := by decide +kernel
theorem r_X8_openSpare_72 {x0 x1 x2 : Value} {a : Nat} {st : List Value} {h : AH} : Run M_X8_openSpare 72 [x0, x1, x2] (.ref a :: st) h = if (gF h a 8 1).isSome = true then Run M_X8_openSpare 75 [x0, x1, x2] ((gF h a 8 1).getD .null :: st) h else none := R_getfield d_X8_openSpare_72 rfl
theorem d_X8_openSpare_75 : decode (mB M_X8_openSpare) 75 = .ok (.aload_n 0, 1) := by decide +kernel
theorem r_X8_openSpare_75 {x1 x2 : Value} {a : Nat} {st : List Value} {h : AH} : Run M_X8_openSpare 75 [.ref a, x1, x2] st h = Run M_X8_openSpare 76 [.ref a, x1, x2] (.ref a :: st) h := R_aload_n d_X8_openSpare_75 rfl
theorem d_X8_openSpare_76 : decode (mB M_X8_openSpare) 76 = .ok (.getfield 57, 3) := by decide +kernel
theorem r_X8_openSpare_76 {x0 x1 x2 : Value} {a : Nat} {st : List Value} {h : AH} : Run M_X8_openSpare 76 [x0, x1, x2] (.ref a :: st) h = if (gF h a 8 7).isSome = true then Run M_X8_openSpare 79 [x0, x1, x2] ((gF h a 8 7).getD .null :: st) h else none := R_getfield d_X8_openSpare_76 rfl
theorem d_X8_openSpare_79 : decode (mB M_X8_openSpare) 79 = .ok (.invokevirtual 319, 3) := by decide +kernel
theorem r_X8_openSpare_79 {x0 x1 x2 : Value} {p0 : Nat} {a : Nat} {h : AH} : Run M_X8_openSpare 79 [x0, x1, x2] (.ref p0 :: .ref a :: []) h = if refO h 2 (some (.ref a)) = true then (if (Call M_X2_weigh h [.ref a, .ref p0]).isSome = true then Run M_X8_openSpare 82 [x0, x1, x2] (rL (Call M_X2_weigh h [.ref a, .ref p0]) ++ []) (cH (Call M_X2_weigh h [.ref a, .ref p0])) else none) else none := R_virt d_X8_openSpare_79 rfl rfl rfl rfl rfl (Nat.le_of_ble_eq_true rfl)
theorem d_X8_openSpare_82 : decode (mB M_X8_openSpare) 82 = .ok (.aload_n 0, 1) := by decide +kernel
theorem r_X8_openSpare_82 {x1 x2 : Value} {a : Nat} {st : List Value} {h : AH} : Run M_X8_openSpare 82 [.ref a, x1, x2] st h = Run M_X8_openSpare 83 [.ref a, x1, x2] (.ref a :: st) h := R_aload_n d_X8_openSpare_82 rfl
theorem d_X8_openSpare_83 : decode (mB M_X8_openSpare) 83 = .ok (.getfield 26, 3) := by decide +kernel
theorem r_X8_openSpare_83 {x0 x1 x2 : Value} {a : Nat} {st : List Value} {h : AH} : Run M_X8_openSpare 83 [x0, x1, x2] (.ref a :: st) h = if (gF h a 8 2).isSome = true then Run M_X8_openSpare 86 [x0, x1, x2] ((gF h a 8 2).getD .null :: st) h else none := R_getfield d_X8_openSpare_83 rfl
theorem d_X8_openSpare_86 : decode (mB M_X8_openSpare) 86 = .ok (.invokevirtual 322, 3) := by decide +kernel
theorem r_X8_openSpare_86 {x0 x1 x2 : Value} {a : Nat} {h : AH} : Run M_X8_openSpare 86 [x0, x1, x2] (.ref a :: []) h = if refO h 5 (some (.ref a)) = true then (if (Call M_X5_forget h [.ref a]).isSome = true then Run M_X8_openSpare 89 [x0, x1, x2] (rL (Call M_X5_forget h [.ref a]) ++ []) (cH (Call M_X5_forget h [.ref a])) else none) else none := R_virt d_X8_openSpare_86 rfl rfl rfl rfl rfl (Nat.le_of_ble_eq_true rfl)
theorem d_X8_openSpare_89 : decode (mB M_X8_openSpare) 89 = .ok (.return_, 1) := by decide +kernel
theorem r_X8_openSpare_89 {x0 x1 x2 : Value} {h : AH} : Run M_X8_openSpare 89 [x0, x1, x2] [] h = some (h, none) := R_return d_X8_openSpare_89 rfl
theorem d_X8_goCost_0 : decode (mB M_X8_goCost) 0 = .ok (.aload_n 0, 1) := by decide +kernel
theorem r_X8_goCost_0 {x1 : Value} {a : Nat} {st : List Value} {h : AH} : Run M_X8_goCost 0 [.ref a, x1] st h = Run M_X8_goCost 1 [.ref a, x1] (.ref a :: st) h := R_aload_n d_X8_goCost_0 rfl
theorem d_X8_goCost_1 : decode (mB M_X8_goCost) 1 = .ok (.getfield 19, 3) := by decide +kernel
theorem r_X8_goCost_1 {x0 x1 : Value} {a : Nat} {st : List Value} {h : AH} : Run M_X8_goCost 1 [x0, x1] (.ref a :: st) h = if (gF h a 8 1).isSome = true then Run M_X8_goCost 4 [x0, x1] ((gF h a 8 1).getD .null :: st) h else none := R_getfield d_X8_goCost_1 rfl
theorem d_X8_goCost_4 : decode (mB M_X8_goCost) 4 = .ok (.aload_n 0, 1) := by decide +kernel
theorem r_X8_goCost_4 {x1 : Value} {a : Nat} {st : List Value} {h : AH} : Run M_X8_goCost 4 [.ref a, x1] st h = Run M_X8_goCost 5 [.ref a, x1] (.ref a :: st) h := R_aload_n d_X8_goCost_4 rfl
theorem d_X8_goCost_5 : decode (mB M_X8_goCost) 5 = .ok (.getfield 57, 3) := by decide +kernel
theorem r_X8_goCost_5 {x0 x1 : Value} {a : Nat} {st : List Value} {h : AH} : Run M_X8_goCost 5 [x0, x1] (.ref a :: st) h = if (gF h a 8 7).isSome = true then Run M_X8_goCost 8 [x0, x1] ((gF h a 8 7).getD .null :: st) h else none := R_getfield d_X8_goCost_5 rfl
theorem d_X8_goCost_8 : decode (mB M_X8_goCost) 8 = .ok (.getfield 92, 3) := by decide +kernel
theorem r_X8_goCost_8 {x0 x1 : Value} {a : Nat} {st : List Value} {h : AH} : Run M_X8_goCost 8 [x0, x1] (.ref a :: st) h = if (gF h a 4 6).isSome = true then Run M_X8_goCost 11 [x0, x1] ((gF h a 4 6).getD .null :: st) h else none := R_getfield d_X8_goCost_8 rfl
theorem d_X8_goCost_11 : decode (mB M_X8_goCost) 11 = .ok (.getfield 108, 3) := by decide +kernel
theorem r_X8_goCost_11 {x0 x1 : Value} {a : Nat} {st : List Value} {h : AH} : Run M_X8_goCost 11 [x0, x1] (.ref a :: st) h = if (gF h a 0 0).isSome = true then Run M_X8_goCost 14 [x0, x1] ((gF h a 0 0).getD .null :: st) h else none := R_getfield d_X8_goCost_11 rfl
theorem d_X8_goCost_14 : decode (mB M_X8_goCost) 14 = .ok (.aload_n 0, 1) := by decide +kernel
theorem r_X8_goCost_14 {x1 : Value} {a : Nat} {st : List Value} {h : AH} : Run M_X8_goCost 14 [.ref a, x1] st h = Run M_X8_goCost 15 [.ref a, x1] (.ref a :: st) h := R_aload_n d_X8_goCost_14 rfl
theorem d_X8_goCost_15 : decode (mB M_X8_goCost) 15 = .ok (.getfield 57, 3) := by decide +kernel
theorem r_X8_goCost_15 {x0 x1 : Value} {a : Nat} {st : List Value} {h : AH} : Run M_X8_goCost 15 [x0, x1] (.ref a :: st) h = if (gF h a 8 7).isSome = true then Run M_X8_goCost 18 [x0, x1] ((gF h a 8 7).getD .null :: st) h else none := R_getfield d_X8_goCost_15 rfl
theorem d_X8_goCost_18 : decode (mB M_X8_goCost) 18 = .ok (.getfield 92, 3) := by decide +kernel
theorem r_X8_goCost_18 {x0 x1 : Value} {a : Nat} {st : List Value} {h : AH} : Run M_X8_goCost 18 [x0, x1] (.ref a :: st) h = if (gF h a 4 6).isSome = true then Run M_X8_goCost 21 [x0, x1] ((gF h a 4 6).getD .null :: st) h else none := R_getfield d_X8_goCost_18 rfl
theorem d_X8_goCost_21 : decode (mB M_X8_goCost) 21 = .ok (.getfield 111, 3) := by decide +kernel
theorem r_X8_goCost_21 {x0 x1 : Value} {a : Nat} {st : List Value} {h : AH} : Run M_X8_goCost 21 [x0, x1] (.ref a :: st) h = if (gF h a 0 1).isSome = true then Run M_X8_goCost 24 [x0, x1] ((gF h a 0 1).getD .null :: st) h else none := R_getfield d_X8_goCost_21 rfl
theorem d_X8_goCost_24 : decode (mB M_X8_goCost) 24 = .ok (.iload_n 1, 1) := by decide +kernel
theorem r_X8_goCost_24 {x0 : Value} {a : Int32} {st : List Value} {h : AH} : Run M_X8_goCost 24 [x0, .int a] st h = Run M_X8_goCost 25 [x0, .int a] (.int a :: st) h := R_iload_n d_X8_goCost_24 rfl
theorem d_X8_goCost_25 : decode (mB M_X8_goCost) 25 = .ok (.iconst 0, 1) := by decide +kernel
theorem r_X8_goCost_25 {x0 x1 : Value} {st : List Value} {h : AH} : Run M_X8_goCost 25 [x0, x1] st h = Run M_X8_goCost 26 [x0, x1] (.int (nI 0) :: st) h := R_iconst d_X8_goCost_25 (by decide)
theorem d_X8_goCost_26 : decode (mB M_X8_goCost) 26 = .ok (.invokevirtual 245, 3) := by decide +kernel
theorem r_X8_goCost_26 {x0 x1 : Value} {p0 : Int32} {p1 : Int32} {p2 : Int32} {p3 : Int32} {a : Nat} {h : AH} : Run M_X8_goCost 26 [x0, x1] (.int p3 :: .int p2 :: .int p1 :: .int p0 :: .ref a :: []) h = if refO h 2 (some (.ref a)) = true then (if (Call M_X2_cost h [.ref a, .int p0, .int p1, .int p2, .int p3]).isSome = true then Run M_X8_goCost 29 [x0, x1] (rL (Call M_X2_cost h [.ref a, .int p0, .int p1, .int p2, .int p3]) ++ []) (cH (Call M_X2_cost h [.ref a, .int p0, .int p1, .int p2, .int p3])) else none) else none := R_virt d_X8_goCost_26 rfl rfl rfl rfl rfl (Nat.le_of_ble_eq_true rfl)
theorem d_X8_goCost_29 : decode (mB M_X8_goCost) 29 = .ok (.lreturn, 1) := by decide +kernel
theorem r_X8_goCost_29 {x0 x1 : Value} {v : Int64} {h : AH} : Run M_X8_goCost 29 [x0, x1] [.long v] h = some (h, some (.long v)) := R_lreturn d_X8_goCost_29 rfl
theorem d_X8_cheapestGo_0 : decode (mB M_X8_cheapestGo) 0 = .ok (.aload_n 0, 1) := by decide +kernel
theorem r_X8_cheapestGo_0 {a : Nat} {st : List Value} {h : AH} : Run M_X8_cheapestGo 0 [.ref a] st h = Run M_X8_cheapestGo 1 [.ref a] (.ref a :: st) h := R_aload_n d_X8_cheapestGo_0 rfl
theorem d_X8_cheapestGo_1 : decode (mB M_X8_cheapestGo) 1 = .ok (.getfield 19, 3) := by decide +kernel
theorem r_X8_cheapestGo_1 {x0 : Value} {a : Nat} {st : List Value} {h : AH} : Run M_X8_cheapestGo 1 [x0] (.ref a :: st) h = if (gF h a 8 1).isSome = true then Run M_X8_cheapestGo 4 [x0] ((gF h a 8 1).getD .null :: st) h else none := R_getfield d_X8_cheapestGo_1 rfl
theorem d_X8_cheapestGo_4 : decode (mB M_X8_cheapestGo) 4 = .ok (.aload_n 0, 1) := by decide +kernel
theorem r_X8_cheapestGo_4 {a : Nat} {st : List Value} {h : AH} : Run M_X8_cheapestGo 4 [.ref a] st h = Run M_X8_cheapestGo 5 [.ref a] (.ref a :: st) h := R_aload_n d_X8_cheapestGo_4 rfl
theorem d_X8_cheapestGo_5 : decode (mB M_X8_cheapestGo) 5 = .ok (.getfield 57, 3) := by decide +kernel
theorem r_X8_cheapestGo_5 {x0 : Value} {a : Nat} {st : List Value} {h : AH} : Run M_X8_cheapestGo 5 [x0] (.ref a :: st) h = if (gF h a 8 7).isSome = true then Run M_X8_cheapestGo 8 [x0] ((gF h a 8 7).getD .null :: st) h else none := R_getfield d_X8_cheapestGo_5 rfl
theorem d_X8_cheapestGo_8 : decode (mB M_X8_cheapestGo) 8 = .ok (.getfield 92, 3) := by decide +kernel
theorem r_X8_cheapestGo_8 {x0 : Value} {a : Nat} {st : List Value} {h : AH} : Run M_X8_cheapestGo 8 [x0] (.ref a :: st) h = if (gF h a 4 6).isSome = true then Run M_X8_cheapestGo 11 [x0] ((gF h a 4 6).getD .null :: st) h else none := R_getfield d_X8_cheapestGo_8 rfl
theorem d_X8_cheapestGo_11 : decode (mB M_X8_cheapestGo) 11 = .ok (.getfield 108, 3) := by decide +kernel
theorem r_X8_cheapestGo_11 {x0 : Value} {a : Nat} {st : List Value} {h : AH} : Run M_X8_cheapestGo 11 [x0] (.ref a :: st) h = if (gF h a 0 0).isSome = true then Run M_X8_cheapestGo 14 [x0] ((gF h a 0 0).getD .null :: st) h else none := R_getfield d_X8_cheapestGo_11 rfl
theorem d_X8_cheapestGo_14 : decode (mB M_X8_cheapestGo) 14 = .ok (.aload_n 0, 1) := by decide +kernel
theorem r_X8_cheapestGo_14 {a : Nat} {st : List Value} {h : AH} : Run M_X8_cheapestGo 14 [.ref a] st h = Run M_X8_cheapestGo 15 [.ref a] (.ref a :: st) h := R_aload_n d_X8_cheapestGo_14 rfl
theorem d_X8_cheapestGo_15 : decode (mB M_X8_cheapestGo) 15 = .ok (.getfield 57, 3) := by decide +kernel
theorem r_X8_cheapestGo_15 {x0 : Value} {a : Nat} {st : List Value} {h : AH} : Run M_X8_cheapestGo 15 [x0] (.ref a :: st) h = if (gF h a 8 7).isSome = true then Run M_X8_cheapestGo 18 [x0] ((gF h a 8 7).getD .null :: st) h else none := R_getfield d_X8_cheapestGo_15 rfl
theorem d_X8_cheapestGo_18 : decode (mB M_X8_cheapestGo) 18 = .ok (.getfield 92, 3) := by decide +kernel
theorem r_X8_cheapestGo_18 {x0 : Value} {a : Nat} {st : List Value} {h : AH} : Run M_X8_cheapestGo 18 [x0] (.ref a :: st) h = if (gF h a 4 6).isSome = true then Run M_X8_cheapestGo 21 [x0] ((gF h a 4 6).getD .null :: st) h else none := R_getfield d_X8_cheapestGo_18 rfl
theorem d_X8_cheapestGo_21 : decode (mB M_X8_cheapestGo) 21 = .ok (.getfield 111, 3) := by decide +kernel
theorem r_X8_cheapestGo_21 {x0 : Value} {a : Nat} {st : List Value} {h : AH} : Run M_X8_cheapestGo 21 [x0] (.ref a :: st) h = if (gF h a 0 1).isSome = true then Run M_X8_cheapestGo 24 [x0] ((gF h a 0 1).getD .null :: st) h else none := R_getfield d_X8_cheapestGo_21 rfl
theorem d_X8_cheapestGo_24 : decode (mB M_X8_cheapestGo) 24 = .ok (.iconst 0, 1) := by decide +kernel
theorem r_X8_cheapestGo_24 {x0 : Value} {st : List Value} {h : AH} : Run M_X8_cheapestGo 24 [x0] st h = Run M_X8_cheapestGo 25 [x0] (.int (nI 0) :: st) h := R_iconst d_X8_cheapestGo_24 (by decide)
theorem d_X8_cheapestGo_25 : decode (mB M_X8_cheapestGo) 25 = .ok (.invokevirtual 249, 3) := by decide +kernel
theorem r_X8_cheapestGo_25 {x0 : Value} {p0 : Int32} {p1 : Int32} {p2 : Int32} {a : Nat} {h : AH} : Run M_X8_cheapestGo 25 [x0] (.int p2 :: .int p1 :: .int p0 :: .ref a :: []) h = if refO h 2 (some (.ref a)) = true then (if (Call M_X2_cheapest h [.ref a, .int p0, .int p1, .int p2]).isSome = true then Run M_X8_cheapestGo 28 [x0] (rL (Call M_X2_cheapest h [.ref a, .int p0, .int p1, .int p2]) ++ []) (cH (Call M_X2_cheapest h [.ref a, .int p0, .int p1, .int p2])) else none) else none := R_virt d_X8_cheapestGo_25 rfl rfl rfl rfl rfl (Nat.le_of_ble_eq_true rfl)
theorem d_X8_cheapestGo_28 : decode (mB M_X8_cheapestGo) 28 = .ok (.ireturn, 1) := by decide +kernel
theorem r_X8_cheapestGo_28 {x0 : Value} {v : Int32} {h : AH} : Run M_X8_cheapestGo 28 [x0] [.int v] h = some (h, some (.int v)) := R_ireturn d_X8_cheapestGo_28 rfl rfl
theorem d_X8_goingOn_0 : decode (mB M_X8_goingOn) 0 = .ok (.lconst 0, 1) := by decide +kernel
theorem r_X8_goingOn_0 {x0 x1 x2 x3 x4 x5 x6 x7 x8 x9 : Value} {st : List Value} {h : AH} : Run M_X8_goingOn 0 [x0, x1, x2, x3, x4, x5, x6, x7, x8, x9] st h = Run M_X8_goingOn 1 [x0, x1, x2, x3, x4, x5, x6, x7, x8, x9] (.long (lN 0) :: st) h := R_lconst d_X8_goingOn_0 (by decide)
theorem d_X8_goingOn_1 : decode (mB M_X8_goingOn) 1 = .ok (.lstore 4, 2) := by decide +kernel
theorem r_X8_goingOn_1 {x0 x1 x2 x3 x4 x5 x6 x7 x8 x9 : Value} {a : Int64} {st : List Value} {h : AH} (hc : x3.category = 1) : Run M_X8_goingOn 1 [x0, x1, x2, x3, x4, x5, x6, x7, x8, x9] (.long a :: st) h = Run M_X8_goingOn 3 [x0, x1, x2, x3, .long a, .null, x6, x7, x8, x9] st h := R_lstore d_X8_goingOn_1 (Nat.lt_of_lt_of_le (by decide : 5 < 10) (Nat.le_refl 10)) (catP_of rfl hc)
theorem d_X8_goingOn_3 : decode (mB M_X8_goingOn) 3 = .ok (.iconst 0, 1) := by decide +kernel
theorem r_X8_goingOn_3 {x0 x1 x2 x3 x4 x5 x6 x7 x8 x9 : Value} {st : List Value} {h : AH} : Run M_X8_goingOn 3 [x0, x1, x2, x3, x4, x5, x6, x7, x8, x9] st h = Run M_X8_goingOn 4 [x0, x1, x2, x3, x4, x5, x6, x7, x8, x9] (.int (nI 0) :: st) h := R_iconst d_X8_goingOn_3 (by decide)
theorem d_X8_goingOn_4 : decode (mB M_X8_goingOn) 4 = .ok (.istore 6, 2) := by decide +kernel
theorem r_X8_goingOn_4 {x0 x1 x2 x3 x4 x5 x6 x7 x8 x9 : Value} {a : Int32} {st : List Value} {h : AH} (hc : x5.category = 1) : Run M_X8_goingOn 4 [x0, x1, x2, x3, x4, x5, x6, x7, x8, x9] (.int a :: st) h = Run M_X8_goingOn 6 [x0, x1, x2, x3, x4, x5, .int a, x7, x8, x9] st h := R_istore d_X8_goingOn_4 (Nat.lt_of_lt_of_le (by decide : 6 < 10) (Nat.le_refl 10)) (catP_of rfl hc)
theorem d_X8_goingOn_6 : decode (mB M_X8_goingOn) 6 = .ok (.iload 6, 2) := by decide +kernel
theorem r_X8_goingOn_6 {x0 x1 x2 x3 x4 x5 x7 x8 x9 : Value} {a : Int32} {st : List Value} {h : AH} : Run M_X8_goingOn 6 [x0, x1, x2, x3, x4, x5, .int a, x7, x8, x9] st h = Run M_X8_goingOn 8 [x0, x1, x2, x3, x4, x5, .int a, x7, x8, x9] (.int a :: st) h := R_iload d_X8_goingOn_6 rfl
theorem d_X8_goingOn_8 : decode (mB M_X8_goingOn) 8 = .ok (.aload_n 0, 1) := by decide +kernel
theorem r_X8_goingOn_8 {x1 x2 x3 x4 x5 x6 x7 x8 x9 : Value} {a : Nat} {st : List Value} {h : AH} : Run M_X8_goingOn 8 [.ref a, x1, x2, x3, x4, x5, x6, x7, x8, x9] st h = Run M_X8_goingOn 9 [.ref a, x1, x2, x3, x4, x5, x6, x7, x8, x9] (.ref a :: st) h := R_aload_n d_X8_goingOn_8 rfl
theorem d_X8_goingOn_9 : decode (mB M_X8_goingOn) 9 = .ok (.getfield 57, 3) := by decide +kernel
theorem r_X8_goingOn_9 {x0 x1 x2 x3 x4 x5 x6 x7 x8 x9 : Value} {a : Nat} {st : List Value} {h : AH} : Run M_X8_goingOn 9 [x0, x1, x2, x3, x4, x5, x6, x7, x8, x9] (.ref a :: st) h = if (gF h a 8 7).isSome = true then Run M_X8_goingOn 12 [x0, x1, x2, x3, x4, x5, x6, x7, x8, x9] ((gF h a 8 7).getD .null :: st) h else none := R_getfield d_X8_goingOn_9 rfl
theorem d_X8_goingOn_12 : decode (mB M_X8_goingOn) 12 = .ok (.getfield 86, 3) := by decide +kernel
theorem r_X8_goingOn_12 {x0 x1 x2 x3 x4 x5 x6 x7 x8 x9 : Value} {a : Nat} {st : List Value} {h : AH} : Run M_X8_goingOn 12 [x0, x1, x2, x3, x4, x5, x6, x7, x8, x9] (.ref a :: st) h = if (gF h a 4 0).isSome = true then Run M_X8_goingOn 15 [x0, x1, x2, x3, x4, x5, x6, x7, x8, x9] ((gF h a 4 0).getD .null :: st) h else none := R_getfield d_X8_goingOn_12 rfl
theorem d_X8_goingOn_15 : decode (mB M_X8_goingOn) 15 = .ok (.if_icmp .ge 74, 3) := by decide +kernel
theorem r_X8_goingOn_15 {x0 x1 x2 x3 x4 x5 x6 x7 x8 x9 : Value} {x y : Int32} {st : List Value} {h : AH} : Run M_X8_goingOn 15 [x0, x1, x2, x3, x4, x5, x6, x7, x8, x9] (.int y :: .int x :: st) h = if y ≤ x then Run M_X8_goingOn 89 [x0, x1, x2, x3, x4, x5, x6, x7, x8, x9] st h else Run M_X8_goingOn 18 [x0, x1, x2, x3, x4, x5, x6, x7, x8, x9] st h := R_icmp_ge d_X8_goingOn_15 (by decide)
theorem d_X8_goingOn_18 : decode (mB M_X8_goingOn) 18 = .ok (.aload_n 0, 1) := by decide +kernel
theorem r_X8_goingOn_18 {x1 x2 x3 x4 x5 x6 x7 x8 x9 : Value} {a : Nat} {st : List Value} {h : AH} : Run M_X8_goingOn 18 [.ref a, x1, x2, x3, x4, x5, x6, x7, x8, x9] st h = Run M_X8_goingOn 19 [.ref a, x1, x2, x3, x4, x5, x6, x7, x8, x9] (.ref a :: st) h := R_aload_n d_X8_goingOn_18 rfl
theorem d_X8_goingOn_19 : decode (mB M_X8_goingOn) 19 = .ok (.getfield 57, 3) := by decide +kernel
theorem r_X8_goingOn_19 {x0 x1 x2 x3 x4 x5 x6 x7 x8 x9 : Value} {a : Nat} {st : List Value} {h : AH} : Run M_X8_goingOn 19 [x0, x1, x2, x3, x4, x5, x6, x7, x8, x9] (.ref a :: st) h = if (gF h a 8 7).isSome = true then Run M_X8_goingOn 22 [x0, x1, x2, x3, x4, x5, x6, x7, x8, x9] ((gF h a 8 7).getD .null :: st) h else none := R_getfield d_X8_goingOn_19 rfl
theorem d_X8_goingOn_22 : decode (mB M_X8_goingOn) 22 = .ok (.getfield 132, 3) := by decide +kernel
theorem r_X8_goingOn_22 {x0 x1 x2 x3 x4 x5 x6 x7 x8 x9 : Value} {a : Nat} {st : List Value} {h : AH} : Run M_X8_goingOn 22 [x0, x1, x2, x3, x4, x5, x6, x7, x8, x9] (.ref a :: st) h = if (gF h a 4 1).isSome = true then Run M_X8_goingOn 25 [x0, x1, x2, x3, x4, x5, x6, x7, x8, x9] ((gF h a 4 1).getD .null :: st) h else none := R_getfield d_X8_goingOn_22 rfl
theorem d_X8_goingOn_25 : decode (mB M_X8_goingOn) 25 = .ok (.iload 6, 2) := by decide +kernel
theorem r_X8_goingOn_25 {x0 x1 x2 x3 x4 x5 x7 x8 x9 : Value} {a : Int32} {st : List Value} {h : AH} : Run M_X8_goingOn 25 [x0, x1, x2, x3, x4, x5, .int a, x7, x8, x9] st h = Run M_X8_goingOn 27 [x0, x1, x2, x3, x4, x5, .int a, x7, x8, x9] (.int a :: st) h := R_iload d_X8_goingOn_25 rfl
theorem d_X8_goingOn_27 : decode (mB M_X8_goingOn) 27 = .ok (.aaload, 1) := by decide +kernel
theorem r_X8_goingOn_27 {x0 x1 x2 x3 x4 x5 x6 x7 x8 x9 : Value} {a : Nat} {i : Int32} {st : List Value} {h : AH} : Run M_X8_goingOn 27 [x0, x1, x2, x3, x4, x5, x6, x7, x8, x9] (.int i :: .ref a :: st) h = if (gR h a i).isSome = true then Run M_X8_goingOn 28 [x0, x1, x2, x3, x4, x5, x6, x7, x8, x9] (.ref ((gR h a i).getD 0) :: st) h else none := R_aaload d_X8_goingOn_27
theorem d_X8_goingOn_28 : decode (mB M_X8_goingOn) 28 = .ok (.astore 7, 2) := by decide +kernel
theorem r_X8_goingOn_28 {x0 x1 x2 x3 x4 x5 x6 x7 x8 x9 : Value} {a : Nat} {st : List Value} {h : AH} (hc : x6.category = 1) : Run M_X8_goingOn 28 [x0, x1, x2, x3, x4, x5, x6, x7, x8, x9] (.ref a :: st) h = Run M_X8_goingOn 30 [x0, x1, x2, x3, x4, x5, x6, .ref a, x8, x9] st h := R_astore d_X8_goingOn_28 (Nat.lt_of_lt_of_le (by decide : 7 < 10) (Nat.le_refl 10)) (catP_of rfl hc)
theorem d_X8_goingOn_30 : decode (mB M_X8_goingOn) 30 = .ok (.aload 7, 2) := by decide +kernel
theorem r_X8_goingOn_30 {x0 x1 x2 x3 x4 x5 x6 x8 x9 : Value} {a : Nat} {st : List Value} {h : AH} : Run M_X8_goingOn 30 [x0, x1, x2, x3, x4, x5, x6, .ref a, x8, x9] st h = Run M_X8_goingOn 32 [x0, x1, x2, x3, x4, x5, x6, .ref a, x8, x9] (.ref a :: st) h := R_aload d_X8_goingOn_30 rfl
theorem d_X8_goingOn_32 : decode (mB M_X8_goingOn) 32 = .ok (.getfield 136, 3) := by decide +kernel
theorem r_X8_goingOn_32 {x0 x1 x2 x3 x4 x5 x6 x7 x8 x9 : Value} {a : Nat} {st : List Value} {h : AH} : Run M_X8_goingOn 32 [x0, x1, x2, x3, x4, x5, x6, x7, x8, x9] (.ref a :: st) h = if (gF h a 6 0).isSome = true then Run M_X8_goingOn 35 [x0, x1, x2, x3, x4, x5, x6, x7, x8, x9] ((gF h a 6 0).getD .null :: st) h else none := R_getfield d_X8_goingOn_32 rfl
theorem d_X8_goingOn_35 : decode (mB M_X8_goingOn) 35 = .ok (.iload_n 1, 1) := by decide +kernel
theorem r_X8_goingOn_35 {x0 x2 x3 x4 x5 x6 x7 x8 x9 : Value} {a : Int32} {st : List Value} {h : AH} : Run M_X8_goingOn 35 [x0, .int a, x2, x3, x4, x5, x6, x7, x8, x9] st h = Run M_X8_goingOn 36 [x0, .int a, x2, x3, x4, x5, x6, x7, x8, x9] (.int a :: st) h := R_iload_n d_X8_goingOn_35 rfl
theorem d_X8_goingOn_36 : decode (mB M_X8_goingOn) 36 = .ok (.if_icmp .ne 47, 3) := by decide +kernel
theorem r_X8_goingOn_36 {x0 x1 x2 x3 x4 x5 x6 x7 x8 x9 : Value} {x y : Int32} {st : List Value} {h : AH} : Run M_X8_goingOn 36 [x0, x1, x2, x3, x4, x5, x6, x7, x8, x9] (.int y :: .int x :: st) h = if x = y then Run M_X8_goingOn 39 [x0, x1, x2, x3, x4, x5, x6, x7, x8, x9] st h else Run M_X8_goingOn 83 [x0, x1, x2, x3, x4, x5, x6, x7, x8, x9] st h := R_icmp_ne d_X8_goingOn_36 (by decide)
theorem d_X8_goingOn_39 : decode (mB M_X8_goingOn) 39 = .ok (.aload_n 0, 1) := by decide +kernel
theorem r_X8_goingOn_39 {x1 x2 x3 x4 x5 x6 x7 x8 x9 : Value} {a : Nat} {st : List Value} {h : AH} : Run M_X8_goingOn 39 [.ref a, x1, x2, x3, x4, x5, x6, x7, x8, x9] st h = Run M_X8_goingOn 40 [.ref a, x1, x2, x3, x4, x5, x6, x7, x8, x9] (.ref a :: st) h := R_aload_n d_X8_goingOn_39 rfl
theorem d_X8_goingOn_40 : decode (mB M_X8_goingOn) 40 = .ok (.getfield 19, 3) := by decide +kernel
theorem r_X8_goingOn_40 {x0 x1 x2 x3 x4 x5 x6 x7 x8 x9 : Value} {a : Nat} {st : List Value} {h : AH} : Run M_X8_goingOn 40 [x0, x1, x2, x3, x4, x5, x6, x7, x8, x9] (.ref a :: st) h = if (gF h a 8 1).isSome = true then Run M_X8_goingOn 43 [x0, x1, x2, x3, x4, x5, x6, x7, x8, x9] ((gF h a 8 1).getD .null :: st) h else none := R_getfield d_X8_goingOn_40 rfl
theorem d_X8_goingOn_43 : decode (mB M_X8_goingOn) 43 = .ok (.iload 6, 2) := by decide +kernel
theorem r_X8_goingOn_43 {x0 x1 x2 x3 x4 x5 x7 x8 x9 : Value} {a : Int32} {st : List Value} {h : AH} : Run M_X8_goingOn 43 [x0, x1, x2, x3, x4, x5, .int a, x7, x8, x9] st h = Run M_X8_goingOn 45 [x0, x1, x2, x3, x4, x5, .int a, x7, x8, x9] (.int a :: st) h := R_iload d_X8_goingOn_43 rfl
theorem d_X8_goingOn_45 : decode (mB M_X8_goingOn) 45 = .ok (.iload_n 2, 1) := by decide +kernel
theorem r_X8_goingOn_45 {x0 x1 x3 x4 x5 x6 x7 x8 x9 : Value} {a : Int32} {st : List Value} {h : AH} : Run M_X8_goingOn 45 [x0, x1, .int a, x3, x4, x5, x6, x7, x8, x9] st h = Run M_X8_goingOn 46 [x0, x1, .int a, x3, x4, x5, x6, x7, x8, x9] (.int a :: st) h := R_iload_n d_X8_goingOn_45 rfl
theorem d_X8_goingOn_46 : decode (mB M_X8_goingOn) 46 = .ok (.invokevirtual 220, 3) := by decide +kernel
theorem r_X8_goingOn_46 {x0 x1 x2 x3 x4 x5 x6 x7 x8 x9 : Value} {p0 : Int32} {p1 : Int32} {a : Nat} {h : AH} : Run M_X8_goingOn 46 [x0, x1, x2, x3, x4, x5, x6, x7, x8, x9] (.int p1 :: .int p0 :: .ref a :: []) h = if refO h 2 (some (.ref a)) = true then (if (Call M_X2_beginning h [.ref a, .int p0, .int p1]).isSome = true then Run M_X8_goingOn 49 [x0, x1, x2, x3, x4, x5, x6, x7, x8, x9] (rL (Call M_X2_beginning h [.ref a, .int p0, .int p1]) ++ []) (cH (Call M_X2_beginning h [.ref a, .int p0, .int p1])) else none) else none := R_virt d_X8_goingOn_46 rfl rfl rfl rfl rfl (Nat.le_of_ble_eq_true rfl)
theorem d_X8_goingOn_49 : decode (mB M_X8_goingOn) 49 = .ok (.aload 7, 2) := by decide +kernel
theorem r_X8_goingOn_49 {x0 x1 x2 x3 x4 x5 x6 x8 x9 : Value} {a : Nat} {st : List Value} {h : AH} : Run M_X8_goingOn 49 [x0, x1, x2, x3, x4, x5, x6, .ref a, x8, x9] st h = Run M_X8_goingOn 51 [x0, x1, x2, x3, x4, x5, x6, .ref a, x8, x9] (.ref a :: st) h := R_aload d_X8_goingOn_49 rfl
theorem d_X8_goingOn_51 : decode (mB M_X8_goingOn) 51 = .ok (.invokevirtual 224, 3) := by decide +kernel
theorem r_X8_goingOn_51 {x0 x1 x2 x3 x4 x5 x6 x7 x8 x9 : Value} {a : Nat} {w0 : Value} {h : AH} : Run M_X8_goingOn 51 [x0, x1, x2, x3, x4, x5, x6, x7, x8, x9] (.ref a :: [w0]) h = if refO h 6 (some (.ref a)) = true then (if (Call M_X6_playedOf8 h [.ref a]).isSome = true then Run M_X8_goingOn 54 [x0, x1, x2, x3, x4, x5, x6, x7, x8, x9] (rL (Call M_X6_playedOf8 h [.ref a]) ++ [w0]) (cH (Call M_X6_playedOf8 h [.ref a])) else none) else none := R_virt d_X8_goingOn_51 rfl rfl rfl rfl rfl (Nat.le_of_ble_eq_true rfl)
theorem d_X8_goingOn_54 : decode (mB M_X8_goingOn) 54 = .ok (.i2l, 1) := by decide +kernel
theorem r_X8_goingOn_54 {x0 x1 x2 x3 x4 x5 x6 x7 x8 x9 : Value} {x : Int32} {st : List Value} {h : AH} : Run M_X8_goingOn 54 [x0, x1, x2, x3, x4, x5, x6, x7, x8, x9] (.int x :: st) h = Run M_X8_goingOn 55 [x0, x1, x2, x3, x4, x5, x6, x7, x8, x9] (.long x.toInt64 :: st) h := R_i2l d_X8_goingOn_54
theorem d_X8_goingOn_55 : decode (mB M_X8_goingOn) 55 = .ok (.lmul, 1) := by decide +kernel
theorem r_X8_goingOn_55 {x0 x1 x2 x3 x4 x5 x6 x7 x8 x9 : Value} {x y : Int64} {st : List Value} {h : AH} : Run M_X8_goingOn 55 [x0, x1, x2, x3, x4, x5, x6, x7, x8, x9] (.long y :: .long x :: st) h = Run M_X8_goingOn 56 [x0, x1, x2, x3, x4, x5, x6, x7, x8, x9] (.long (x * y) :: st) h := R_lmul d_X8_goingOn_55
theorem d_X8_goingOn_56 : decode (mB M_X8_goingOn) 56 = .ok (.lstore 8, 2) := by decide +kernel
theorem r_X8_goingOn_56 {x0 x1 x2 x3 x4 x5 x6 x7 x8 x9 : Value} {a : Int64} {st : List Value} {h : AH} (hc : x7.category = 1) : Run M_X8_goingOn 56 [x0, x1, x2, x3, x4, x5, x6, x7, x8, x9] (.long a :: st) h = Run M_X8_goingOn 58 [x0, x1, x2, x3, x4, x5, x6, x7, .long a, .null] st h := R_lstore d_X8_goingOn_56 (Nat.lt_of_lt_of_le (by decide : 9 < 10) (Nat.le_refl 10)) (catP_of rfl hc)
theorem d_X8_goingOn_58 : decode (mB M_X8_goingOn) 58 = .ok (.lload 4, 2) := by decide +kernel
theorem r_X8_goingOn_58 {x0 x1 x2 x3 x5 x6 x7 x8 x9 : Value} {a : Int64} {st : List Value} {h : AH} : Run M_X8_goingOn 58 [x0, x1, x2, x3, .long a, x5, x6, x7, x8, x9] st h = Run M_X8_goingOn 60 [x0, x1, x2, x3, .long a, x5, x6, x7, x8, x9] (.long a :: st) h := R_lload d_X8_goingOn_58 rfl
theorem d_X8_goingOn_60 : decode (mB M_X8_goingOn) 60 = .ok (.lload 8, 2) := by decide +kernel
theorem r_X8_goingOn_60 {x0 x1 x2 x3 x4 x5 x6 x7 x9 : Value} {a : Int64} {st : List Value} {h : AH} : Run M_X8_goingOn 60 [x0, x1, x2, x3, x4, x5, x6, x7, .long a, x9] st h = Run M_X8_goingOn 62 [x0, x1, x2, x3, x4, x5, x6, x7, .long a, x9] (.long a :: st) h := R_lload d_X8_goingOn_60 rfl
theorem d_X8_goingOn_62 : decode (mB M_X8_goingOn) 62 = .ok (.aload 7, 2) := by decide +kernel
theorem r_X8_goingOn_62 {x0 x1 x2 x3 x4 x5 x6 x8 x9 : Value} {a : Nat} {st : List Value} {h : AH} : Run M_X8_goingOn 62 [x0, x1, x2, x3, x4, x5, x6, .ref a, x8, x9] st h = Run M_X8_goingOn 64 [x0, x1, x2, x3, x4, x5, x6, .ref a, x8, x9] (.ref a :: st) h := R_aload d_X8_goingOn_62 rfl
theorem d_X8_goingOn_64 : decode (mB M_X8_goingOn) 64 = .ok (.iload_n 3, 1) := by decide +kernel
theorem r_X8_goingOn_64 {x0 x1 x2 x4 x5 x6 x7 x8 x9 : Value} {a : Int32} {st : List Value} {h : AH} : Run M_X8_goingOn 64 [x0, x1, x2, .int a, x4, x5, x6, x7, x8, x9] st h = Run M_X8_goingOn 65 [x0, x1, x2, .int a, x4, x5, x6, x7, x8, x9] (.int a :: st) h := R_iload_n d_X8_goingOn_64 rfl
theorem d_X8_goingOn_65 : decode (mB M_X8_goingOn) 65 = .ok (.invokevirtual 325, 3) := by decide +kernel
theorem r_X8_goingOn_65 {x0 x1 x2 x3 x4 x5 x6 x7 x8 x9 : Value} {p0 : Int32} {a : Nat} {w0 w1 : Value} {h : AH} : Run M_X8_goingOn 65 [x0, x1, x2, x3, x4, x5, x6, x7, x8, x9] (.int p0 :: .ref a :: [w0, w1]) h = if refO h 6 (some (.ref a)) = true then (if (Call M_X6_longerThan h [.ref a, .int p0]).isSome = true then Run M_X8_goingOn 68 [x0, x1, x2, x3, x4, x5, x6, x7, x8, x9] (rL (Call M_X6_longerThan h [.ref a, .int p0]) ++ [w0, w1]) (cH (Call M_X6_longerThan h [.ref a, .int p0])) else none) else none := R_virt d_X8_goingOn_65 rfl rfl rfl rfl rfl (Nat.le_of_ble_eq_true rfl)
theorem d_X8_goingOn_68 : decode (mB M_X8_goingOn) 68 = .ok (.i2l, 1) := by decide +kernel
theorem r_X8_goingOn_68 {x0 x1 x2 x3 x4 x5 x6 x7 x8 x9 : Value} {x : Int32} {st : List Value} {h : AH} : Run M_X8_goingOn 68 [x0, x1, x2, x3, x4, x5, x6, x7, x8, x9] (.int x :: st) h = Run M_X8_goingOn 69 [x0, x1, x2, x3, x4, x5, x6, x7, x8, x9] (.long x.toInt64 :: st) h := R_i2l d_X8_goingOn_68
theorem d_X8_goingOn_69 : decode (mB M_X8_goingOn) 69 = .ok (.lmul, 1) := by decide +kernel
theorem r_X8_goingOn_69 {x0 x1 x2 x3 x4 x5 x6 x7 x8 x9 : Value} {x y : Int64} {st : List Value} {h : AH} : Run M_X8_goingOn 69 [x0, x1, x2, x3, x4, x5, x6, x7, x8, x9] (.long y :: .long x :: st) h = Run M_X8_goingOn 70 [x0, x1, x2, x3, x4, x5, x6, x7, x8, x9] (.long (x * y) :: st) h := R_lmul d_X8_goingOn_69
theorem d_X8_goingOn_70 : decode (mB M_X8_goingOn) 70 = .ok (.aload_n 0, 1) := by decide +kernel
theorem r_X8_goingOn_70 {x1 x2 x3 x4 x5 x6 x7 x8 x9 : Value} {a : Nat} {st : List Value} {h : AH} : Run M_X8_goingOn 70 [.ref a, x1, x2, x3, x4, x5, x6, x7, x8, x9] st h = Run M_X8_goingOn 71 [.ref a, x1, x2, x3, x4, x5, x6, x7, x8, x9] (.ref a :: st) h := R_aload_n d_X8_goingOn_70 rfl
theorem d_X8_goingOn_71 : decode (mB M_X8_goingOn) 71 = .ok (.getfield 19, 3) := by decide +kernel
theorem r_X8_goingOn_71 {x0 x1 x2 x3 x4 x5 x6 x7 x8 x9 : Value} {a : Nat} {st : List Value} {h : AH} : Run M_X8_goingOn 71 [x0, x1, x2, x3, x4, x5, x6, x7, x8, x9] (.ref a :: st) h = if (gF h a 8 1).isSome = true then Run M_X8_goingOn 74 [x0, x1, x2, x3, x4, x5, x6, x7, x8, x9] ((gF h a 8 1).getD .null :: st) h else none := R_getfield d_X8_goingOn_71 rfl
theorem d_X8_goingOn_74 : decode (mB M_X8_goingOn) 74 = .ok (.iload 6, 2) := by decide +kernel
theorem r_X8_goingOn_74 {x0 x1 x2 x3 x4 x5 x7 x8 x9 : Value} {a : Int32} {st : List Value} {h : AH} : Run M_X8_goingOn 74 [x0, x1, x2, x3, x4, x5, .int a, x7, x8, x9] st h = Run M_X8_goingOn 76 [x0, x1, x2, x3, x4, x5, .int a, x7, x8, x9] (.int a :: st) h := R_iload d_X8_goingOn_74 rfl
theorem d_X8_goingOn_76 : decode (mB M_X8_goingOn) 76 = .ok (.invokevirtual 328, 3) := by decide +kernel
theorem r_X8_goingOn_76 {x0 x1 x2 x3 x4 x5 x6 x7 x8 x9 : Value} {p0 : Int32} {a : Nat} {w0 w1 : Value} {h : AH} : Run M_X8_goingOn 76 [x0, x1, x2, x3, x4, x5, x6, x7, x8, x9] (.int p0 :: .ref a :: [w0, w1]) h = if refO h 2 (some (.ref a)) = true then (if (Call M_X2_allBehind h [.ref a, .int p0]).isSome = true then Run M_X8_goingOn 79 [x0, x1, x2, x3, x4, x5, x6, x7, x8, x9] (rL (Call M_X2_allBehind h [.ref a, .int p0]) ++ [w0, w1]) (cH (Call M_X2_allBehind h [.ref a, .int p0])) else none) else none := R_virt d_X8_goingOn_76 rfl rfl rfl rfl rfl (Nat.le_of_ble_eq_true rfl)
theorem d_X8_goingOn_79 : decode (mB M_X8_goingOn) 79 = .ok (.lmul, 1) := by decide +kernel
theorem r_X8_goingOn_79 {x0 x1 x2 x3 x4 x5 x6 x7 x8 x9 : Value} {x y : Int64} {st : List Value} {h : AH} : Run M_X8_goingOn 79 [x0, x1, x2, x3, x4, x5, x6, x7, x8, x9] (.long y :: .long x :: st) h = Run M_X8_goingOn 80 [x0, x1, x2, x3, x4, x5, x6, x7, x8, x9] (.long (x * y) :: st) h := R_lmul d_X8_goingOn_79
theorem d_X8_goingOn_80 : decode (mB M_X8_goingOn) 80 = .ok (.ladd, 1) := by decide +kernel
theorem r_X8_goingOn_80 {x0 x1 x2 x3 x4 x5 x6 x7 x8 x9 : Value} {x y : Int64} {st : List Value} {h : AH} : Run M_X8_goingOn 80 [x0, x1, x2, x3, x4, x5, x6, x7, x8, x9] (.long y :: .long x :: st) h = Run M_X8_goingOn 81 [x0, x1, x2, x3, x4, x5, x6, x7, x8, x9] (.long (x + y) :: st) h := R_ladd d_X8_goingOn_80
theorem d_X8_goingOn_81 : decode (mB M_X8_goingOn) 81 = .ok (.lstore 4, 2) := by decide +kernel
theorem r_X8_goingOn_81 {x0 x1 x2 x3 x4 x5 x6 x7 x8 x9 : Value} {a : Int64} {st : List Value} {h : AH} (hc : x3.category = 1) : Run M_X8_goingOn 81 [x0, x1, x2, x3, x4, x5, x6, x7, x8, x9] (.long a :: st) h = Run M_X8_goingOn 83 [x0, x1, x2, x3, .long a, .null, x6, x7, x8, x9] st h := R_lstore d_X8_goingOn_81 (Nat.lt_of_lt_of_le (by decide : 5 < 10) (Nat.le_refl 10)) (catP_of rfl hc)
theorem d_X8_goingOn_83 : decode (mB M_X8_goingOn) 83 = .ok (.iinc 6 1, 3) := by decide +kernel
theorem r_X8_goingOn_83 {x0 x1 x2 x3 x4 x5 x7 x8 x9 : Value} {a : Int32} {st : List Value} {h : AH} (hc : x5.category = 1) : Run M_X8_goingOn 83 [x0, x1, x2, x3, x4, x5, .int a, x7, x8, x9] st h = Run M_X8_goingOn 86 [x0, x1, x2, x3, x4, x5, .int (a + (nI 1)), x7, x8, x9] st h := R_iinc d_X8_goingOn_83 (by decide) rfl (catP_of rfl hc)
theorem d_X8_goingOn_86 : decode (mB M_X8_goingOn) 86 = .ok (.goto (-80), 3) := by decide +kernel
theorem r_X8_goingOn_86 {x0 x1 x2 x3 x4 x5 x6 x7 x8 x9 : Value} {st : List Value} {h : AH} : Run M_X8_goingOn 86 [x0, x1, x2, x3, x4, x5, x6, x7, x8, x9] st h = Run M_X8_goingOn 6 [x0, x1, x2, x3, x4, x5, x6, x7, x8, x9] st h := R_goto d_X8_goingOn_86 (by decide)
theorem d_X8_goingOn_89 : decode (mB M_X8_goingOn) 89 = .ok (.lload 4, 2) := by decide +kernel
theorem r_X8_goingOn_89 {x0 x1 x2 x3 x5 x6 x7 x8 x9 : Value} {a : Int64} {st : List Value} {h : AH} : Run M_X8_goingOn 89 [x0, x1, x2, x3, .long a, x5, x6, x7, x8, x9] st h = Run M_X8_goingOn 91 [x0, x1, x2, x3, .long a, x5, x6, x7, x8, x9] (.long a :: st) h := R_lload d_X8_goingOn_89 rfl
theorem d_X8_goingOn_91 : decode (mB M_X8_goingOn) 91 = .ok (.lreturn, 1) := by decide +kernel
theorem r_X8_goingOn_91 {x0 x1 x2 x3 x4 x5 x6 x7 x8 x9 : Value} {v : Int64} {h : AH} : Run M_X8_goingOn 91 [x0, x1, x2, x3, x4, x5, x6, x7, x8, x9] [.long v] h = some (h, some (.long v)) := R_lreturn d_X8_goingOn_91 rfl
theorem d_X8_playNight_0 : decode (mB M_X8_playNight) 0 = .ok (.aload_n 0, 1) := by decide +kernel
theorem r_X8_playNight_0 {x1 x2 x3 x4 x5 x6 : Value} {a : Nat} {st : List Value} {h : AH} : Run M_X8_playNight 0 [.ref a, x1, x2, x3, x4, x5, x6] st h = Run M_X8_playNight 1 [.ref a, x1, x2, x3, x4, x5, x6] (.ref a :: st) h := R_aload_n d_X8_playNight_0 rfl
theorem d_X8_playNight_1 : decode (mB M_X8_playNight) 1 = .ok (.getfield 57, 3) := by decide +kernel
theorem r_X8_playNight_1 {x0 x1 x2 x3 x4 x5 x6 : Value} {a : Nat} {st : List Value} {h : AH} : Run M_X8_playNight 1 [x0, x1, x2, x3, x4, x5, x6] (.ref a :: st) h = if (gF h a 8 7).isSome = true then Run M_X8_playNight 4 [x0, x1, x2, x3, x4, x5, x6] ((gF h a 8 7).getD .null :: st) h else none := R_getfield d_X8_playNight_1 rfl
theorem d_X8_playNight_4 : decode (mB M_X8_playNight) 4 = .ok (.getfield 92, 3) := by decide +kernel
theorem r_X8_playNight_4 {x0 x1 x2 x3 x4 x5 x6 : Value} {a : Nat} {st : List Value} {h : AH} : Run M_X8_playNight 4 [x0, x1, x2, x3, x4, x5, x6] (.ref a :: st) h = if (gF h a 4 6).isSome = true then Run M_X8_playNight 7 [x0, x1, x2, x3, x4, x5, x6] ((gF h a 4 6).getD .null :: st) h else none := R_getfield d_X8_playNight_4 rfl
theorem d_X8_playNight_7 : decode (mB M_X8_playNight) 7 = .ok (.astore_n 2, 1) := by decide +kernel
theorem r_X8_playNight_7 {x0 x1 x2 x3 x4 x5 x6 : Value} {a : Nat} {st : List Value} {h : AH} (hc : x1.category = 1) : Run M_X8_playNight 7 [x0, x1, x2, x3, x4, x5, x6] (.ref a :: st) h = Run M_X8_playNight 8 [x0, x1, .ref a, x3, x4, x5, x6] st h := R_astore_n d_X8_playNight_7 (Nat.lt_of_lt_of_le (by decide : 2 < 7) (Nat.le_refl 7)) (catP_of rfl hc)
theorem d_X8_playNight_8 : decode (mB M_X8_playNight) 8 = .ok (.iconst 0, 1) := by decide +kernel
theorem r_X8_playNight_8 {x0 x1 x2 x3 x4 x5 x6 : Value} {st : List Value} {h : AH} : Run M_X8_playNight 8 [x0, x1, x2, x3, x4, x5, x6] st h = Run M_X8_playNight 9 [x0, x1, x2, x3, x4, x5, x6] (.int (nI 0) :: st) h := R_iconst d_X8_playNight_8 (by decide)
theorem d_X8_playNight_9 : decode (mB M_X8_playNight) 9 = .ok (.istore_n 3, 1) := by decide +kernel
theorem r_X8_playNight_9 {x0 x1 x2 x3 x4 x5 x6 : Value} {a : Int32} {st : List Value} {h : AH} (hc : x2.category = 1) : Run M_X8_playNight 9 [x0, x1, x2, x3, x4, x5, x6] (.int a :: st) h = Run M_X8_playNight 10 [x0, x1, x2, .int a, x4, x5, x6] st h := R_istore_n d_X8_playNight_9 (Nat.lt_of_lt_of_le (by decide : 3 < 7) (Nat.le_refl 7)) (catP_of rfl hc)
theorem d_X8_playNight_10 : decode (mB M_X8_playNight) 10 = .ok (.iconst 0, 1) := by decide +kernel
theorem r_X8_playNight_10 {x0 x1 x2 x3 x4 x5 x6 : Value} {st : List Value} {h : AH} : Run M_X8_playNight 10 [x0, x1, x2, x3, x4, x5, x6] st h = Run M_X8_playNight 11 [x0, x1, x2, x3, x4, x5, x6] (.int (nI 0) :: st) h := R_iconst d_X8_playNight_10 (by decide)
theorem d_X8_playNight_11 : decode (mB M_X8_playNight) 11 = .ok (.istore 4, 2) := by decide +kernel
theorem r_X8_playNight_11 {x0 x1 x2 x3 x4 x5 x6 : Value} {a : Int32} {st : List Value} {h : AH} (hc : x3.category = 1) : Run M_X8_playNight 11 [x0, x1, x2, x3, x4, x5, x6] (.int a :: st) h = Run M_X8_playNight 13 [x0, x1, x2, x3, .int a, x5, x6] st h := R_istore d_X8_playNight_11 (Nat.lt_of_lt_of_le (by decide : 4 < 7) (Nat.le_refl 7)) (catP_of rfl hc)
theorem d_X8_playNight_13 : decode (mB M_X8_playNight) 13 = .ok (.iload 4, 2) := by decide +kernel
theorem r_X8_playNight_13 {x0 x1 x2 x3 x5 x6 : Value} {a : Int32} {st : List Value} {h : AH} : Run M_X8_playNight 13 [x0, x1, x2, x3, .int a, x5, x6] st h = Run M_X8_playNight 15 [x0, x1, x2, x3, .int a, x5, x6] (.int a :: st) h := R_iload d_X8_playNight_13 rfl
theorem d_X8_playNight_15 : decode (mB M_X8_playNight) 15 = .ok (.aload_n 0, 1) := by decide +kernel
theorem r_X8_playNight_15 {x1 x2 x3 x4 x5 x6 : Value} {a : Nat} {st : List Value} {h : AH} : Run M_X8_playNight 15 [.ref a, x1, x2, x3, x4, x5, x6] st h = Run M_X8_playNight 16 [.ref a, x1, x2, x3, x4, x5, x6] (.ref a :: st) h := R_aload_n d_X8_playNight_15 rfl
theorem d_X8_playNight_16 : decode (mB M_X8_playNight) 16 = .ok (.getfield 57, 3) := by decide +kernel
theorem r_X8_playNight_16 {x0 x1 x2 x3 x4 x5 x6 : Value} {a : Nat} {st : List Value} {h : AH} : Run M_X8_playNight 16 [x0, x1, x2, x3, x4, x5, x6] (.ref a :: st) h = if (gF h a 8 7).isSome = true then Run M_X8_playNight 19 [x0, x1, x2, x3, x4, x5, x6] ((gF h a 8 7).getD .null :: st) h else none := R_getfield d_X8_playNight_16 rfl
theorem d_X8_playNight_19 : decode (mB M_X8_playNight) 19 = .ok (.getfield 86, 3) := by decide +kernel
theorem r_X8_playNight_19 {x0 x1 x2 x3 x4 x5 x6 : Value} {a : Nat} {st : List Value} {h : AH} : Run M_X8_playNight 19 [x0, x1, x2, x3, x4, x5, x6] (.ref a :: st) h = if (gF h a 4 0).isSome = true then Run M_X8_playNight 22 [x0, x1, x2, x3, x4, x5, x6] ((gF h a 4 0).getD .null :: st) h else none := R_getfield d_X8_playNight_19 rfl
theorem d_X8_playNight_22 : decode (mB M_X8_playNight) 22 = .ok (.if_icmp .ge 71, 3) := by decide +kernel
theorem r_X8_playNight_22 {x0 x1 x2 x3 x4 x5 x6 : Value} {x y : Int32} {st : List Value} {h : AH} : Run M_X8_playNight 22 [x0, x1, x2, x3, x4, x5, x6] (.int y :: .int x :: st) h = if y ≤ x then Run M_X8_playNight 93 [x0, x1, x2, x3, x4, x5, x6] st h else Run M_X8_playNight 25 [x0, x1, x2, x3, x4, x5, x6] st h := R_icmp_ge d_X8_playNight_22 (by decide)
theorem d_X8_playNight_25 : decode (mB M_X8_playNight) 25 = .ok (.aload_n 0, 1) := by decide +kernel
theorem r_X8_playNight_25 {x1 x2 x3 x4 x5 x6 : Value} {a : Nat} {st : List Value} {h : AH} : Run M_X8_playNight 25 [.ref a, x1, x2, x3, x4, x5, x6] st h = Run M_X8_playNight 26 [.ref a, x1, x2, x3, x4, x5, x6] (.ref a :: st) h := R_aload_n d_X8_playNight_25 rfl
theorem d_X8_playNight_26 : decode (mB M_X8_playNight) 26 = .ok (.getfield 57, 3) := by decide +kernel
theorem r_X8_playNight_26 {x0 x1 x2 x3 x4 x5 x6 : Value} {a : Nat} {st : List Value} {h : AH} : Run M_X8_playNight 26 [x0, x1, x2, x3, x4, x5, x6] (.ref a :: st) h = if (gF h a 8 7).isSome = true then Run M_X8_playNight 29 [x0, x1, x2, x3, x4, x5, x6] ((gF h a 8 7).getD .null :: st) h else none := R_getfield d_X8_playNight_26 rfl
theorem d_X8_playNight_29 : decode (mB M_X8_playNight) 29 = .ok (.getfield 132, 3) := by decide +kernel
theorem r_X8_playNight_29 {x0 x1 x2 x3 x4 x5 x6 : Value} {a : Nat} {st : List Value} {h : AH} : Run M_X8_playNight 29 [x0, x1, x2, x3, x4, x5, x6] (.ref a :: st) h = if (gF h a 4 1).isSome = true then Run M_X8_playNight 32 [x0, x1, x2, x3, x4, x5, x6] ((gF h a 4 1).getD .null :: st) h else none := R_getfield d_X8_playNight_29 rfl
theorem d_X8_playNight_32 : decode (mB M_X8_playNight) 32 = .ok (.iload 4, 2) := by decide +kernel
theorem r_X8_playNight_32 {x0 x1 x2 x3 x5 x6 : Value} {a : Int32} {st : List Value} {h : AH} : Run M_X8_playNight 32 [x0, x1, x2, x3, .int a, x5, x6] st h = Run M_X8_playNight 34 [x0, x1, x2, x3, .int a, x5, x6] (.int a :: st) h := R_iload d_X8_playNight_32 rfl
theorem d_X8_playNight_34 : decode (mB M_X8_playNight) 34 = .ok (.aaload, 1) := by decide +kernel
theorem r_X8_playNight_34 {x0 x1 x2 x3 x4 x5 x6 : Value} {a : Nat} {i : Int32} {st : List Value} {h : AH} : Run M_X8_playNight 34 [x0, x1, x2, x3, x4, x5, x6] (.int i :: .ref a :: st) h = if (gR h a i).isSome = true then Run M_X8_playNight 35 [x0, x1, x2, x3, x4, x5, x6] (.ref ((gR h a i).getD 0) :: st) h else none := R_aaload d_X8_playNight_34
theorem d_X8_playNight_35 : decode (mB M_X8_playNight) 35 = .ok (.astore 5, 2) := by decide +kernel
theorem r_X8_playNight_35 {x0 x1 x2 x3 x4 x5 x6 : Value} {a : Nat} {st : List Value} {h : AH} (hc : x4.category = 1) : Run M_X8_playNight 35 [x0, x1, x2, x3, x4, x5, x6] (.ref a :: st) h = Run M_X8_playNight 37 [x0, x1, x2, x3, x4, .ref a, x6] st h := R_astore d_X8_playNight_35 (Nat.lt_of_lt_of_le (by decide : 5 < 7) (Nat.le_refl 7)) (catP_of rfl hc)
theorem d_X8_playNight_37 : decode (mB M_X8_playNight) 37 = .ok (.aload_n 2, 1) := by decide +kernel
theorem r_X8_playNight_37 {x0 x1 x3 x4 x5 x6 : Value} {a : Nat} {st : List Value} {h : AH} : Run M_X8_playNight 37 [x0, x1, .ref a, x3, x4, x5, x6] st h = Run M_X8_playNight 38 [x0, x1, .ref a, x3, x4, x5, x6] (.ref a :: st) h := R_aload_n d_X8_playNight_37 rfl
theorem d_X8_playNight_38 : decode (mB M_X8_playNight) 38 = .ok (.bipush 8, 2) := by decide +kernel
theorem r_X8_playNight_38 {x0 x1 x2 x3 x4 x5 x6 : Value} {st : List Value} {h : AH} : Run M_X8_playNight 38 [x0, x1, x2, x3, x4, x5, x6] st h = Run M_X8_playNight 40 [x0, x1, x2, x3, x4, x5, x6] (.int (nI 8) :: st) h := R_bipush d_X8_playNight_38 (by decide)
theorem d_X8_playNight_40 : decode (mB M_X8_playNight) 40 = .ok (.invokevirtual 331, 3) := by decide +kernel
theorem r_X8_playNight_40 {x0 x1 x2 x3 x4 x5 x6 : Value} {p0 : Int32} {a : Nat} {h : AH} : Run M_X8_playNight 40 [x0, x1, x2, x3, x4, x5, x6] (.int p0 :: .ref a :: []) h = if refO h 0 (some (.ref a)) = true then (if (Call M_X0_draw h [.ref a, .int p0]).isSome = true then Run M_X8_playNight 43 [x0, x1, x2, x3, x4, x5, x6] (rL (Call M_X0_draw h [.ref a, .int p0]) ++ []) (cH (Call M_X0_draw h [.ref a, .int p0])) else none) else none := R_virt d_X8_playNight_40 rfl rfl rfl rfl rfl (Nat.le_of_ble_eq_true rfl)
theorem d_X8_playNight_43 : decode (mB M_X8_playNight) 43 = .ok (.aload 5, 2) := by decide +kernel
theorem r_X8_playNight_43 {x0 x1 x2 x3 x4 x6 : Value} {a : Nat} {st : List Value} {h : AH} : Run M_X8_playNight 43 [x0, x1, x2, x3, x4, .ref a, x6] st h = Run M_X8_playNight 45 [x0, x1, x2, x3, x4, .ref a, x6] (.ref a :: st) h := R_aload d_X8_playNight_43 rfl
theorem d_X8_playNight_45 : decode (mB M_X8_playNight) 45 = .ok (.getfield 141, 3) := by decide +kernel
theorem r_X8_playNight_45 {x0 x1 x2 x3 x4 x5 x6 : Value} {a : Nat} {st : List Value} {h : AH} : Run M_X8_playNight 45 [x0, x1, x2, x3, x4, x5, x6] (.ref a :: st) h = if (gF h a 6 1).isSome = true then Run M_X8_playNight 48 [x0, x1, x2, x3, x4, x5, x6] ((gF h a 6 1).getD .null :: st) h else none := R_getfield d_X8_playNight_45 rfl
theorem d_X8_playNight_48 : decode (mB M_X8_playNight) 48 = .ok (.if_icmp .lt 39, 3) := by decide +kernel
theorem r_X8_playNight_48 {x0 x1 x2 x3 x4 x5 x6 : Value} {x y : Int32} {st : List Value} {h : AH} : Run M_X8_playNight 48 [x0, x1, x2, x3, x4, x5, x6] (.int y :: .int x :: st) h = if x < y then Run M_X8_playNight 87 [x0, x1, x2, x3, x4, x5, x6] st h else Run M_X8_playNight 51 [x0, x1, x2, x3, x4, x5, x6] st h := R_icmp_lt d_X8_playNight_48 (by decide)
theorem d_X8_playNight_51 : decode (mB M_X8_playNight) 51 = .ok (.aload_n 2, 1) := by decide +kernel
theorem r_X8_playNight_51 {x0 x1 x3 x4 x5 x6 : Value} {a : Nat} {st : List Value} {h : AH} : Run M_X8_playNight 51 [x0, x1, .ref a, x3, x4, x5, x6] st h = Run M_X8_playNight 52 [x0, x1, .ref a, x3, x4, x5, x6] (.ref a :: st) h := R_aload_n d_X8_playNight_51 rfl
theorem d_X8_playNight_52 : decode (mB M_X8_playNight) 52 = .ok (.aload 5, 2) := by decide +kernel
theorem r_X8_playNight_52 {x0 x1 x2 x3 x4 x6 : Value} {a : Nat} {st : List Value} {h : AH} : Run M_X8_playNight 52 [x0, x1, x2, x3, x4, .ref a, x6] st h = Run M_X8_playNight 54 [x0, x1, x2, x3, x4, .ref a, x6] (.ref a :: st) h := R_aload d_X8_playNight_52 rfl
theorem d_X8_playNight_54 : decode (mB M_X8_playNight) 54 = .ok (.getfield 147, 3) := by decide +kernel
theorem r_X8_playNight_54 {x0 x1 x2 x3 x4 x5 x6 : Value} {a : Nat} {st : List Value} {h : AH} : Run M_X8_playNight 54 [x0, x1, x2, x3, x4, x5, x6] (.ref a :: st) h = if (gF h a 6 3).isSome = true then Run M_X8_playNight 57 [x0, x1, x2, x3, x4, x5, x6] ((gF h a 6 3).getD .null :: st) h else none := R_getfield d_X8_playNight_54 rfl
theorem d_X8_playNight_57 : decode (mB M_X8_playNight) 57 = .ok (.invokevirtual 331, 3) := by decide +kernel
theorem r_X8_playNight_57 {x0 x1 x2 x3 x4 x5 x6 : Value} {p0 : Int32} {a : Nat} {h : AH} : Run M_X8_playNight 57 [x0, x1, x2, x3, x4, x5, x6] (.int p0 :: .ref a :: []) h = if refO h 0 (some (.ref a)) = true then (if (Call M_X0_draw h [.ref a, .int p0]).isSome = true then Run M_X8_playNight 60 [x0, x1, x2, x3, x4, x5, x6] (rL (Call M_X0_draw h [.ref a, .int p0]) ++ []) (cH (Call M_X0_draw h [.ref a, .int p0])) else none) else none := R_virt d_X8_playNight_57 rfl rfl rfl rfl rfl (Nat.le_of_ble_eq_true rfl)
theorem d_X8_playNight_60 : decode (mB M_X8_playNight) 60 = .ok (.istore 6, 2) := by decide +kernel
theorem r_X8_playNight_60 {x0 x1 x2 x3 x4 x5 x6 : Value} {a : Int32} {st : List Value} {h : AH} (hc : x5.category = 1) : Run M_X8_playNight 60 [x0, x1, x2, x3, x4, x5, x6] (.int a :: st) h = Run M_X8_playNight 62 [x0, x1, x2, x3, x4, x5, .int a] st h := R_istore d_X8_playNight_60 (Nat.lt_of_lt_of_le (by decide : 6 < 7) (Nat.le_refl 7)) (catP_of rfl hc)
theorem d_X8_playNight_62 : decode (mB M_X8_playNight) 62 = .ok (.iload_n 3, 1) := by decide +kernel
theorem r_X8_playNight_62 {x0 x1 x2 x4 x5 x6 : Value} {a : Int32} {st : List Value} {h : AH} : Run M_X8_playNight 62 [x0, x1, x2, .int a, x4, x5, x6] st h = Run M_X8_playNight 63 [x0, x1, x2, .int a, x4, x5, x6] (.int a :: st) h := R_iload_n d_X8_playNight_62 rfl
theorem d_X8_playNight_63 : decode (mB M_X8_playNight) 63 = .ok (.iload 6, 2) := by decide +kernel
theorem r_X8_playNight_63 {x0 x1 x2 x3 x4 x5 : Value} {a : Int32} {st : List Value} {h : AH} : Run M_X8_playNight 63 [x0, x1, x2, x3, x4, x5, .int a] st h = Run M_X8_playNight 65 [x0, x1, x2, x3, x4, x5, .int a] (.int a :: st) h := R_iload d_X8_playNight_63 rfl
theorem d_X8_playNight_65 : decode (mB M_X8_playNight) 65 = .ok (.iconst 0, 1) := by decide +kernel
theorem r_X8_playNight_65 {x0 x1 x2 x3 x4 x5 x6 : Value} {st : List Value} {h : AH} : Run M_X8_playNight 65 [x0, x1, x2, x3, x4, x5, x6] st h = Run M_X8_playNight 66 [x0, x1, x2, x3, x4, x5, x6] (.int (nI 0) :: st) h := R_iconst d_X8_playNight_65 (by decide)
theorem d_X8_playNight_66 : decode (mB M_X8_playNight) 66 = .ok (.iconst 3, 1) := by decide +kernel
theorem r_X8_playNight_66 {x0 x1 x2 x3 x4 x5 x6 : Value} {st : List Value} {h : AH} : Run M_X8_playNight 66 [x0, x1, x2, x3, x4, x5, x6] st h = Run M_X8_playNight 67 [x0, x1, x2, x3, x4, x5, x6] (.int (nI 3) :: st) h := R_iconst d_X8_playNight_66 (by decide)
theorem d_X8_playNight_67 : decode (mB M_X8_playNight) 67 = .ok (.invokestatic 65, 3) := by decide +kernel
theorem r_X8_playNight_67 {x0 x1 x2 x3 x4 x5 x6 : Value} {p0 : Int32} {p1 : Int32} {p2 : Int32} {w0 : Value} {h : AH} : Run M_X8_playNight 67 [x0, x1, x2, x3, x4, x5, x6] (.int p2 :: .int p1 :: .int p0 :: [w0]) h = if (Call M_X8_within h [.int p0, .int p1, .int p2]).isSome = true then Run M_X8_playNight 70 [x0, x1, x2, x3, x4, x5, x6] (rL (Call M_X8_within h [.int p0, .int p1, .int p2]) ++ [w0]) (cH (Call M_X8_within h [.int p0, .int p1, .int p2])) else none := R_stat d_X8_playNight_67 rfl rfl rfl rfl (Nat.le_of_ble_eq_true rfl)
theorem d_X8_playNight_70 : decode (mB M_X8_playNight) 70 = .ok (.ifCond .eq 14, 3) := by decide +kernel
theorem r_X8_playNight_70 {x0 x1 x2 x3 x4 x5 x6 : Value} {x : Int32} {st : List Value} {h : AH} : Run M_X8_playNight 70 [x0, x1, x2, x3, x4, x5, x6] (.int x :: st) h = if x = nI 0 then Run M_X8_playNight 84 [x0, x1, x2, x3, x4, x5, x6] st h else Run M_X8_playNight 73 [x0, x1, x2, x3, x4, x5, x6] st h := R_if_eq d_X8_playNight_70 (by decide)
theorem d_X8_playNight_73 : decode (mB M_X8_playNight) 73 = .ok (.aload 5, 2) := by decide +kernel
theorem r_X8_playNight_73 {x0 x1 x2 x3 x4 x6 : Value} {a : Nat} {st : List Value} {h : AH} : Run M_X8_playNight 73 [x0, x1, x2, x3, x4, .ref a, x6] st h = Run M_X8_playNight 75 [x0, x1, x2, x3, x4, .ref a, x6] (.ref a :: st) h := R_aload d_X8_playNight_73 rfl
theorem d_X8_playNight_75 : decode (mB M_X8_playNight) 75 = .ok (.getfield 150, 3) := by decide +kernel
theorem r_X8_playNight_75 {x0 x1 x2 x3 x4 x5 x6 : Value} {a : Nat} {st : List Value} {h : AH} : Run M_X8_playNight 75 [x0, x1, x2, x3, x4, x5, x6] (.ref a :: st) h = if (gF h a 6 4).isSome = true then Run M_X8_playNight 78 [x0, x1, x2, x3, x4, x5, x6] ((gF h a 6 4).getD .null :: st) h else none := R_getfield d_X8_playNight_75 rfl
theorem d_X8_playNight_78 : decode (mB M_X8_playNight) 78 = .ok (.iload 6, 2) := by decide +kernel
theorem r_X8_playNight_78 {x0 x1 x2 x3 x4 x5 : Value} {a : Int32} {st : List Value} {h : AH} : Run M_X8_playNight 78 [x0, x1, x2, x3, x4, x5, .int a] st h = Run M_X8_playNight 80 [x0, x1, x2, x3, x4, x5, .int a] (.int a :: st) h := R_iload d_X8_playNight_78 rfl
theorem d_X8_playNight_80 : decode (mB M_X8_playNight) 80 = .ok (.iaload, 1) := by decide +kernel
theorem r_X8_playNight_80 {x0 x1 x2 x3 x4 x5 x6 : Value} {a : Nat} {i : Int32} {st : List Value} {h : AH} : Run M_X8_playNight 80 [x0, x1, x2, x3, x4, x5, x6] (.int i :: .ref a :: st) h = if (gI 0 h a i).isSome = true then Run M_X8_playNight 81 [x0, x1, x2, x3, x4, x5, x6] (.int ((gI 0 h a i).getD 0) :: st) h else none := R_iaload d_X8_playNight_80
theorem d_X8_playNight_81 : decode (mB M_X8_playNight) 81 = .ok (.goto 4, 3) := by decide +kernel
theorem r_X8_playNight_81 {x0 x1 x2 x3 x4 x5 x6 : Value} {st : List Value} {h : AH} : Run M_X8_playNight 81 [x0, x1, x2, x3, x4, x5, x6] st h = Run M_X8_playNight 85 [x0, x1, x2, x3, x4, x5, x6] st h := R_goto d_X8_playNight_81 (by decide)
theorem d_X8_playNight_84 : decode (mB M_X8_playNight) 84 = .ok (.iconst 0, 1) := by decide +kernel
theorem r_X8_playNight_84 {x0 x1 x2 x3 x4 x5 x6 : Value} {st : List Value} {h : AH} : Run M_X8_playNight 84 [x0, x1, x2, x3, x4, x5, x6] st h = Run M_X8_playNight 85 [x0, x1, x2, x3, x4, x5, x6] (.int (nI 0) :: st) h := R_iconst d_X8_playNight_84 (by decide)
theorem d_X8_playNight_85 : decode (mB M_X8_playNight) 85 = .ok (.iadd, 1) := by decide +kernel
theorem r_X8_playNight_85 {x0 x1 x2 x3 x4 x5 x6 : Value} {x y : Int32} {st : List Value} {h : AH} : Run M_X8_playNight 85 [x0, x1, x2, x3, x4, x5, x6] (.int y :: .int x :: st) h = Run M_X8_playNight 86 [x0, x1, x2, x3, x4, x5, x6] (.int (x + y) :: st) h := R_iadd d_X8_playNight_85
theorem d_X8_playNight_86 : decode (mB M_X8_playNight) 86 = .ok (.istore_n 3, 1) := by decide +kernel
theorem r_X8_playNight_86 {x0 x1 x2 x3 x4 x5 x6 : Value} {a : Int32} {st : List Value} {h : AH} (hc : x2.category = 1) : Run M_X8_playNight 86 [x0, x1, x2, x3, x4, x5, x6] (.int a :: st) h = Run M_X8_playNight 87 [x0, x1, x2, .int a, x4, x5, x6] st h := R_istore_n d_X8_playNight_86 (Nat.lt_of_lt_of_le (by decide : 3 < 7) (Nat.le_refl 7)) (catP_of rfl hc)
theorem d_X8_playNight_87 : decode (mB M_X8_playNight) 87 = .ok (.iinc 4 1, 3) := by decide +kernel
theorem r_X8_playNight_87 {x0 x1 x2 x3 x5 x6 : Value} {a : Int32} {st : List Value} {h : AH} (hc : x3.category = 1) : Run M_X8_playNight 87 [x0, x1, x2, x3, .int a, x5, x6] st h = Run M_X8_playNight 90 [x0, x1, x2, x3, .int (a + (nI 1)), x5, x6] st h := R_iinc d_X8_playNight_87 (by decide) rfl (catP_of rfl hc)
theorem d_X8_playNight_90 : decode (mB M_X8_playNight) 90 = .ok (.goto (-77), 3) := by decide +kernel
theorem r_X8_playNight_90 {x0 x1 x2 x3 x4 x5 x6 : Value} {st : List Value} {h : AH} : Run M_X8_playNight 90 [x0, x1, x2, x3, x4, x5, x6] st h = Run M_X8_playNight 13 [x0, x1, x2, x3, x4, x5, x6] st h := R_goto d_X8_playNight_90 (by decide)
theorem d_X8_playNight_93 : decode (mB M_X8_playNight) 93 = .ok (.aload_n 2, 1) := by decide +kernel
theorem r_X8_playNight_93 {x0 x1 x3 x4 x5 x6 : Value} {a : Nat} {st : List Value} {h : AH} : Run M_X8_playNight 93 [x0, x1, .ref a, x3, x4, x5, x6] st h = Run M_X8_playNight 94 [x0, x1, .ref a, x3, x4, x5, x6] (.ref a :: st) h := R_aload_n d_X8_playNight_93 rfl
theorem d_X8_playNight_94 : decode (mB M_X8_playNight) 94 = .ok (.getfield 108, 3) := by decide +kernel
theorem r_X8_playNight_94 {x0 x1 x2 x3 x4 x5 x6 : Value} {a : Nat} {st : List Value} {h : AH} : Run M_X8_playNight 94 [x0, x1, x2, x3, x4, x5, x6] (.ref a :: st) h = if (gF h a 0 0).isSome = true then Run M_X8_playNight 97 [x0, x1, x2, x3, x4, x5, x6] ((gF h a 0 0).getD .null :: st) h else none := R_getfield d_X8_playNight_94 rfl
theorem d_X8_playNight_97 : decode (mB M_X8_playNight) 97 = .ok (.iconst 0, 1) := by decide +kernel
theorem r_X8_playNight_97 {x0 x1 x2 x3 x4 x5 x6 : Value} {st : List Value} {h : AH} : Run M_X8_playNight 97 [x0, x1, x2, x3, x4, x5, x6] st h = Run M_X8_playNight 98 [x0, x1, x2, x3, x4, x5, x6] (.int (nI 0) :: st) h := R_iconst d_X8_playNight_97 (by decide)
theorem d_X8_playNight_98 : decode (mB M_X8_playNight) 98 = .ok (.iload_n 3, 1) := by decide +kernel
theorem r_X8_playNight_98 {x0 x1 x2 x4 x5 x6 : Value} {a : Int32} {st : List Value} {h : AH} : Run M_X8_playNight 98 [x0, x1, x2, .int a, x4, x5, x6] st h = Run M_X8_playNight 99 [x0, x1, x2, .int a, x4, x5, x6] (.int a :: st) h := R_iload_n d_X8_playNight_98 rfl
theorem d_X8_playNight_99 : decode (mB M_X8_playNight) 99 = .ok (.iload_n 1, 1) := by decide +kernel
theorem r_X8_playNight_99 {x0 x2 x3 x4 x5 x6 : Value} {a : Int32} {st : List Value} {h : AH} : Run M_X8_playNight 99 [x0, .int a, x2, x3, x4, x5, x6] st h = Run M_X8_playNight 100 [x0, .int a, x2, x3, x4, x5, x6] (.int a :: st) h := R_iload_n d_X8_playNight_99 rfl
theorem d_X8_playNight_100 : decode (mB M_X8_playNight) 100 = .ok (.isub, 1) := by decide +kernel
theorem r_X8_playNight_100 {x0 x1 x2 x3 x4 x5 x6 : Value} {x y : Int32} {st : List Value} {h : AH} : Run M_X8_playNight 100 [x0, x1, x2, x3, x4, x5, x6] (.int y :: .int x :: st) h = Run M_X8_playNight 101 [x0, x1, x2, x3, x4, x5, x6] (.int (x - y) :: st) h := R_isub d_X8_playNight_100
theorem d_X8_playNight_101 : decode (mB M_X8_playNight) 101 = .ok (.invokestatic 334, 3) := by decide +kernel
theorem r_X8_playNight_101 {x0 x1 x2 x3 x4 x5 x6 : Value} {p0 : Int32} {p1 : Int32} {w0 : Value} {h : AH} : Run M_X8_playNight 101 [x0, x1, x2, x3, x4, x5, x6] (.int p1 :: .int p0 :: [w0]) h = if (Call M_J9_max_7cf53 h [.int p0, .int p1]).isSome = true then Run M_X8_playNight 104 [x0, x1, x2, x3, x4, x5, x6] (rL (Call M_J9_max_7cf53 h [.int p0, .int p1]) ++ [w0]) (cH (Call M_J9_max_7cf53 h [.int p0, .int p1])) else none := R_stat d_X8_playNight_101 rfl rfl rfl rfl (Nat.le_of_ble_eq_true rfl)
theorem d_X8_playNight_104 : decode (mB M_X8_playNight) 104 = .ok (.imul, 1) := by decide +kernel
theorem r_X8_playNight_104 {x0 x1 x2 x3 x4 x5 x6 : Value} {x y : Int32} {st : List Value} {h : AH} : Run M_X8_playNight 104 [x0, x1, x2, x3, x4, x5, x6] (.int y :: .int x :: st) h = Run M_X8_playNight 105 [x0, x1, x2, x3, x4, x5, x6] (.int (x * y) :: st) h := R_imul d_X8_playNight_104
theorem d_X8_playNight_105 : decode (mB M_X8_playNight) 105 = .ok (.istore 4, 2) := by decide +kernel
theorem r_X8_playNight_105 {x0 x1 x2 x3 x4 x5 x6 : Value} {a : Int32} {st : List Value} {h : AH} (hc : x3.category = 1) : Run M_X8_playNight 105 [x0, x1, x2, x3, x4, x5, x6] (.int a :: st) h = Run M_X8_playNight 107 [x0, x1, x2, x3, .int a, x5, x6] st h := R_istore d_X8_playNight_105 (Nat.lt_of_lt_of_le (by decide : 4 < 7) (Nat.le_refl 7)) (catP_of rfl hc)
theorem d_X8_playNight_107 : decode (mB M_X8_playNight) 107 = .ok (.aload_n 2, 1) := by decide +kernel
theorem r_X8_playNight_107 {x0 x1 x3 x4 x5 x6 : Value} {a : Nat} {st : List Value} {h : AH} : Run M_X8_playNight 107 [x0, x1, .ref a, x3, x4, x5, x6] st h = Run M_X8_playNight 108 [x0, x1, .ref a, x3, x4, x5, x6] (.ref a :: st) h := R_aload_n d_X8_playNight_107 rfl
theorem d_X8_playNight_108 : decode (mB M_X8_playNight) 108 = .ok (.getfield 111, 3) := by decide +kernel
theorem r_X8_playNight_108 {x0 x1 x2 x3 x4 x5 x6 : Value} {a : Nat} {st : List Value} {h : AH} : Run M_X8_playNight 108 [x0, x1, x2, x3, x4, x5, x6] (.ref a :: st) h = if (gF h a 0 1).isSome = true then Run M_X8_playNight 111 [x0, x1, x2, x3, x4, x5, x6] ((gF h a 0 1).getD .null :: st) h else none := R_getfield d_X8_playNight_108 rfl
theorem d_X8_playNight_111 : decode (mB M_X8_playNight) 111 = .ok (.iconst 0, 1) := by decide +kernel
theorem r_X8_playNight_111 {x0 x1 x2 x3 x4 x5 x6 : Value} {st : List Value} {h : AH} : Run M_X8_playNight 111 [x0, x1, x2, x3, x4, x5, x6] st h = Run M_X8_playNight 112 [x0, x1, x2, x3, x4, x5, x6] (.int (nI 0) :: st) h := R_iconst d_X8_playNight_111 (by decide)
theorem d_X8_playNight_112 : decode (mB M_X8_playNight) 112 = .ok (.iload_n 1, 1) := by decide +kernel
theorem r_X8_playNight_112 {x0 x2 x3 x4 x5 x6 : Value} {a : Int32} {st : List Value} {h : AH} : Run M_X8_playNight 112 [x0, .int a, x2, x3, x4, x5, x6] st h = Run M_X8_playNight 113 [x0, .int a, x2, x3, x4, x5, x6] (.int a :: st) h := R_iload_n d_X8_playNight_112 rfl
theorem d_X8_playNight_113 : decode (mB M_X8_playNight) 113 = .ok (.iload_n 3, 1) := by decide +kernel
theorem r_X8_playNight_113 {x0 x1 x2 x4 x5 x6 : Value} {a : Int32} {st : List Value} {h : AH} : Run M_X8_playNight 113 [x0, x1, x2, .int a, x4, x5, x6] st h = Run M_X8_playNight 114 [x0, x1, x2, .int a, x4, x5, x6] (.int a :: st) h := R_iload_n d_X8_playNight_113 rfl
theorem d_X8_playNight_114 : decode (mB M_X8_playNight) 114 = .ok (.isub, 1) := by decide +kernel
theorem r_X8_playNight_114 {x0 x1 x2 x3 x4 x5 x6 : Value} {x y : Int32} {st : List Value} {h : AH} : Run M_X8_playNight 114 [x0, x1, x2, x3, x4, x5, x6] (.int y :: .int x :: st) h = Run M_X8_playNight 115 [x0, x1, x2, x3, x4, x5, x6] (.int (x - y) :: st) h := R_isub d_X8_playNight_114
theorem d_X8_playNight_115 : decode (mB M_X8_playNight) 115 = .ok (.invokestatic 334, 3) := by decide +kernel
theorem r_X8_playNight_115 {x0 x1 x2 x3 x4 x5 x6 : Value} {p0 : Int32} {p1 : Int32} {w0 : Value} {h : AH} : Run M_X8_playNight 115 [x0, x1, x2, x3, x4, x5, x6] (.int p1 :: .int p0 :: [w0]) h = if (Call M_J9_max_7cf53 h [.int p0, .int p1]).isSome = true then Run M_X8_playNight 118 [x0, x1, x2, x3, x4, x5, x6] (rL (Call M_J9_max_7cf53 h [.int p0, .int p1]) ++ [w0]) (cH (Call M_J9_max_7cf53 h [.int p0, .int p1])) else none := R_stat d_X8_playNight_115 rfl rfl rfl rfl (Nat.le_of_ble_eq_true rfl)
theorem d_X8_playNight_118 : decode (mB M_X8_playNight) 118 = .ok (.imul, 1) := by decide +kernel
theorem r_X8_playNight_118 {x0 x1 x2 x3 x4 x5 x6 : Value} {x y : Int32} {st : List Value} {h : AH} : Run M_X8_playNight 118 [x0, x1, x2, x3, x4, x5, x6] (.int y :: .int x :: st) h = Run M_X8_playNight 119 [x0, x1, x2, x3, x4, x5, x6] (.int (x * y) :: st) h := R_imul d_X8_playNight_118
theorem d_X8_playNight_119 : decode (mB M_X8_playNight) 119 = .ok (.istore 5, 2) := by decide +kernel
theorem r_X8_playNight_119 {x0 x1 x2 x3 x4 x5 x6 : Value} {a : Int32} {st : List Value} {h : AH} (hc : x4.category = 1) : Run M_X8_playNight 119 [x0, x1, x2, x3, x4, x5, x6] (.int a :: st) h = Run M_X8_playNight 121 [x0, x1, x2, x3, x4, .int a, x6] st h := R_istore d_X8_playNight_119 (Nat.lt_of_lt_of_le (by decide : 5 < 7) (Nat.le_refl 7)) (catP_of rfl hc)
theorem d_X8_playNight_121 : decode (mB M_X8_playNight) 121 = .ok (.aload_n 2, 1) := by decide +kernel
theorem r_X8_playNight_121 {x0 x1 x3 x4 x5 x6 : Value} {a : Nat} {st : List Value} {h : AH} : Run M_X8_playNight 121 [x0, x1, .ref a, x3, x4, x5, x6] st h = Run M_X8_playNight 122 [x0, x1, .ref a, x3, x4, x5, x6] (.ref a :: st) h := R_aload_n d_X8_playNight_121 rfl
theorem d_X8_playNight_122 : decode (mB M_X8_playNight) 122 = .ok (.ldc_w 337, 3) := by decide +kernel
theorem r_X8_playNight_122 {x0 x1 x2 x3 x4 x5 x6 : Value} {st : List Value} {h : AH} : Run M_X8_playNight 122 [x0, x1, x2, x3, x4, x5, x6] st h = Run M_X8_playNight 125 [x0, x1, x2, x3, x4, x5, x6] (.int (nI 999999999) :: st) h := R_ldc_w d_X8_playNight_122 (by decide)
theorem d_X8_playNight_125 : decode (mB M_X8_playNight) 125 = .ok (.aload_n 2, 1) := by decide +kernel
theorem r_X8_playNight_125 {x0 x1 x3 x4 x5 x6 : Value} {a : Nat} {st : List Value} {h : AH} : Run M_X8_playNight 125 [x0, x1, .ref a, x3, x4, x5, x6] st h = Run M_X8_playNight 126 [x0, x1, .ref a, x3, x4, x5, x6] (.ref a :: st) h := R_aload_n d_X8_playNight_125 rfl
theorem d_X8_playNight_126 : decode (mB M_X8_playNight) 126 = .ok (.getfield 120, 3) := by decide +kernel
theorem r_X8_playNight_126 {x0 x1 x2 x3 x4 x5 x6 : Value} {a : Nat} {st : List Value} {h : AH} : Run M_X8_playNight 126 [x0, x1, x2, x3, x4, x5, x6] (.ref a :: st) h = if (gF h a 0 8).isSome = true then Run M_X8_playNight 129 [x0, x1, x2, x3, x4, x5, x6] ((gF h a 0 8).getD .null :: st) h else none := R_getfield d_X8_playNight_126 rfl
theorem d_X8_playNight_129 : decode (mB M_X8_playNight) 129 = .ok (.iload 4, 2) := by decide +kernel
theorem r_X8_playNight_129 {x0 x1 x2 x3 x5 x6 : Value} {a : Int32} {st : List Value} {h : AH} : Run M_X8_playNight 129 [x0, x1, x2, x3, .int a, x5, x6] st h = Run M_X8_playNight 131 [x0, x1, x2, x3, .int a, x5, x6] (.int a :: st) h := R_iload d_X8_playNight_129 rfl
theorem d_X8_playNight_131 : decode (mB M_X8_playNight) 131 = .ok (.iadd, 1) := by decide +kernel
theorem r_X8_playNight_131 {x0 x1 x2 x3 x4 x5 x6 : Value} {x y : Int32} {st : List Value} {h : AH} : Run M_X8_playNight 131 [x0, x1, x2, x3, x4, x5, x6] (.int y :: .int x :: st) h = Run M_X8_playNight 132 [x0, x1, x2, x3, x4, x5, x6] (.int (x + y) :: st) h := R_iadd d_X8_playNight_131
theorem d_X8_playNight_132 : decode (mB M_X8_playNight) 132 = .ok (.iload 5, 2) := by decide +kernel
theorem r_X8_playNight_132 {x0 x1 x2 x3 x4 x6 : Value} {a : Int32} {st : List Value} {h : AH} : Run M_X8_playNight 132 [x0, x1, x2, x3, x4, .int a, x6] st h = Run M_X8_playNight 134 [x0, x1, x2, x3, x4, .int a, x6] (.int a :: st) h := R_iload d_X8_playNight_132 rfl
theorem d_X8_playNight_134 : decode (mB M_X8_playNight) 134 = .ok (.iadd, 1) := by decide +kernel
theorem r_X8_playNight_134 {x0 x1 x2 x3 x4 x5 x6 : Value} {x y : Int32} {st : List Value} {h : AH} : Run M_X8_playNight 134 [x0, x1, x2, x3, x4, x5, x6] (.int y :: .int x :: st) h = Run M_X8_playNight 135 [x0, x1, x2, x3, x4, x5, x6] (.int (x + y) :: st) h := R_iadd d_X8_playNight_134
theorem d_X8_playNight_135 : decode (mB M_X8_playNight) 135 = .ok (.invokestatic 316, 3) := by decide +kernel
theorem r_X8_playNight_135 {x0 x1 x2 x3 x4 x5 x6 : Value} {p0 : Int32} {p1 : Int32} {w0 : Value} {h : AH} : Run M_X8_playNight 135 [x0, x1, x2, x3, x4, x5, x6] (.int p1 :: .int p0 :: [w0]) h = if (Call M_J9_min_7cf53 h [.int p0, .int p1]).isSome = true then Run M_X8_playNight 138 [x0, x1, x2, x3, x4, x5, x6] (rL (Call M_J9_min_7cf53 h [.int p0, .int p1]) ++ [w0]) (cH (Call M_J9_min_7cf53 h [.int p0, .int p1])) else none := R_stat d_X8_playNight_135 rfl rfl rfl rfl (Nat.le_of_ble_eq_true rfl)
theorem d_X8_playNight_138 : decode (mB M_X8_playNight) 138 = .ok (.putfield 120, 3) := by decide +kernel
theorem r_X8_playNight_138 {x0 x1 x2 x3 x4 x5 x6 : Value} {v : Int32} {a : Nat} {st : List Value} {h : AH} : Run M_X8_playNight 138 [x0, x1, x2, x3, x4, x5, x6] (.int v :: .ref a :: st) h = if (pF h a 0 8 (.int v)).isSome = true then Run M_X8_playNight 141 [x0, x1, x2, x3, x4, x5, x6] st ((pF h a 0 8 (.int v)).getD h) else none := R_putfield d_X8_playNight_138 rfl (okP_int rfl rfl)
theorem d_X8_playNight_141 : decode (mB M_X8_playNight) 141 = .ok (.aload_n 2, 1) := by decide +kernel
theorem r_X8_playNight_141 {x0 x1 x3 x4 x5 x6 : Value} {a : Nat} {st : List Value} {h : AH} : Run M_X8_playNight 141 [x0, x1, .ref a, x3, x4, x5, x6] st h = Run M_X8_playNight 142 [x0, x1, .ref a, x3, x4, x5, x6] (.ref a :: st) h := R_aload_n d_X8_playNight_141 rfl
theorem d_X8_playNight_142 : decode (mB M_X8_playNight) 142 = .ok (.dup, 1) := by decide +kernel
theorem r_X8_playNight_142 {x0 x1 x2 x3 x4 x5 x6 : Value} {x : Nat} {st : List Value} {h : AH} : Run M_X8_playNight 142 [x0, x1, x2, x3, x4, x5, x6] (.ref x :: st) h = Run M_X8_playNight 143 [x0, x1, x2, x3, x4, x5, x6] (.ref x :: .ref x :: st) h := R_dupr d_X8_playNight_142
theorem d_X8_playNight_143 : decode (mB M_X8_playNight) 143 = .ok (.getfield 123, 3) := by decide +kernel
theorem r_X8_playNight_143 {x0 x1 x2 x3 x4 x5 x6 : Value} {a : Nat} {st : List Value} {h : AH} : Run M_X8_playNight 143 [x0, x1, x2, x3, x4, x5, x6] (.ref a :: st) h = if (gF h a 0 9).isSome = true then Run M_X8_playNight 146 [x0, x1, x2, x3, x4, x5, x6] ((gF h a 0 9).getD .null :: st) h else none := R_getfield d_X8_playNight_143 rfl
theorem d_X8_playNight_146 : decode (mB M_X8_playNight) 146 = .ok (.iconst 1, 1) := by decide +kernel
theorem r_X8_playNight_146 {x0 x1 x2 x3 x4 x5 x6 : Value} {st : List Value} {h : AH} : Run M_X8_playNight 146 [x0, x1, x2, x3, x4, x5, x6] st h = Run M_X8_playNight 147 [x0, x1, x2, x3, x4, x5, x6] (.int (nI 1) :: st) h := R_iconst d_X8_playNight_146 (by decide)
theorem d_X8_playNight_147 : decode (mB M_X8_playNight) 147 = .ok (.iadd, 1) := by decide +kernel
theorem r_X8_playNight_147 {x0 x1 x2 x3 x4 x5 x6 : Value} {x y : Int32} {st : List Value} {h : AH} : Run M_X8_playNight 147 [x0, x1, x2, x3, x4, x5, x6] (.int y :: .int x :: st) h = Run M_X8_playNight 148 [x0, x1, x2, x3, x4, x5, x6] (.int (x + y) :: st) h := R_iadd d_X8_playNight_147
theorem d_X8_playNight_148 : decode (mB M_X8_playNight) 148 = .ok (.putfield 123, 3) := by decide +kernel
theorem r_X8_playNight_148 {x0 x1 x2 x3 x4 x5 x6 : Value} {v : Int32} {a : Nat} {st : List Value} {h : AH} : Run M_X8_playNight 148 [x0, x1, x2, x3, x4, x5, x6] (.int v :: .ref a :: st) h = if (pF h a 0 9 (.int v)).isSome = true then Run M_X8_playNight 151 [x0, x1, x2, x3, x4, x5, x6] st ((pF h a 0 9 (.int v)).getD h) else none := R_putfield d_X8_playNight_148 rfl (okP_int rfl rfl)
theorem d_X8_playNight_151 : decode (mB M_X8_playNight) 151 = .ok (.return_, 1) := by decide +kernel
theorem r_X8_playNight_151 {x0 x1 x2 x3 x4 x5 x6 : Value} {h : AH} : Run M_X8_playNight 151 [x0, x1, x2, x3, x4, x5, x6] [] h = some (h, none) := R_return d_X8_playNight_151 rfl
