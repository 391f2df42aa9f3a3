/-! the equations of the run, an instruction each (program: wip/whole/gen_pcs.py) -/
theorem d_X9_bestLift_0 : decode (mB M_X9_bestLift) 0 = .ok (.iload_n 1, 1) := by decide +kernel
theorem r_X9_bestLift_0 {x0 x2 x3 : Value} {a : Int32} {st : List Value} {h : AH} : Run M_X9_bestLift 0 [x0, .int a, x2, x3] st h = Run M_X9_bestLift 1 [x0, .int a, x2, x3] (.int a :: st) h := R_iload_n d_X9_bestLift_0 rfl
theorem d_X9_bestLift_1 : decode (mB M_X9_bestLift) 1 = .ok (.iconst 0, 1) := by decide +kernel
theorem r_X9_bestLift_1 {x0 x1 x2 x3 : Value} {st : List Value} {h : AH} : Run M_X9_bestLift 1 [x0, x1, x2, x3] st h = Run M_X9_bestLift 2 [x0, x1, x2, x3] (.int (nI 0) :: st) h := R_iconst d_X9_bestLift_1 (by decide)
theorem d_X9_bestLift_2 : decode (mB M_X9_bestLift) 2 = .ok (.bipush 60, 2) := by decide +kernel
theorem r_X9_bestLift_2 {x0 x1 x2 x3 : Value} {st : List Value} {h : AH} : Run M_X9_bestLift 2 [x0, x1, x2, x3] st h = Run M_X9_bestLift 4 [x0, x1, x2, x3] (.int (nI 60) :: st) h := R_bipush d_X9_bestLift_2 (by decide)
theorem d_X9_bestLift_4 : decode (mB M_X9_bestLift) 4 = .ok (.invokestatic 85, 3) := by decide +kernel
theorem r_X9_bestLift_4 {x0 x1 x2 x3 : Value} {p0 : Int32} {p1 : Int32} {p2 : Int32} {h : AH} : Run M_X9_bestLift 4 [x0, x1, x2, x3] (.int p2 :: .int p1 :: .int p0 :: []) h = if (Call M_X9_in h [.int p0, .int p1, .int p2]).isSome = true then Run M_X9_bestLift 7 [x0, x1, x2, x3] (rL (Call M_X9_in h [.int p0, .int p1, .int p2]) ++ []) (cH (Call M_X9_in h [.int p0, .int p1, .int p2])) else none := R_stat d_X9_bestLift_4 rfl rfl rfl rfl (Nat.le_of_ble_eq_true rfl)
theorem d_X9_bestLift_7 : decode (mB M_X9_bestLift) 7 = .ok (.ifCond .ne 6, 3) := by decide +kernel
theorem r_X9_bestLift_7 {x0 x1 x2 x3 : Value} {x : Int32} {st : List Value} {h : AH} : Run M_X9_bestLift 7 [x0, x1, x2, x3] (.int x :: st) h = if x = nI 0 then Run M_X9_bestLift 10 [x0, x1, x2, x3] st h else Run M_X9_bestLift 13 [x0, x1, x2, x3] st h := R_if_ne d_X9_bestLift_7 (by decide)
theorem d_X9_bestLift_10 : decode (mB M_X9_bestLift) 10 = .ok (.ldc 92, 2) := by decide +kernel
theorem r_X9_bestLift_10 {x0 x1 x2 x3 : Value} {st : List Value} {h : AH} : Run M_X9_bestLift 10 [x0, x1, x2, x3] st h = Run M_X9_bestLift 12 [x0, x1, x2, x3] (.int (-1000000002) :: st) h := R_ldc d_X9_bestLift_10 (by decide)
theorem d_X9_bestLift_12 : decode (mB M_X9_bestLift) 12 = .ok (.ireturn, 1) := by decide +kernel
theorem r_X9_bestLift_12 {x0 x1 x2 x3 : Value} {v : Int32} {h : AH} : Run M_X9_bestLift 12 [x0, x1, x2, x3] [.int v] h = some (h, some (.int v)) := R_ireturn d_X9_bestLift_12 rfl rfl
theorem d_X9_bestLift_13 : decode (mB M_X9_bestLift) 13 = .ok (.aload_n 0, 1) := by decide +kernel
theorem r_X9_bestLift_13 {x1 x2 x3 : Value} {a : Nat} {st : List Value} {h : AH} : Run M_X9_bestLift 13 [.ref a, x1, x2, x3] st h = Run M_X9_bestLift 14 [.ref a, x1, x2, x3] (.ref a :: st) h := R_aload_n d_X9_bestLift_13 rfl
theorem d_X9_bestLift_14 : decode (mB M_X9_bestLift) 14 = .ok (.aload_n 0, 1) := by decide +kernel
theorem r_X9_bestLift_14 {x1 x2 x3 : Value} {a : Nat} {st : List Value} {h : AH} : Run M_X9_bestLift 14 [.ref a, x1, x2, x3] st h = Run M_X9_bestLift 15 [.ref a, x1, x2, x3] (.ref a :: st) h := R_aload_n d_X9_bestLift_14 rfl
theorem d_X9_bestLift_15 : decode (mB M_X9_bestLift) 15 = .ok (.getfield 82, 3) := by decide +kernel
theorem r_X9_bestLift_15 {x0 x1 x2 x3 : Value} {a : Nat} {st : List Value} {h : AH} : Run M_X9_bestLift 15 [x0, x1, x2, x3] (.ref a :: st) h = if (gF h a 9 3).isSome = true then Run M_X9_bestLift 18 [x0, x1, x2, x3] ((gF h a 9 3).getD .null :: st) h else none := R_getfield d_X9_bestLift_15 rfl
theorem d_X9_bestLift_18 : decode (mB M_X9_bestLift) 18 = .ok (.invokevirtual 218, 3) := by decide +kernel
theorem r_X9_bestLift_18 {x0 x1 x2 x3 : Value} {p0 : Int32} {a : Nat} {h : AH} : Run M_X9_bestLift 18 [x0, x1, x2, x3] (.int p0 :: .ref a :: []) h = if refO h 9 (some (.ref a)) = true then (if (Call M_X9_findWeights h [.ref a, .int p0]).isSome = true then Run M_X9_bestLift 21 [x0, x1, x2, x3] (rL (Call M_X9_findWeights h [.ref a, .int p0]) ++ []) (cH (Call M_X9_findWeights h [.ref a, .int p0])) else none) else none := R_virt d_X9_bestLift_18 rfl rfl rfl rfl rfl (Nat.le_of_ble_eq_true rfl)
theorem d_X9_bestLift_21 : decode (mB M_X9_bestLift) 21 = .ok (.iconst 0, 1) := by decide +kernel
theorem r_X9_bestLift_21 {x0 x1 x2 x3 : Value} {st : List Value} {h : AH} : Run M_X9_bestLift 21 [x0, x1, x2, x3] st h = Run M_X9_bestLift 22 [x0, x1, x2, x3] (.int (nI 0) :: st) h := R_iconst d_X9_bestLift_21 (by decide)
theorem d_X9_bestLift_22 : decode (mB M_X9_bestLift) 22 = .ok (.istore_n 2, 1) := by decide +kernel
theorem r_X9_bestLift_22 {x0 x1 x2 x3 : Value} {a : Int32} {st : List Value} {h : AH} (hc : x1.category = 1) : Run M_X9_bestLift 22 [x0, x1, x2, x3] (.int a :: st) h = Run M_X9_bestLift 23 [x0, x1, .int a, x3] st h := R_istore_n d_X9_bestLift_22 (Nat.lt_of_lt_of_le (by decide : 2 < 4) (Nat.le_refl 4)) (catP_of rfl hc)
theorem d_X9_bestLift_23 : decode (mB M_X9_bestLift) 23 = .ok (.iconst 1, 1) := by decide +kernel
theorem r_X9_bestLift_23 {x0 x1 x2 x3 : Value} {st : List Value} {h : AH} : Run M_X9_bestLift 23 [x0, x1, x2, x3] st h = Run M_X9_bestLift 24 [x0, x1, x2, x3] (.int (nI 1) :: st) h := R_iconst d_X9_bestLift_23 (by decide)
theorem d_X9_bestLift_24 : decode (mB M_X9_bestLift) 24 = .ok (.istore_n 3, 1) := by decide +kernel
theorem r_X9_bestLift_24 {x0 x1 x2 x3 : Value} {a : Int32} {st : List Value} {h : AH} (hc : x2.category = 1) : Run M_X9_bestLift 24 [x0, x1, x2, x3] (.int a :: st) h = Run M_X9_bestLift 25 [x0, x1, x2, .int a] st h := R_istore_n d_X9_bestLift_24 (Nat.lt_of_lt_of_le (by decide : 3 < 4) (Nat.le_refl 4)) (catP_of rfl hc)
theorem d_X9_bestLift_25 : decode (mB M_X9_bestLift) 25 = .ok (.iload_n 3, 1) := by decide +kernel
theorem r_X9_bestLift_25 {x0 x1 x2 : Value} {a : Int32} {st : List Value} {h : AH} : Run M_X9_bestLift 25 [x0, x1, x2, .int a] st h = Run M_X9_bestLift 26 [x0, x1, x2, .int a] (.int a :: st) h := R_iload_n d_X9_bestLift_25 rfl
theorem d_X9_bestLift_26 : decode (mB M_X9_bestLift) 26 = .ok (.sipush 420, 3) := by decide +kernel
theorem r_X9_bestLift_26 {x0 x1 x2 x3 : Value} {st : List Value} {h : AH} : Run M_X9_bestLift 26 [x0, x1, x2, x3] st h = Run M_X9_bestLift 29 [x0, x1, x2, x3] (.int (nI 420) :: st) h := R_sipush d_X9_bestLift_26 (by decide)
theorem d_X9_bestLift_29 : decode (mB M_X9_bestLift) 29 = .ok (.if_icmp .gt 31, 3) := by decide +kernel
theorem r_X9_bestLift_29 {x0 x1 x2 x3 : Value} {x y : Int32} {st : List Value} {h : AH} : Run M_X9_bestLift 29 [x0, x1, x2, x3] (.int y :: .int x :: st) h = if y < x then Run M_X9_bestLift 60 [x0, x1, x2, x3] st h else Run M_X9_bestLift 32 [x0, x1, x2, x3] st h := R_icmp_gt d_X9_bestLift_29 (by decide)
theorem d_X9_bestLift_32 : decode (mB M_X9_bestLift) 32 = .ok (.aload_n 0, 1) := by decide +kernel
theorem r_X9_bestLift_32 {x1 x2 x3 : Value} {a : Nat} {st : List Value} {h : AH} : Run M_X9_bestLift 32 [.ref a, x1, x2, x3] st h = Run M_X9_bestLift 33 [.ref a, x1, x2, x3] (.ref a :: st) h := R_aload_n d_X9_bestLift_32 rfl
theorem d_X9_bestLift_33 : decode (mB M_X9_bestLift) 33 = .ok (.iload_n 3, 1) := by decide +kernel
theorem r_X9_bestLift_33 {x0 x1 x2 : Value} {a : Int32} {st : List Value} {h : AH} : Run M_X9_bestLift 33 [x0, x1, x2, .int a] st h = Run M_X9_bestLift 34 [x0, x1, x2, .int a] (.int a :: st) h := R_iload_n d_X9_bestLift_33 rfl
theorem d_X9_bestLift_34 : decode (mB M_X9_bestLift) 34 = .ok (.iload_n 1, 1) := by decide +kernel
theorem r_X9_bestLift_34 {x0 x2 x3 : Value} {a : Int32} {st : List Value} {h : AH} : Run M_X9_bestLift 34 [x0, .int a, x2, x3] st h = Run M_X9_bestLift 35 [x0, .int a, x2, x3] (.int a :: st) h := R_iload_n d_X9_bestLift_34 rfl
theorem d_X9_bestLift_35 : decode (mB M_X9_bestLift) 35 = .ok (.invokevirtual 242, 3) := by decide +kernel
theorem r_X9_bestLift_35 {x0 x1 x2 x3 : Value} {p0 : Int32} {p1 : Int32} {a : Nat} {h : AH} : Run M_X9_bestLift 35 [x0, x1, x2, x3] (.int p1 :: .int p0 :: .ref a :: []) h = if refO h 9 (some (.ref a)) = true then (if (Call M_X9_liftCost h [.ref a, .int p0, .int p1]).isSome = true then Run M_X9_bestLift 38 [x0, x1, x2, x3] (rL (Call M_X9_liftCost h [.ref a, .int p0, .int p1]) ++ []) (cH (Call M_X9_liftCost h [.ref a, .int p0, .int p1])) else none) else none := R_virt d_X9_bestLift_35 rfl rfl rfl rfl rfl (Nat.le_of_ble_eq_true rfl)
theorem d_X9_bestLift_38 : decode (mB M_X9_bestLift) 38 = .ok (.aload_n 0, 1) := by decide +kernel
theorem r_X9_bestLift_38 {x1 x2 x3 : Value} {a : Nat} {st : List Value} {h : AH} : Run M_X9_bestLift 38 [.ref a, x1, x2, x3] st h = Run M_X9_bestLift 39 [.ref a, x1, x2, x3] (.ref a :: st) h := R_aload_n d_X9_bestLift_38 rfl
theorem d_X9_bestLift_39 : decode (mB M_X9_bestLift) 39 = .ok (.iload_n 2, 1) := by decide +kernel
theorem r_X9_bestLift_39 {x0 x1 x3 : Value} {a : Int32} {st : List Value} {h : AH} : Run M_X9_bestLift 39 [x0, x1, .int a, x3] st h = Run M_X9_bestLift 40 [x0, x1, .int a, x3] (.int a :: st) h := R_iload_n d_X9_bestLift_39 rfl
theorem d_X9_bestLift_40 : decode (mB M_X9_bestLift) 40 = .ok (.iload_n 1, 1) := by decide +kernel
theorem r_X9_bestLift_40 {x0 x2 x3 : Value} {a : Int32} {st : List Value} {h : AH} : Run M_X9_bestLift 40 [x0, .int a, x2, x3] st h = Run M_X9_bestLift 41 [x0, .int a, x2, x3] (.int a :: st) h := R_iload_n d_X9_bestLift_40 rfl
theorem d_X9_bestLift_41 : decode (mB M_X9_bestLift) 41 = .ok (.invokevirtual 242, 3) := by decide +kernel
theorem r_X9_bestLift_41 {x0 x1 x2 x3 : Value} {p0 : Int32} {p1 : Int32} {a : Nat} {w0 : Value} {h : AH} : Run M_X9_bestLift 41 [x0, x1, x2, x3] (.int p1 :: .int p0 :: .ref a :: [w0]) h = if refO h 9 (some (.ref a)) = true then (if (Call M_X9_liftCost h [.ref a, .int p0, .int p1]).isSome = true then Run M_X9_bestLift 44 [x0, x1, x2, x3] (rL (Call M_X9_liftCost h [.ref a, .int p0, .int p1]) ++ [w0]) (cH (Call M_X9_liftCost h [.ref a, .int p0, .int p1])) else none) else none := R_virt d_X9_bestLift_41 rfl rfl rfl rfl rfl (Nat.le_of_ble_eq_true rfl)
theorem d_X9_bestLift_44 : decode (mB M_X9_bestLift) 44 = .ok (.lcmp, 1) := by decide +kernel
theorem r_X9_bestLift_44 {x0 x1 x2 x3 : Value} {x y : Int64} {st : List Value} {h : AH} : Run M_X9_bestLift 44 [x0, x1, x2, x3] (.long y :: .long x :: st) h = Run M_X9_bestLift 45 [x0, x1, x2, x3] (.int (lg_cmp x y) :: st) h := R_lcmp d_X9_bestLift_44
theorem d_X9_bestLift_45 : decode (mB M_X9_bestLift) 45 = .ok (.ifCond .ge 7, 3) := by decide +kernel
theorem r_X9_bestLift_45 {x0 x1 x2 x3 : Value} {x : Int32} {st : List Value} {h : AH} : Run M_X9_bestLift 45 [x0, x1, x2, x3] (.int x :: st) h = if nI 0 ≤ x then Run M_X9_bestLift 52 [x0, x1, x2, x3] st h else Run M_X9_bestLift 48 [x0, x1, x2, x3] st h := R_if_ge d_X9_bestLift_45 (by decide)
theorem d_X9_bestLift_48 : decode (mB M_X9_bestLift) 48 = .ok (.iload_n 3, 1) := by decide +kernel
theorem r_X9_bestLift_48 {x0 x1 x2 : Value} {a : Int32} {st : List Value} {h : AH} : Run M_X9_bestLift 48 [x0, x1, x2, .int a] st h = Run M_X9_bestLift 49 [x0, x1, x2, .int a] (.int a :: st) h := R_iload_n d_X9_bestLift_48 rfl
theorem d_X9_bestLift_49 : decode (mB M_X9_bestLift) 49 = .ok (.goto 4, 3) := by decide +kernel
theorem r_X9_bestLift_49 {x0 x1 x2 x3 : Value} {st : List Value} {h : AH} : Run M_X9_bestLift 49 [x0, x1, x2, x3] st h = Run M_X9_bestLift 53 [x0, x1, x2, x3] st h := R_goto d_X9_bestLift_49 (by decide)
theorem d_X9_bestLift_52 : decode (mB M_X9_bestLift) 52 = .ok (.iload_n 2, 1) := by decide +kernel
theorem r_X9_bestLift_52 {x0 x1 x3 : Value} {a : Int32} {st : List Value} {h : AH} : Run M_X9_bestLift 52 [x0, x1, .int a, x3] st h = Run M_X9_bestLift 53 [x0, x1, .int a, x3] (.int a :: st) h := R_iload_n d_X9_bestLift_52 rfl
theorem d_X9_bestLift_53 : decode (mB M_X9_bestLift) 53 = .ok (.istore_n 2, 1) := by decide +kernel
theorem r_X9_bestLift_53 {x0 x1 x2 x3 : Value} {a : Int32} {st : List Value} {h : AH} (hc : x1.category = 1) : Run M_X9_bestLift 53 [x0, x1, x2, x3] (.int a :: st) h = Run M_X9_bestLift 54 [x0, x1, .int a, x3] st h := R_istore_n d_X9_bestLift_53 (Nat.lt_of_lt_of_le (by decide : 2 < 4) (Nat.le_refl 4)) (catP_of rfl hc)
theorem d_X9_bestLift_54 : decode (mB M_X9_bestLift) 54 = .ok (.iinc 3 1, 3) := by decide +kernel
theorem r_X9_bestLift_54 {x0 x1 x2 : Value} {a : Int32} {st : List Value} {h : AH} (hc : x2.category = 1) : Run M_X9_bestLift 54 [x0, x1, x2, .int a] st h = Run M_X9_bestLift 57 [x0, x1, x2, .int (a + (nI 1))] st h := R_iinc d_X9_bestLift_54 (by decide) rfl (catP_of rfl hc)
theorem d_X9_bestLift_57 : decode (mB M_X9_bestLift) 57 = .ok (.goto (-32), 3) := by decide +kernel
theorem r_X9_bestLift_57 {x0 x1 x2 x3 : Value} {st : List Value} {h : AH} : Run M_X9_bestLift 57 [x0, x1, x2, x3] st h = Run M_X9_bestLift 25 [x0, x1, x2, x3] st h := R_goto d_X9_bestLift_57 (by decide)
theorem d_X9_bestLift_60 : decode (mB M_X9_bestLift) 60 = .ok (.iload_n 2, 1) := by decide +kernel
theorem r_X9_bestLift_60 {x0 x1 x3 : Value} {a : Int32} {st : List Value} {h : AH} : Run M_X9_bestLift 60 [x0, x1, .int a, x3] st h = Run M_X9_bestLift 61 [x0, x1, .int a, x3] (.int a :: st) h := R_iload_n d_X9_bestLift_60 rfl
theorem d_X9_bestLift_61 : decode (mB M_X9_bestLift) 61 = .ok (.ireturn, 1) := by decide +kernel
theorem r_X9_bestLift_61 {x0 x1 x2 x3 : Value} {v : Int32} {h : AH} : Run M_X9_bestLift 61 [x0, x1, x2, x3] [.int v] h = some (h, some (.int v)) := R_ireturn d_X9_bestLift_61 rfl rfl
theorem d_X9_saved_0 : decode (mB M_X9_saved) 0 = .ok (.iload_n 1, 1) := by decide +kernel
theorem r_X9_saved_0 {x0 x2 x3 : Value} {a : Int32} {st : List Value} {h : AH} : Run M_X9_saved 0 [x0, .int a, x2, x3] st h = Run M_X9_saved 1 [x0, .int a, x2, x3] (.int a :: st) h := R_iload_n d_X9_saved_0 rfl
theorem d_X9_saved_1 : decode (mB M_X9_saved) 1 = .ok (.iconst 0, 1) := by decide +kernel
theorem r_X9_saved_1 {x0 x1 x2 x3 : Value} {st : List Value} {h : AH} : Run M_X9_saved 1 [x0, x1, x2, x3] st h = Run M_X9_saved 2 [x0, x1, x2, x3] (.int (nI 0) :: st) h := R_iconst d_X9_saved_1 (by decide)
theorem d_X9_saved_2 : decode (mB M_X9_saved) 2 = .ok (.bipush 8, 2) := by decide +kernel
theorem r_X9_saved_2 {x0 x1 x2 x3 : Value} {st : List Value} {h : AH} : Run M_X9_saved 2 [x0, x1, x2, x3] st h = Run M_X9_saved 4 [x0, x1, x2, x3] (.int (nI 8) :: st) h := R_bipush d_X9_saved_2 (by decide)
theorem d_X9_saved_4 : decode (mB M_X9_saved) 4 = .ok (.invokestatic 85, 3) := by decide +kernel
theorem r_X9_saved_4 {x0 x1 x2 x3 : Value} {p0 : Int32} {p1 : Int32} {p2 : Int32} {h : AH} : Run M_X9_saved 4 [x0, x1, x2, x3] (.int p2 :: .int p1 :: .int p0 :: []) h = if (Call M_X9_in h [.int p0, .int p1, .int p2]).isSome = true then Run M_X9_saved 7 [x0, x1, x2, x3] (rL (Call M_X9_in h [.int p0, .int p1, .int p2]) ++ []) (cH (Call M_X9_in h [.int p0, .int p1, .int p2])) else none := R_stat d_X9_saved_4 rfl rfl rfl rfl (Nat.le_of_ble_eq_true rfl)
theorem d_X9_saved_7 : decode (mB M_X9_saved) 7 = .ok (.ifCond .eq 12, 3) := by decide +kernel
theorem r_X9_saved_7 {x0 x1 x2 x3 : Value} {x : Int32} {st : List Value} {h : AH} : Run M_X9_saved 7 [x0, x1, x2, x3] (.int x :: st) h = if x = nI 0 then Run M_X9_saved 19 [x0, x1, x2, x3] st h else Run M_X9_saved 10 [x0, x1, x2, x3] st h := R_if_eq d_X9_saved_7 (by decide)
theorem d_X9_saved_10 : decode (mB M_X9_saved) 10 = .ok (.iload_n 2, 1) := by decide +kernel
theorem r_X9_saved_10 {x0 x1 x3 : Value} {a : Int32} {st : List Value} {h : AH} : Run M_X9_saved 10 [x0, x1, .int a, x3] st h = Run M_X9_saved 11 [x0, x1, .int a, x3] (.int a :: st) h := R_iload_n d_X9_saved_10 rfl
theorem d_X9_saved_11 : decode (mB M_X9_saved) 11 = .ok (.iconst 0, 1) := by decide +kernel
theorem r_X9_saved_11 {x0 x1 x2 x3 : Value} {st : List Value} {h : AH} : Run M_X9_saved 11 [x0, x1, x2, x3] st h = Run M_X9_saved 12 [x0, x1, x2, x3] (.int (nI 0) :: st) h := R_iconst d_X9_saved_11 (by decide)
theorem d_X9_saved_12 : decode (mB M_X9_saved) 12 = .ok (.iconst 1, 1) := by decide +kernel
theorem r_X9_saved_12 {x0 x1 x2 x3 : Value} {st : List Value} {h : AH} : Run M_X9_saved 12 [x0, x1, x2, x3] st h = Run M_X9_saved 13 [x0, x1, x2, x3] (.int (nI 1) :: st) h := R_iconst d_X9_saved_12 (by decide)
theorem d_X9_saved_13 : decode (mB M_X9_saved) 13 = .ok (.invokestatic 85, 3) := by decide +kernel
theorem r_X9_saved_13 {x0 x1 x2 x3 : Value} {p0 : Int32} {p1 : Int32} {p2 : Int32} {h : AH} : Run M_X9_saved 13 [x0, x1, x2, x3] (.int p2 :: .int p1 :: .int p0 :: []) h = if (Call M_X9_in h [.int p0, .int p1, .int p2]).isSome = true then Run M_X9_saved 16 [x0, x1, x2, x3] (rL (Call M_X9_in h [.int p0, .int p1, .int p2]) ++ []) (cH (Call M_X9_in h [.int p0, .int p1, .int p2])) else none := R_stat d_X9_saved_13 rfl rfl rfl rfl (Nat.le_of_ble_eq_true rfl)
theorem d_X9_saved_16 : decode (mB M_X9_saved) 16 = .ok (.ifCond .ne 7, 3) := by decide +kernel
theorem r_X9_saved_16 {x0 x1 x2 x3 : Value} {x : Int32} {st : List Value} {h : AH} : Run M_X9_saved 16 [x0, x1, x2, x3] (.int x :: st) h = if x = nI 0 then Run M_X9_saved 19 [x0, x1, x2, x3] st h else Run M_X9_saved 23 [x0, x1, x2, x3] st h := R_if_ne d_X9_saved_16 (by decide)
theorem d_X9_saved_19 : decode (mB M_X9_saved) 19 = .ok (.ldc2_w 216, 3) := by decide +kernel
theorem r_X9_saved_19 {x0 x1 x2 x3 : Value} {st : List Value} {h : AH} : Run M_X9_saved 19 [x0, x1, x2, x3] st h = Run M_X9_saved 22 [x0, x1, x2, x3] (.long (-1000000002) :: st) h := R_ldc2_w d_X9_saved_19 (by decide)
theorem d_X9_saved_22 : decode (mB M_X9_saved) 22 = .ok (.lreturn, 1) := by decide +kernel
theorem r_X9_saved_22 {x0 x1 x2 x3 : Value} {v : Int64} {h : AH} : Run M_X9_saved 22 [x0, x1, x2, x3] [.long v] h = some (h, some (.long v)) := R_lreturn d_X9_saved_22 rfl
theorem d_X9_saved_23 : decode (mB M_X9_saved) 23 = .ok (.aload_n 0, 1) := by decide +kernel
theorem r_X9_saved_23 {x1 x2 x3 : Value} {a : Nat} {st : List Value} {h : AH} : Run M_X9_saved 23 [.ref a, x1, x2, x3] st h = Run M_X9_saved 24 [.ref a, x1, x2, x3] (.ref a :: st) h := R_aload_n d_X9_saved_23 rfl
theorem d_X9_saved_24 : decode (mB M_X9_saved) 24 = .ok (.invokevirtual 205, 3) := by decide +kernel
theorem r_X9_saved_24 {x0 x1 x2 x3 : Value} {a : Nat} {h : AH} : Run M_X9_saved 24 [x0, x1, x2, x3] (.ref a :: []) h = if refO h 9 (some (.ref a)) = true then (if (Call M_X9_bestGo h [.ref a]).isSome = true then Run M_X9_saved 27 [x0, x1, x2, x3] (rL (Call M_X9_bestGo h [.ref a]) ++ []) (cH (Call M_X9_bestGo h [.ref a])) else none) else none := R_virt d_X9_saved_24 rfl rfl rfl rfl rfl (Nat.le_of_ble_eq_true rfl)
theorem d_X9_saved_27 : decode (mB M_X9_saved) 27 = .ok (.istore_n 3, 1) := by decide +kernel
theorem r_X9_saved_27 {x0 x1 x2 x3 : Value} {a : Int32} {st : List Value} {h : AH} (hc : x2.category = 1) : Run M_X9_saved 27 [x0, x1, x2, x3] (.int a :: st) h = Run M_X9_saved 28 [x0, x1, x2, .int a] st h := R_istore_n d_X9_saved_27 (Nat.lt_of_lt_of_le (by decide : 3 < 4) (Nat.le_refl 4)) (catP_of rfl hc)
theorem d_X9_saved_28 : decode (mB M_X9_saved) 28 = .ok (.aload_n 0, 1) := by decide +kernel
theorem r_X9_saved_28 {x1 x2 x3 : Value} {a : Nat} {st : List Value} {h : AH} : Run M_X9_saved 28 [.ref a, x1, x2, x3] st h = Run M_X9_saved 29 [.ref a, x1, x2, x3] (.ref a :: st) h := R_aload_n d_X9_saved_28 rfl
theorem d_X9_saved_29 : decode (mB M_X9_saved) 29 = .ok (.iload_n 3, 1) := by decide +kernel
theorem r_X9_saved_29 {x0 x1 x2 : Value} {a : Int32} {st : List Value} {h : AH} : Run M_X9_saved 29 [x0, x1, x2, .int a] st h = Run M_X9_saved 30 [x0, x1, x2, .int a] (.int a :: st) h := R_iload_n d_X9_saved_29 rfl
theorem d_X9_saved_30 : decode (mB M_X9_saved) 30 = .ok (.invokevirtual 238, 3) := by decide +kernel
theorem r_X9_saved_30 {x0 x1 x2 x3 : Value} {p0 : Int32} {a : Nat} {h : AH} : Run M_X9_saved 30 [x0, x1, x2, x3] (.int p0 :: .ref a :: []) h = if refO h 9 (some (.ref a)) = true then (if (Call M_X9_goCost h [.ref a, .int p0]).isSome = true then Run M_X9_saved 33 [x0, x1, x2, x3] (rL (Call M_X9_goCost h [.ref a, .int p0]) ++ []) (cH (Call M_X9_goCost h [.ref a, .int p0])) else none) else none := R_virt d_X9_saved_30 rfl rfl rfl rfl rfl (Nat.le_of_ble_eq_true rfl)
theorem d_X9_saved_33 : decode (mB M_X9_saved) 33 = .ok (.iload_n 1, 1) := by decide +kernel
theorem r_X9_saved_33 {x0 x2 x3 : Value} {a : Int32} {st : List Value} {h : AH} : Run M_X9_saved 33 [x0, .int a, x2, x3] st h = Run M_X9_saved 34 [x0, .int a, x2, x3] (.int a :: st) h := R_iload_n d_X9_saved_33 rfl
theorem d_X9_saved_34 : decode (mB M_X9_saved) 34 = .ok (.i2l, 1) := by decide +kernel
theorem r_X9_saved_34 {x0 x1 x2 x3 : Value} {x : Int32} {st : List Value} {h : AH} : Run M_X9_saved 34 [x0, x1, x2, x3] (.int x :: st) h = Run M_X9_saved 35 [x0, x1, x2, x3] (.long x.toInt64 :: st) h := R_i2l d_X9_saved_34
theorem d_X9_saved_35 : decode (mB M_X9_saved) 35 = .ok (.lmul, 1) := by decide +kernel
theorem r_X9_saved_35 {x0 x1 x2 x3 : Value} {x y : Int64} {st : List Value} {h : AH} : Run M_X9_saved 35 [x0, x1, x2, x3] (.long y :: .long x :: st) h = Run M_X9_saved 36 [x0, x1, x2, x3] (.long (x * y) :: st) h := R_lmul d_X9_saved_35
theorem d_X9_saved_36 : decode (mB M_X9_saved) 36 = .ok (.aload_n 0, 1) := by decide +kernel
theorem r_X9_saved_36 {x1 x2 x3 : Value} {a : Nat} {st : List Value} {h : AH} : Run M_X9_saved 36 [.ref a, x1, x2, x3] st h = Run M_X9_saved 37 [.ref a, x1, x2, x3] (.ref a :: st) h := R_aload_n d_X9_saved_36 rfl
theorem d_X9_saved_37 : decode (mB M_X9_saved) 37 = .ok (.iconst 0, 1) := by decide +kernel
theorem r_X9_saved_37 {x0 x1 x2 x3 : Value} {st : List Value} {h : AH} : Run M_X9_saved 37 [x0, x1, x2, x3] st h = Run M_X9_saved 38 [x0, x1, x2, x3] (.int (nI 0) :: st) h := R_iconst d_X9_saved_37 (by decide)
theorem d_X9_saved_38 : decode (mB M_X9_saved) 38 = .ok (.aload_n 0, 1) := by decide +kernel
theorem r_X9_saved_38 {x1 x2 x3 : Value} {a : Nat} {st : List Value} {h : AH} : Run M_X9_saved 38 [.ref a, x1, x2, x3] st h = Run M_X9_saved 39 [.ref a, x1, x2, x3] (.ref a :: st) h := R_aload_n d_X9_saved_38 rfl
theorem d_X9_saved_39 : decode (mB M_X9_saved) 39 = .ok (.getfield 82, 3) := by decide +kernel
theorem r_X9_saved_39 {x0 x1 x2 x3 : Value} {a : Nat} {st : List Value} {h : AH} : Run M_X9_saved 39 [x0, x1, x2, x3] (.ref a :: st) h = if (gF h a 9 3).isSome = true then Run M_X9_saved 42 [x0, x1, x2, x3] ((gF h a 9 3).getD .null :: st) h else none := R_getfield d_X9_saved_39 rfl
theorem d_X9_saved_42 : decode (mB M_X9_saved) 42 = .ok (.invokevirtual 221, 3) := by decide +kernel
theorem r_X9_saved_42 {x0 x1 x2 x3 : Value} {p0 : Int32} {p1 : Int32} {a : Nat} {w0 : Value} {h : AH} : Run M_X9_saved 42 [x0, x1, x2, x3] (.int p1 :: .int p0 :: .ref a :: [w0]) h = if refO h 9 (some (.ref a)) = true then (if (Call M_X9_whole h [.ref a, .int p0, .int p1]).isSome = true then Run M_X9_saved 45 [x0, x1, x2, x3] (rL (Call M_X9_whole h [.ref a, .int p0, .int p1]) ++ [w0]) (cH (Call M_X9_whole h [.ref a, .int p0, .int p1])) else none) else none := R_virt d_X9_saved_42 rfl rfl rfl rfl rfl (Nat.le_of_ble_eq_true rfl)
theorem d_X9_saved_45 : decode (mB M_X9_saved) 45 = .ok (.ldc2_w 231, 3) := by decide +kernel
theorem r_X9_saved_45 {x0 x1 x2 x3 : Value} {st : List Value} {h : AH} : Run M_X9_saved 45 [x0, x1, x2, x3] st h = Run M_X9_saved 48 [x0, x1, x2, x3] (.long (lN 8) :: st) h := R_ldc2_w d_X9_saved_45 (by decide)
theorem d_X9_saved_48 : decode (mB M_X9_saved) 48 = .ok (.lmul, 1) := by decide +kernel
theorem r_X9_saved_48 {x0 x1 x2 x3 : Value} {x y : Int64} {st : List Value} {h : AH} : Run M_X9_saved 48 [x0, x1, x2, x3] (.long y :: .long x :: st) h = Run M_X9_saved 49 [x0, x1, x2, x3] (.long (x * y) :: st) h := R_lmul d_X9_saved_48
theorem d_X9_saved_49 : decode (mB M_X9_saved) 49 = .ok (.iload_n 2, 1) := by decide +kernel
theorem r_X9_saved_49 {x0 x1 x3 : Value} {a : Int32} {st : List Value} {h : AH} : Run M_X9_saved 49 [x0, x1, .int a, x3] st h = Run M_X9_saved 50 [x0, x1, .int a, x3] (.int a :: st) h := R_iload_n d_X9_saved_49 rfl
theorem d_X9_saved_50 : decode (mB M_X9_saved) 50 = .ok (.invokestatic 225, 3) := by decide +kernel
theorem r_X9_saved_50 {x0 x1 x2 x3 : Value} {p0 : Int64} {p1 : Int64} {p2 : Int32} {h : AH} : Run M_X9_saved 50 [x0, x1, x2, x3] (.int p2 :: .long p1 :: .long p0 :: []) h = if (Call M_X9_share h [.long p0, .long p1, .int p2]).isSome = true then Run M_X9_saved 53 [x0, x1, x2, x3] (rL (Call M_X9_share h [.long p0, .long p1, .int p2]) ++ []) (cH (Call M_X9_share h [.long p0, .long p1, .int p2])) else none := R_stat d_X9_saved_50 rfl rfl rfl rfl (Nat.le_of_ble_eq_true rfl)
theorem d_X9_saved_53 : decode (mB M_X9_saved) 53 = .ok (.lreturn, 1) := by decide +kernel
theorem r_X9_saved_53 {x0 x1 x2 x3 : Value} {v : Int64} {h : AH} : Run M_X9_saved 53 [x0, x1, x2, x3] [.long v] h = some (h, some (.long v)) := R_lreturn d_X9_saved_53 rfl
theorem d_X9_apartBy_0 : decode (mB M_X9_apartBy) 0 = .ok (.bipush 99, 2) := by decide +kernel
theorem r_X9_apartBy_0 {x0 x1 x2 x3 x4 x5 x6 : Value} {st : List Value} {h : AH} : Run M_X9_apartBy 0 [x0, x1, x2, x3, x4, x5, x6] st h = Run M_X9_apartBy 2 [x0, x1, x2, x3, x4, x5, x6] (.int (nI 99) :: st) h := R_bipush d_X9_apartBy_0 (by decide)
theorem d_X9_apartBy_2 : decode (mB M_X9_apartBy) 2 = .ok (.istore_n 3, 1) := by decide +kernel
theorem r_X9_apartBy_2 {x0 x1 x2 x3 x4 x5 x6 : Value} {a : Int32} {st : List Value} {h : AH} (hc : x2.category = 1) : Run M_X9_apartBy 2 [x0, x1, x2, x3, x4, x5, x6] (.int a :: st) h = Run M_X9_apartBy 3 [x0, x1, x2, .int a, x4, x5, x6] st h := R_istore_n d_X9_apartBy_2 (Nat.lt_of_lt_of_le (by decide : 3 < 7) (Nat.le_refl 7)) (catP_of rfl hc)
theorem d_X9_apartBy_3 : decode (mB M_X9_apartBy) 3 = .ok (.iconst 0, 1) := by decide +kernel
theorem r_X9_apartBy_3 {x0 x1 x2 x3 x4 x5 x6 : Value} {st : List Value} {h : AH} : Run M_X9_apartBy 3 [x0, x1, x2, x3, x4, x5, x6] st h = Run M_X9_apartBy 4 [x0, x1, x2, x3, x4, x5, x6] (.int (nI 0) :: st) h := R_iconst d_X9_apartBy_3 (by decide)
theorem d_X9_apartBy_4 : decode (mB M_X9_apartBy) 4 = .ok (.istore 4, 2) := by decide +kernel
theorem r_X9_apartBy_4 {x0 x1 x2 x3 x4 x5 x6 : Value} {a : Int32} {st : List Value} {h : AH} (hc : x3.category = 1) : Run M_X9_apartBy 4 [x0, x1, x2, x3, x4, x5, x6] (.int a :: st) h = Run M_X9_apartBy 6 [x0, x1, x2, x3, .int a, x5, x6] st h := R_istore d_X9_apartBy_4 (Nat.lt_of_lt_of_le (by decide : 4 < 7) (Nat.le_refl 7)) (catP_of rfl hc)
theorem d_X9_apartBy_6 : decode (mB M_X9_apartBy) 6 = .ok (.iconst 0, 1) := by decide +kernel
theorem r_X9_apartBy_6 {x0 x1 x2 x3 x4 x5 x6 : Value} {st : List Value} {h : AH} : Run M_X9_apartBy 6 [x0, x1, x2, x3, x4, x5, x6] st h = Run M_X9_apartBy 7 [x0, x1, x2, x3, x4, x5, x6] (.int (nI 0) :: st) h := R_iconst d_X9_apartBy_6 (by decide)
theorem d_X9_apartBy_7 : decode (mB M_X9_apartBy) 7 = .ok (.istore 5, 2) := by decide +kernel
theorem r_X9_apartBy_7 {x0 x1 x2 x3 x4 x5 x6 : Value} {a : Int32} {st : List Value} {h : AH} (hc : x4.category = 1) : Run M_X9_apartBy 7 [x0, x1, x2, x3, x4, x5, x6] (.int a :: st) h = Run M_X9_apartBy 9 [x0, x1, x2, x3, x4, .int a, x6] st h := R_istore d_X9_apartBy_7 (Nat.lt_of_lt_of_le (by decide : 5 < 7) (Nat.le_refl 7)) (catP_of rfl hc)
theorem d_X9_apartBy_9 : decode (mB M_X9_apartBy) 9 = .ok (.iload 5, 2) := by decide +kernel
theorem r_X9_apartBy_9 {x0 x1 x2 x3 x4 x6 : Value} {a : Int32} {st : List Value} {h : AH} : Run M_X9_apartBy 9 [x0, x1, x2, x3, x4, .int a, x6] st h = Run M_X9_apartBy 11 [x0, x1, x2, x3, x4, .int a, x6] (.int a :: st) h := R_iload d_X9_apartBy_9 rfl
theorem d_X9_apartBy_11 : decode (mB M_X9_apartBy) 11 = .ok (.aload_n 0, 1) := by decide +kernel
theorem r_X9_apartBy_11 {x1 x2 x3 x4 x5 x6 : Value} {a : Nat} {st : List Value} {h : AH} : Run M_X9_apartBy 11 [.ref a, x1, x2, x3, x4, x5, x6] st h = Run M_X9_apartBy 12 [.ref a, x1, x2, x3, x4, x5, x6] (.ref a :: st) h := R_aload_n d_X9_apartBy_11 rfl
theorem d_X9_apartBy_12 : decode (mB M_X9_apartBy) 12 = .ok (.getfield 89, 3) := by decide +kernel
theorem r_X9_apartBy_12 {x0 x1 x2 x3 x4 x5 x6 : Value} {a : Nat} {st : List Value} {h : AH} : Run M_X9_apartBy 12 [x0, x1, x2, x3, x4, x5, x6] (.ref a :: st) h = if (gF h a 9 9).isSome = true then Run M_X9_apartBy 15 [x0, x1, x2, x3, x4, x5, x6] ((gF h a 9 9).getD .null :: st) h else none := R_getfield d_X9_apartBy_12 rfl
theorem d_X9_apartBy_15 : decode (mB M_X9_apartBy) 15 = .ok (.if_icmp .ge 71, 3) := by decide +kernel
theorem r_X9_apartBy_15 {x0 x1 x2 x3 x4 x5 x6 : Value} {x y : Int32} {st : List Value} {h : AH} : Run M_X9_apartBy 15 [x0, x1, x2, x3, x4, x5, x6] (.int y :: .int x :: st) h = if y ≤ x then Run M_X9_apartBy 86 [x0, x1, x2, x3, x4, x5, x6] st h else Run M_X9_apartBy 18 [x0, x1, x2, x3, x4, x5, x6] st h := R_icmp_ge d_X9_apartBy_15 (by decide)
theorem d_X9_apartBy_18 : decode (mB M_X9_apartBy) 18 = .ok (.iload_n 2, 1) := by decide +kernel
theorem r_X9_apartBy_18 {x0 x1 x3 x4 x5 x6 : Value} {a : Int32} {st : List Value} {h : AH} : Run M_X9_apartBy 18 [x0, x1, .int a, x3, x4, x5, x6] st h = Run M_X9_apartBy 19 [x0, x1, .int a, x3, x4, x5, x6] (.int a :: st) h := R_iload_n d_X9_apartBy_18 rfl
theorem d_X9_apartBy_19 : decode (mB M_X9_apartBy) 19 = .ok (.iload 5, 2) := by decide +kernel
theorem r_X9_apartBy_19 {x0 x1 x2 x3 x4 x6 : Value} {a : Int32} {st : List Value} {h : AH} : Run M_X9_apartBy 19 [x0, x1, x2, x3, x4, .int a, x6] st h = Run M_X9_apartBy 21 [x0, x1, x2, x3, x4, .int a, x6] (.int a :: st) h := R_iload d_X9_apartBy_19 rfl
theorem d_X9_apartBy_21 : decode (mB M_X9_apartBy) 21 = .ok (.invokestatic 245, 3) := by decide +kernel
theorem r_X9_apartBy_21 {x0 x1 x2 x3 x4 x5 x6 : Value} {p0 : Int32} {p1 : Int32} {h : AH} : Run M_X9_apartBy 21 [x0, x1, x2, x3, x4, x5, x6] (.int p1 :: .int p0 :: []) h = if (Call M_X9_has h [.int p0, .int p1]).isSome = true then Run M_X9_apartBy 24 [x0, x1, x2, x3, x4, x5, x6] (rL (Call M_X9_has h [.int p0, .int p1]) ++ []) (cH (Call M_X9_has h [.int p0, .int p1])) else none := R_stat d_X9_apartBy_21 rfl rfl rfl rfl (Nat.le_of_ble_eq_true rfl)
theorem d_X9_apartBy_24 : decode (mB M_X9_apartBy) 24 = .ok (.ifCond .eq 7, 3) := by decide +kernel
theorem r_X9_apartBy_24 {x0 x1 x2 x3 x4 x5 x6 : Value} {x : Int32} {st : List Value} {h : AH} : Run M_X9_apartBy 24 [x0, x1, x2, x3, x4, x5, x6] (.int x :: st) h = if x = nI 0 then Run M_X9_apartBy 31 [x0, x1, x2, x3, x4, x5, x6] st h else Run M_X9_apartBy 27 [x0, x1, x2, x3, x4, x5, x6] st h := R_if_eq d_X9_apartBy_24 (by decide)
theorem d_X9_apartBy_27 : decode (mB M_X9_apartBy) 27 = .ok (.iconst 0, 1) := by decide +kernel
theorem r_X9_apartBy_27 {x0 x1 x2 x3 x4 x5 x6 : Value} {st : List Value} {h : AH} : Run M_X9_apartBy 27 [x0, x1, x2, x3, x4, x5, x6] st h = Run M_X9_apartBy 28 [x0, x1, x2, x3, x4, x5, x6] (.int (nI 0) :: st) h := R_iconst d_X9_apartBy_27 (by decide)
theorem d_X9_apartBy_28 : decode (mB M_X9_apartBy) 28 = .ok (.goto 21, 3) := by decide +kernel
theorem r_X9_apartBy_28 {x0 x1 x2 x3 x4 x5 x6 : Value} {st : List Value} {h : AH} : Run M_X9_apartBy 28 [x0, x1, x2, x3, x4, x5, x6] st h = Run M_X9_apartBy 49 [x0, x1, x2, x3, x4, x5, x6] st h := R_goto d_X9_apartBy_28 (by decide)
theorem d_X9_apartBy_31 : decode (mB M_X9_apartBy) 31 = .ok (.aload_n 0, 1) := by decide +kernel
theorem r_X9_apartBy_31 {x1 x2 x3 x4 x5 x6 : Value} {a : Nat} {st : List Value} {h : AH} : Run M_X9_apartBy 31 [.ref a, x1, x2, x3, x4, x5, x6] st h = Run M_X9_apartBy 32 [.ref a, x1, x2, x3, x4, x5, x6] (.ref a :: st) h := R_aload_n d_X9_apartBy_31 rfl
theorem d_X9_apartBy_32 : decode (mB M_X9_apartBy) 32 = .ok (.getfield 7, 3) := by decide +kernel
theorem r_X9_apartBy_32 {x0 x1 x2 x3 x4 x5 x6 : Value} {a : Nat} {st : List Value} {h : AH} : Run M_X9_apartBy 32 [x0, x1, x2, x3, x4, x5, x6] (.ref a :: st) h = if (gF h a 9 0).isSome = true then Run M_X9_apartBy 35 [x0, x1, x2, x3, x4, x5, x6] ((gF h a 9 0).getD .null :: st) h else none := R_getfield d_X9_apartBy_32 rfl
theorem d_X9_apartBy_35 : decode (mB M_X9_apartBy) 35 = .ok (.iconst 5, 1) := by decide +kernel
theorem r_X9_apartBy_35 {x0 x1 x2 x3 x4 x5 x6 : Value} {st : List Value} {h : AH} : Run M_X9_apartBy 35 [x0, x1, x2, x3, x4, x5, x6] st h = Run M_X9_apartBy 36 [x0, x1, x2, x3, x4, x5, x6] (.int (nI 5) :: st) h := R_iconst d_X9_apartBy_35 (by decide)
theorem d_X9_apartBy_36 : decode (mB M_X9_apartBy) 36 = .ok (.iconst 2, 1) := by decide +kernel
theorem r_X9_apartBy_36 {x0 x1 x2 x3 x4 x5 x6 : Value} {st : List Value} {h : AH} : Run M_X9_apartBy 36 [x0, x1, x2, x3, x4, x5, x6] st h = Run M_X9_apartBy 37 [x0, x1, x2, x3, x4, x5, x6] (.int (nI 2) :: st) h := R_iconst d_X9_apartBy_36 (by decide)
theorem d_X9_apartBy_37 : decode (mB M_X9_apartBy) 37 = .ok (.iload 5, 2) := by decide +kernel
theorem r_X9_apartBy_37 {x0 x1 x2 x3 x4 x6 : Value} {a : Int32} {st : List Value} {h : AH} : Run M_X9_apartBy 37 [x0, x1, x2, x3, x4, .int a, x6] st h = Run M_X9_apartBy 39 [x0, x1, x2, x3, x4, .int a, x6] (.int a :: st) h := R_iload d_X9_apartBy_37 rfl
theorem d_X9_apartBy_39 : decode (mB M_X9_apartBy) 39 = .ok (.imul, 1) := by decide +kernel
theorem r_X9_apartBy_39 {x0 x1 x2 x3 x4 x5 x6 : Value} {x y : Int32} {st : List Value} {h : AH} : Run M_X9_apartBy 39 [x0, x1, x2, x3, x4, x5, x6] (.int y :: .int x :: st) h = Run M_X9_apartBy 40 [x0, x1, x2, x3, x4, x5, x6] (.int (x * y) :: st) h := R_imul d_X9_apartBy_39
theorem d_X9_apartBy_40 : decode (mB M_X9_apartBy) 40 = .ok (.iadd, 1) := by decide +kernel
theorem r_X9_apartBy_40 {x0 x1 x2 x3 x4 x5 x6 : Value} {x y : Int32} {st : List Value} {h : AH} : Run M_X9_apartBy 40 [x0, x1, x2, x3, x4, x5, x6] (.int y :: .int x :: st) h = Run M_X9_apartBy 41 [x0, x1, x2, x3, x4, x5, x6] (.int (x + y) :: st) h := R_iadd d_X9_apartBy_40
theorem d_X9_apartBy_41 : decode (mB M_X9_apartBy) 41 = .ok (.iload_n 1, 1) := by decide +kernel
theorem r_X9_apartBy_41 {x0 x2 x3 x4 x5 x6 : Value} {a : Int32} {st : List Value} {h : AH} : Run M_X9_apartBy 41 [x0, .int a, x2, x3, x4, x5, x6] st h = Run M_X9_apartBy 42 [x0, .int a, x2, x3, x4, x5, x6] (.int a :: st) h := R_iload_n d_X9_apartBy_41 rfl
theorem d_X9_apartBy_42 : decode (mB M_X9_apartBy) 42 = .ok (.iload 5, 2) := by decide +kernel
theorem r_X9_apartBy_42 {x0 x1 x2 x3 x4 x6 : Value} {a : Int32} {st : List Value} {h : AH} : Run M_X9_apartBy 42 [x0, x1, x2, x3, x4, .int a, x6] st h = Run M_X9_apartBy 44 [x0, x1, x2, x3, x4, .int a, x6] (.int a :: st) h := R_iload d_X9_apartBy_42 rfl
theorem d_X9_apartBy_44 : decode (mB M_X9_apartBy) 44 = .ok (.ishr, 1) := by decide +kernel
theorem r_X9_apartBy_44 {x0 x1 x2 x3 x4 x5 x6 : Value} {x y : Int32} {st : List Value} {h : AH} : Run M_X9_apartBy 44 [x0, x1, x2, x3, x4, x5, x6] (.int y :: .int x :: st) h = Run M_X9_apartBy 45 [x0, x1, x2, x3, x4, x5, x6] (.int (x >>> (y &&& 31)) :: st) h := R_ishr d_X9_apartBy_44
theorem d_X9_apartBy_45 : decode (mB M_X9_apartBy) 45 = .ok (.iconst 1, 1) := by decide +kernel
theorem r_X9_apartBy_45 {x0 x1 x2 x3 x4 x5 x6 : Value} {st : List Value} {h : AH} : Run M_X9_apartBy 45 [x0, x1, x2, x3, x4, x5, x6] st h = Run M_X9_apartBy 46 [x0, x1, x2, x3, x4, x5, x6] (.int (nI 1) :: st) h := R_iconst d_X9_apartBy_45 (by decide)
theorem d_X9_apartBy_46 : decode (mB M_X9_apartBy) 46 = .ok (.iand, 1) := by decide +kernel
theorem r_X9_apartBy_46 {x0 x1 x2 x3 x4 x5 x6 : Value} {x y : Int32} {st : List Value} {h : AH} : Run M_X9_apartBy 46 [x0, x1, x2, x3, x4, x5, x6] (.int y :: .int x :: st) h = Run M_X9_apartBy 47 [x0, x1, x2, x3, x4, x5, x6] (.int (x &&& y) :: st) h := R_iand d_X9_apartBy_46
theorem d_X9_apartBy_47 : decode (mB M_X9_apartBy) 47 = .ok (.iadd, 1) := by decide +kernel
theorem r_X9_apartBy_47 {x0 x1 x2 x3 x4 x5 x6 : Value} {x y : Int32} {st : List Value} {h : AH} : Run M_X9_apartBy 47 [x0, x1, x2, x3, x4, x5, x6] (.int y :: .int x :: st) h = Run M_X9_apartBy 48 [x0, x1, x2, x3, x4, x5, x6] (.int (x + y) :: st) h := R_iadd d_X9_apartBy_47
theorem d_X9_apartBy_48 : decode (mB M_X9_apartBy) 48 = .ok (.iaload, 1) := by decide +kernel
theorem r_X9_apartBy_48 {x0 x1 x2 x3 x4 x5 x6 : Value} {a : Nat} {i : Int32} {st : List Value} {h : AH} : Run M_X9_apartBy 48 [x0, x1, x2, x3, x4, x5, x6] (.int i :: .ref a :: st) h = if (gI 0 h a i).isSome = true then Run M_X9_apartBy 49 [x0, x1, x2, x3, x4, x5, x6] (.int ((gI 0 h a i).getD 0) :: st) h else none := R_iaload d_X9_apartBy_48
theorem d_X9_apartBy_49 : decode (mB M_X9_apartBy) 49 = .ok (.istore 6, 2) := by decide +kernel
theorem r_X9_apartBy_49 {x0 x1 x2 x3 x4 x5 x6 : Value} {a : Int32} {st : List Value} {h : AH} (hc : x5.category = 1) : Run M_X9_apartBy 49 [x0, x1, x2, x3, x4, x5, x6] (.int a :: st) h = Run M_X9_apartBy 51 [x0, x1, x2, x3, x4, x5, .int a] st h := R_istore d_X9_apartBy_49 (Nat.lt_of_lt_of_le (by decide : 6 < 7) (Nat.le_refl 7)) (catP_of rfl hc)
theorem d_X9_apartBy_51 : decode (mB M_X9_apartBy) 51 = .ok (.iload 6, 2) := by decide +kernel
theorem r_X9_apartBy_51 {x0 x1 x2 x3 x4 x5 : Value} {a : Int32} {st : List Value} {h : AH} : Run M_X9_apartBy 51 [x0, x1, x2, x3, x4, x5, .int a] st h = Run M_X9_apartBy 53 [x0, x1, x2, x3, x4, x5, .int a] (.int a :: st) h := R_iload d_X9_apartBy_51 rfl
theorem d_X9_apartBy_53 : decode (mB M_X9_apartBy) 53 = .ok (.iload_n 3, 1) := by decide +kernel
theorem r_X9_apartBy_53 {x0 x1 x2 x4 x5 x6 : Value} {a : Int32} {st : List Value} {h : AH} : Run M_X9_apartBy 53 [x0, x1, x2, .int a, x4, x5, x6] st h = Run M_X9_apartBy 54 [x0, x1, x2, .int a, x4, x5, x6] (.int a :: st) h := R_iload_n d_X9_apartBy_53 rfl
theorem d_X9_apartBy_54 : decode (mB M_X9_apartBy) 54 = .ok (.if_icmp .ge 8, 3) := by decide +kernel
theorem r_X9_apartBy_54 {x0 x1 x2 x3 x4 x5 x6 : Value} {x y : Int32} {st : List Value} {h : AH} : Run M_X9_apartBy 54 [x0, x1, x2, x3, x4, x5, x6] (.int y :: .int x :: st) h = if y ≤ x then Run M_X9_apartBy 62 [x0, x1, x2, x3, x4, x5, x6] st h else Run M_X9_apartBy 57 [x0, x1, x2, x3, x4, x5, x6] st h := R_icmp_ge d_X9_apartBy_54 (by decide)
theorem d_X9_apartBy_57 : decode (mB M_X9_apartBy) 57 = .ok (.iload 6, 2) := by decide +kernel
theorem r_X9_apartBy_57 {x0 x1 x2 x3 x4 x5 : Value} {a : Int32} {st : List Value} {h : AH} : Run M_X9_apartBy 57 [x0, x1, x2, x3, x4, x5, .int a] st h = Run M_X9_apartBy 59 [x0, x1, x2, x3, x4, x5, .int a] (.int a :: st) h := R_iload d_X9_apartBy_57 rfl
theorem d_X9_apartBy_59 : decode (mB M_X9_apartBy) 59 = .ok (.goto 4, 3) := by decide +kernel
theorem r_X9_apartBy_59 {x0 x1 x2 x3 x4 x5 x6 : Value} {st : List Value} {h : AH} : Run M_X9_apartBy 59 [x0, x1, x2, x3, x4, x5, x6] st h = Run M_X9_apartBy 63 [x0, x1, x2, x3, x4, x5, x6] st h := R_goto d_X9_apartBy_59 (by decide)
theorem d_X9_apartBy_62 : decode (mB M_X9_apartBy) 62 = .ok (.iload_n 3, 1) := by decide +kernel
theorem r_X9_apartBy_62 {x0 x1 x2 x4 x5 x6 : Value} {a : Int32} {st : List Value} {h : AH} : Run M_X9_apartBy 62 [x0, x1, x2, .int a, x4, x5, x6] st h = Run M_X9_apartBy 63 [x0, x1, x2, .int a, x4, x5, x6] (.int a :: st) h := R_iload_n d_X9_apartBy_62 rfl
theorem d_X9_apartBy_63 : decode (mB M_X9_apartBy) 63 = .ok (.istore_n 3, 1) := by decide +kernel
theorem r_X9_apartBy_63 {x0 x1 x2 x3 x4 x5 x6 : Value} {a : Int32} {st : List Value} {h : AH} (hc : x2.category = 1) : Run M_X9_apartBy 63 [x0, x1, x2, x3, x4, x5, x6] (.int a :: st) h = Run M_X9_apartBy 64 [x0, x1, x2, .int a, x4, x5, x6] st h := R_istore_n d_X9_apartBy_63 (Nat.lt_of_lt_of_le (by decide : 3 < 7) (Nat.le_refl 7)) (catP_of rfl hc)
theorem d_X9_apartBy_64 : decode (mB M_X9_apartBy) 64 = .ok (.iload 6, 2) := by decide +kernel
theorem r_X9_apartBy_64 {x0 x1 x2 x3 x4 x5 : Value} {a : Int32} {st : List Value} {h : AH} : Run M_X9_apartBy 64 [x0, x1, x2, x3, x4, x5, .int a] st h = Run M_X9_apartBy 66 [x0, x1, x2, x3, x4, x5, .int a] (.int a :: st) h := R_iload d_X9_apartBy_64 rfl
theorem d_X9_apartBy_66 : decode (mB M_X9_apartBy) 66 = .ok (.iload 4, 2) := by decide +kernel
theorem r_X9_apartBy_66 {x0 x1 x2 x3 x5 x6 : Value} {a : Int32} {st : List Value} {h : AH} : Run M_X9_apartBy 66 [x0, x1, x2, x3, .int a, x5, x6] st h = Run M_X9_apartBy 68 [x0, x1, x2, x3, .int a, x5, x6] (.int a :: st) h := R_iload d_X9_apartBy_66 rfl
theorem d_X9_apartBy_68 : decode (mB M_X9_apartBy) 68 = .ok (.if_icmp .le 8, 3) := by decide +kernel
theorem r_X9_apartBy_68 {x0 x1 x2 x3 x4 x5 x6 : Value} {x y : Int32} {st : List Value} {h : AH} : Run M_X9_apartBy 68 [x0, x1, x2, x3, x4, x5, x6] (.int y :: .int x :: st) h = if x ≤ y then Run M_X9_apartBy 76 [x0, x1, x2, x3, x4, x5, x6] st h else Run M_X9_apartBy 71 [x0, x1, x2, x3, x4, x5, x6] st h := R_icmp_le d_X9_apartBy_68 (by decide)
theorem d_X9_apartBy_71 : decode (mB M_X9_apartBy) 71 = .ok (.iload 6, 2) := by decide +kernel
theorem r_X9_apartBy_71 {x0 x1 x2 x3 x4 x5 : Value} {a : Int32} {st : List Value} {h : AH} : Run M_X9_apartBy 71 [x0, x1, x2, x3, x4, x5, .int a] st h = Run M_X9_apartBy 73 [x0, x1, x2, x3, x4, x5, .int a] (.int a :: st) h := R_iload d_X9_apartBy_71 rfl
theorem d_X9_apartBy_73 : decode (mB M_X9_apartBy) 73 = .ok (.goto 5, 3) := by decide +kernel
theorem r_X9_apartBy_73 {x0 x1 x2 x3 x4 x5 x6 : Value} {st : List Value} {h : AH} : Run M_X9_apartBy 73 [x0, x1, x2, x3, x4, x5, x6] st h = Run M_X9_apartBy 78 [x0, x1, x2, x3, x4, x5, x6] st h := R_goto d_X9_apartBy_73 (by decide)
theorem d_X9_apartBy_76 : decode (mB M_X9_apartBy) 76 = .ok (.iload 4, 2) := by decide +kernel
theorem r_X9_apartBy_76 {x0 x1 x2 x3 x5 x6 : Value} {a : Int32} {st : List Value} {h : AH} : Run M_X9_apartBy 76 [x0, x1, x2, x3, .int a, x5, x6] st h = Run M_X9_apartBy 78 [x0, x1, x2, x3, .int a, x5, x6] (.int a :: st) h := R_iload d_X9_apartBy_76 rfl
theorem d_X9_apartBy_78 : decode (mB M_X9_apartBy) 78 = .ok (.istore 4, 2) := by decide +kernel
theorem r_X9_apartBy_78 {x0 x1 x2 x3 x4 x5 x6 : Value} {a : Int32} {st : List Value} {h : AH} (hc : x3.category = 1) : Run M_X9_apartBy 78 [x0, x1, x2, x3, x4, x5, x6] (.int a :: st) h = Run M_X9_apartBy 80 [x0, x1, x2, x3, .int a, x5, x6] st h := R_istore d_X9_apartBy_78 (Nat.lt_of_lt_of_le (by decide : 4 < 7) (Nat.le_refl 7)) (catP_of rfl hc)
theorem d_X9_apartBy_80 : decode (mB M_X9_apartBy) 80 = .ok (.iinc 5 1, 3) := by decide +kernel
theorem r_X9_apartBy_80 {x0 x1 x2 x3 x4 x6 : Value} {a : Int32} {st : List Value} {h : AH} (hc : x4.category = 1) : Run M_X9_apartBy 80 [x0, x1, x2, x3, x4, .int a, x6] st h = Run M_X9_apartBy 83 [x0, x1, x2, x3, x4, .int (a + (nI 1)), x6] st h := R_iinc d_X9_apartBy_80 (by decide) rfl (catP_of rfl hc)
theorem d_X9_apartBy_83 : decode (mB M_X9_apartBy) 83 = .ok (.goto (-74), 3) := by decide +kernel
theorem r_X9_apartBy_83 {x0 x1 x2 x3 x4 x5 x6 : Value} {st : List Value} {h : AH} : Run M_X9_apartBy 83 [x0, x1, x2, x3, x4, x5, x6] st h = Run M_X9_apartBy 9 [x0, x1, x2, x3, x4, x5, x6] st h := R_goto d_X9_apartBy_83 (by decide)
theorem d_X9_apartBy_86 : decode (mB M_X9_apartBy) 86 = .ok (.aload_n 0, 1) := by decide +kernel
theorem r_X9_apartBy_86 {x1 x2 x3 x4 x5 x6 : Value} {a : Nat} {st : List Value} {h : AH} : Run M_X9_apartBy 86 [.ref a, x1, x2, x3, x4, x5, x6] st h = Run M_X9_apartBy 87 [.ref a, x1, x2, x3, x4, x5, x6] (.ref a :: st) h := R_aload_n d_X9_apartBy_86 rfl
theorem d_X9_apartBy_87 : decode (mB M_X9_apartBy) 87 = .ok (.getfield 89, 3) := by decide +kernel
theorem r_X9_apartBy_87 {x0 x1 x2 x3 x4 x5 x6 : Value} {a : Nat} {st : List Value} {h : AH} : Run M_X9_apartBy 87 [x0, x1, x2, x3, x4, x5, x6] (.ref a :: st) h = if (gF h a 9 9).isSome = true then Run M_X9_apartBy 90 [x0, x1, x2, x3, x4, x5, x6] ((gF h a 9 9).getD .null :: st) h else none := R_getfield d_X9_apartBy_87 rfl
theorem d_X9_apartBy_90 : decode (mB M_X9_apartBy) 90 = .ok (.iconst 2, 1) := by decide +kernel
theorem r_X9_apartBy_90 {x0 x1 x2 x3 x4 x5 x6 : Value} {st : List Value} {h : AH} : Run M_X9_apartBy 90 [x0, x1, x2, x3, x4, x5, x6] st h = Run M_X9_apartBy 91 [x0, x1, x2, x3, x4, x5, x6] (.int (nI 2) :: st) h := R_iconst d_X9_apartBy_90 (by decide)
theorem d_X9_apartBy_91 : decode (mB M_X9_apartBy) 91 = .ok (.if_icmp .ge 7, 3) := by decide +kernel
theorem r_X9_apartBy_91 {x0 x1 x2 x3 x4 x5 x6 : Value} {x y : Int32} {st : List Value} {h : AH} : Run M_X9_apartBy 91 [x0, x1, x2, x3, x4, x5, x6] (.int y :: .int x :: st) h = if y ≤ x then Run M_X9_apartBy 98 [x0, x1, x2, x3, x4, x5, x6] st h else Run M_X9_apartBy 94 [x0, x1, x2, x3, x4, x5, x6] st h := R_icmp_ge d_X9_apartBy_91 (by decide)
theorem d_X9_apartBy_94 : decode (mB M_X9_apartBy) 94 = .ok (.iconst 0, 1) := by decide +kernel
theorem r_X9_apartBy_94 {x0 x1 x2 x3 x4 x5 x6 : Value} {st : List Value} {h : AH} : Run M_X9_apartBy 94 [x0, x1, x2, x3, x4, x5, x6] st h = Run M_X9_apartBy 95 [x0, x1, x2, x3, x4, x5, x6] (.int (nI 0) :: st) h := R_iconst d_X9_apartBy_94 (by decide)
theorem d_X9_apartBy_95 : decode (mB M_X9_apartBy) 95 = .ok (.goto 7, 3) := by decide +kernel
theorem r_X9_apartBy_95 {x0 x1 x2 x3 x4 x5 x6 : Value} {st : List Value} {h : AH} : Run M_X9_apartBy 95 [x0, x1, x2, x3, x4, x5, x6] st h = Run M_X9_apartBy 102 [x0, x1, x2, x3, x4, x5, x6] st h := R_goto d_X9_apartBy_95 (by decide)
theorem d_X9_apartBy_98 : decode (mB M_X9_apartBy) 98 = .ok (.iload 4, 2) := by decide +kernel
theorem r_X9_apartBy_98 {x0 x1 x2 x3 x5 x6 : Value} {a : Int32} {st : List Value} {h : AH} : Run M_X9_apartBy 98 [x0, x1, x2, x3, .int a, x5, x6] st h = Run M_X9_apartBy 100 [x0, x1, x2, x3, .int a, x5, x6] (.int a :: st) h := R_iload d_X9_apartBy_98 rfl
theorem d_X9_apartBy_100 : decode (mB M_X9_apartBy) 100 = .ok (.iload_n 3, 1) := by decide +kernel
theorem r_X9_apartBy_100 {x0 x1 x2 x4 x5 x6 : Value} {a : Int32} {st : List Value} {h : AH} : Run M_X9_apartBy 100 [x0, x1, x2, .int a, x4, x5, x6] st h = Run M_X9_apartBy 101 [x0, x1, x2, .int a, x4, x5, x6] (.int a :: st) h := R_iload_n d_X9_apartBy_100 rfl
theorem d_X9_apartBy_101 : decode (mB M_X9_apartBy) 101 = .ok (.isub, 1) := by decide +kernel
theorem r_X9_apartBy_101 {x0 x1 x2 x3 x4 x5 x6 : Value} {x y : Int32} {st : List Value} {h : AH} : Run M_X9_apartBy 101 [x0, x1, x2, x3, x4, x5, x6] (.int y :: .int x :: st) h = Run M_X9_apartBy 102 [x0, x1, x2, x3, x4, x5, x6] (.int (x - y) :: st) h := R_isub d_X9_apartBy_101
theorem d_X9_apartBy_102 : decode (mB M_X9_apartBy) 102 = .ok (.ireturn, 1) := by decide +kernel
theorem r_X9_apartBy_102 {x0 x1 x2 x3 x4 x5 x6 : Value} {v : Int32} {h : AH} : Run M_X9_apartBy 102 [x0, x1, x2, x3, x4, x5, x6] [.int v] h = some (h, some (.int v)) := R_ireturn d_X9_apartBy_102 rfl rfl
theorem d_X9_apart_0 : decode (mB M_X9_apart) 0 = .ok (.aload_n 0, 1) := by decide +kernel
theorem r_X9_apart_0 {a : Nat} {st : List Value} {h : AH} : Run M_X9_apart 0 [.ref a] st h = Run M_X9_apart 1 [.ref a] (.ref a :: st) h := R_aload_n d_X9_apart_0 rfl
theorem d_X9_apart_1 : decode (mB M_X9_apart) 1 = .ok (.aload_n 0, 1) := by decide +kernel
theorem r_X9_apart_1 {a : Nat} {st : List Value} {h : AH} : Run M_X9_apart 1 [.ref a] st h = Run M_X9_apart 2 [.ref a] (.ref a :: st) h := R_aload_n d_X9_apart_1 rfl
theorem d_X9_apart_2 : decode (mB M_X9_apart) 2 = .ok (.getfield 7, 3) := by decide +kernel
theorem r_X9_apart_2 {x0 : Value} {a : Nat} {st : List Value} {h : AH} : Run M_X9_apart 2 [x0] (.ref a :: st) h = if (gF h a 9 0).isSome = true then Run M_X9_apart 5 [x0] ((gF h a 9 0).getD .null :: st) h else none := R_getfield d_X9_apart_2 rfl
theorem d_X9_apart_5 : decode (mB M_X9_apart) 5 = .ok (.bipush 15, 2) := by decide +kernel
theorem r_X9_apart_5 {x0 : Value} {st : List Value} {h : AH} : Run M_X9_apart 5 [x0] st h = Run M_X9_apart 7 [x0] (.int (nI 15) :: st) h := R_bipush d_X9_apart_5 (by decide)
theorem d_X9_apart_7 : decode (mB M_X9_apart) 7 = .ok (.iaload, 1) := by decide +kernel
theorem r_X9_apart_7 {x0 : Value} {a : Nat} {i : Int32} {st : List Value} {h : AH} : Run M_X9_apart 7 [x0] (.int i :: .ref a :: st) h = if (gI 0 h a i).isSome = true then Run M_X9_apart 8 [x0] (.int ((gI 0 h a i).getD 0) :: st) h else none := R_iaload d_X9_apart_7
theorem d_X9_apart_8 : decode (mB M_X9_apart) 8 = .ok (.iconst 0, 1) := by decide +kernel
theorem r_X9_apart_8 {x0 : Value} {st : List Value} {h : AH} : Run M_X9_apart 8 [x0] st h = Run M_X9_apart 9 [x0] (.int (nI 0) :: st) h := R_iconst d_X9_apart_8 (by decide)
theorem d_X9_apart_9 : decode (mB M_X9_apart) 9 = .ok (.invokevirtual 249, 3) := by decide +kernel
theorem r_X9_apart_9 {x0 : Value} {p0 : Int32} {p1 : Int32} {a : Nat} {h : AH} : Run M_X9_apart 9 [x0] (.int p1 :: .int p0 :: .ref a :: []) h = if refO h 9 (some (.ref a)) = true then (if (Call M_X9_apartBy h [.ref a, .int p0, .int p1]).isSome = true then Run M_X9_apart 12 [x0] (rL (Call M_X9_apartBy h [.ref a, .int p0, .int p1]) ++ []) (cH (Call M_X9_apartBy h [.ref a, .int p0, .int p1])) else none) else none := R_virt d_X9_apart_9 rfl rfl rfl rfl rfl (Nat.le_of_ble_eq_true rfl)
theorem d_X9_apart_12 : decode (mB M_X9_apart) 12 = .ok (.ireturn, 1) := by decide +kernel
theorem r_X9_apart_12 {x0 : Value} {v : Int32} {h : AH} : Run M_X9_apart 12 [x0] [.int v] h = some (h, some (.int v)) := R_ireturn d_X9_apart_12 rfl rfl
theorem d_X9_bestWay_0 : decode (mB M_X9_bestWay) 0 = .ok (.iload_n 1, 1) := by decide +kernel
theorem r_X9_bestWay_0 {x0 x2 x3 : Value} {a : Int32} {st : List Value} {h : AH} : Run M_X9_bestWay 0 [x0, .int a, x2, x3] st h = Run M_X9_bestWay 1 [x0, .int a, x2, x3] (.int a :: st) h := R_iload_n d_X9_bestWay_0 rfl
theorem d_X9_bestWay_1 : decode (mB M_X9_bestWay) 1 = .ok (.iconst 0, 1) := by decide +kernel
theorem r_X9_bestWay_1 {x0 x1 x2 x3 : Value} {st : List Value} {h : AH} : Run M_X9_bestWay 1 [x0, x1, x2, x3] st h = Run M_X9_bestWay 2 [x0, x1, x2, x3] (.int (nI 0) :: st) h := R_iconst d_X9_bestWay_1 (by decide)
theorem d_X9_bestWay_2 : decode (mB M_X9_bestWay) 2 = .ok (.iconst 1, 1) := by decide +kernel
theorem r_X9_bestWay_2 {x0 x1 x2 x3 : Value} {st : List Value} {h : AH} : Run M_X9_bestWay 2 [x0, x1, x2, x3] st h = Run M_X9_bestWay 3 [x0, x1, x2, x3] (.int (nI 1) :: st) h := R_iconst d_X9_bestWay_2 (by decide)
theorem d_X9_bestWay_3 : decode (mB M_X9_bestWay) 3 = .ok (.invokestatic 85, 3) := by decide +kernel
theorem r_X9_bestWay_3 {x0 x1 x2 x3 : Value} {p0 : Int32} {p1 : Int32} {p2 : Int32} {h : AH} : Run M_X9_bestWay 3 [x0, x1, x2, x3] (.int p2 :: .int p1 :: .int p0 :: []) h = if (Call M_X9_in h [.int p0, .int p1, .int p2]).isSome = true then Run M_X9_bestWay 6 [x0, x1, x2, x3] (rL (Call M_X9_in h [.int p0, .int p1, .int p2]) ++ []) (cH (Call M_X9_in h [.int p0, .int p1, .int p2])) else none := R_stat d_X9_bestWay_3 rfl rfl rfl rfl (Nat.le_of_ble_eq_true rfl)
theorem d_X9_bestWay_6 : decode (mB M_X9_bestWay) 6 = .ok (.ifCond .ne 6, 3) := by decide +kernel
theorem r_X9_bestWay_6 {x0 x1 x2 x3 : Value} {x : Int32} {st : List Value} {h : AH} : Run M_X9_bestWay 6 [x0, x1, x2, x3] (.int x :: st) h = if x = nI 0 then Run M_X9_bestWay 9 [x0, x1, x2, x3] st h else Run M_X9_bestWay 12 [x0, x1, x2, x3] st h := R_if_ne d_X9_bestWay_6 (by decide)
theorem d_X9_bestWay_9 : decode (mB M_X9_bestWay) 9 = .ok (.ldc 92, 2) := by decide +kernel
theorem r_X9_bestWay_9 {x0 x1 x2 x3 : Value} {st : List Value} {h : AH} : Run M_X9_bestWay 9 [x0, x1, x2, x3] st h = Run M_X9_bestWay 11 [x0, x1, x2, x3] (.int (-1000000002) :: st) h := R_ldc d_X9_bestWay_9 (by decide)
theorem d_X9_bestWay_11 : decode (mB M_X9_bestWay) 11 = .ok (.ireturn, 1) := by decide +kernel
theorem r_X9_bestWay_11 {x0 x1 x2 x3 : Value} {v : Int32} {h : AH} : Run M_X9_bestWay 11 [x0, x1, x2, x3] [.int v] h = some (h, some (.int v)) := R_ireturn d_X9_bestWay_11 rfl rfl
theorem d_X9_bestWay_12 : decode (mB M_X9_bestWay) 12 = .ok (.iconst 0, 1) := by decide +kernel
theorem r_X9_bestWay_12 {x0 x1 x2 x3 : Value} {st : List Value} {h : AH} : Run M_X9_bestWay 12 [x0, x1, x2, x3] st h = Run M_X9_bestWay 13 [x0, x1, x2, x3] (.int (nI 0) :: st) h := R_iconst d_X9_bestWay_12 (by decide)
theorem d_X9_bestWay_13 : decode (mB M_X9_bestWay) 13 = .ok (.istore_n 2, 1) := by decide +kernel
theorem r_X9_bestWay_13 {x0 x1 x2 x3 : Value} {a : Int32} {st : List Value} {h : AH} (hc : x1.category = 1) : Run M_X9_bestWay 13 [x0, x1, x2, x3] (.int a :: st) h = Run M_X9_bestWay 14 [x0, x1, .int a, x3] st h := R_istore_n d_X9_bestWay_13 (Nat.lt_of_lt_of_le (by decide : 2 < 4) (Nat.le_refl 4)) (catP_of rfl hc)
theorem d_X9_bestWay_14 : decode (mB M_X9_bestWay) 14 = .ok (.iconst 1, 1) := by decide +kernel
theorem r_X9_bestWay_14 {x0 x1 x2 x3 : Value} {st : List Value} {h : AH} : Run M_X9_bestWay 14 [x0, x1, x2, x3] st h = Run M_X9_bestWay 15 [x0, x1, x2, x3] (.int (nI 1) :: st) h := R_iconst d_X9_bestWay_14 (by decide)
theorem d_X9_bestWay_15 : decode (mB M_X9_bestWay) 15 = .ok (.istore_n 3, 1) := by decide +kernel
theorem r_X9_bestWay_15 {x0 x1 x2 x3 : Value} {a : Int32} {st : List Value} {h : AH} (hc : x2.category = 1) : Run M_X9_bestWay 15 [x0, x1, x2, x3] (.int a :: st) h = Run M_X9_bestWay 16 [x0, x1, x2, .int a] st h := R_istore_n d_X9_bestWay_15 (Nat.lt_of_lt_of_le (by decide : 3 < 4) (Nat.le_refl 4)) (catP_of rfl hc)
theorem d_X9_bestWay_16 : decode (mB M_X9_bestWay) 16 = .ok (.iload_n 3, 1) := by decide +kernel
theorem r_X9_bestWay_16 {x0 x1 x2 : Value} {a : Int32} {st : List Value} {h : AH} : Run M_X9_bestWay 16 [x0, x1, x2, .int a] st h = Run M_X9_bestWay 17 [x0, x1, x2, .int a] (.int a :: st) h := R_iload_n d_X9_bestWay_16 rfl
theorem d_X9_bestWay_17 : decode (mB M_X9_bestWay) 17 = .ok (.iconst 1, 1) := by decide +kernel
theorem r_X9_bestWay_17 {x0 x1 x2 x3 : Value} {st : List Value} {h : AH} : Run M_X9_bestWay 17 [x0, x1, x2, x3] st h = Run M_X9_bestWay 18 [x0, x1, x2, x3] (.int (nI 1) :: st) h := R_iconst d_X9_bestWay_17 (by decide)
theorem d_X9_bestWay_18 : decode (mB M_X9_bestWay) 18 = .ok (.aload_n 0, 1) := by decide +kernel
theorem r_X9_bestWay_18 {x1 x2 x3 : Value} {a : Nat} {st : List Value} {h : AH} : Run M_X9_bestWay 18 [.ref a, x1, x2, x3] st h = Run M_X9_bestWay 19 [.ref a, x1, x2, x3] (.ref a :: st) h := R_aload_n d_X9_bestWay_18 rfl
theorem d_X9_bestWay_19 : decode (mB M_X9_bestWay) 19 = .ok (.getfield 89, 3) := by decide +kernel
theorem r_X9_bestWay_19 {x0 x1 x2 x3 : Value} {a : Nat} {st : List Value} {h : AH} : Run M_X9_bestWay 19 [x0, x1, x2, x3] (.ref a :: st) h = if (gF h a 9 9).isSome = true then Run M_X9_bestWay 22 [x0, x1, x2, x3] ((gF h a 9 9).getD .null :: st) h else none := R_getfield d_X9_bestWay_19 rfl
theorem d_X9_bestWay_22 : decode (mB M_X9_bestWay) 22 = .ok (.ishl, 1) := by decide +kernel
theorem r_X9_bestWay_22 {x0 x1 x2 x3 : Value} {x y : Int32} {st : List Value} {h : AH} : Run M_X9_bestWay 22 [x0, x1, x2, x3] (.int y :: .int x :: st) h = Run M_X9_bestWay 23 [x0, x1, x2, x3] (.int (x <<< (y &&& 31)) :: st) h := R_ishl d_X9_bestWay_22
theorem d_X9_bestWay_23 : decode (mB M_X9_bestWay) 23 = .ok (.if_icmp .ge 30, 3) := by decide +kernel
theorem r_X9_bestWay_23 {x0 x1 x2 x3 : Value} {x y : Int32} {st : List Value} {h : AH} : Run M_X9_bestWay 23 [x0, x1, x2, x3] (.int y :: .int x :: st) h = if y ≤ x then Run M_X9_bestWay 53 [x0, x1, x2, x3] st h else Run M_X9_bestWay 26 [x0, x1, x2, x3] st h := R_icmp_ge d_X9_bestWay_23 (by decide)
theorem d_X9_bestWay_26 : decode (mB M_X9_bestWay) 26 = .ok (.aload_n 0, 1) := by decide +kernel
theorem r_X9_bestWay_26 {x1 x2 x3 : Value} {a : Nat} {st : List Value} {h : AH} : Run M_X9_bestWay 26 [.ref a, x1, x2, x3] st h = Run M_X9_bestWay 27 [.ref a, x1, x2, x3] (.ref a :: st) h := R_aload_n d_X9_bestWay_26 rfl
theorem d_X9_bestWay_27 : decode (mB M_X9_bestWay) 27 = .ok (.iload_n 3, 1) := by decide +kernel
theorem r_X9_bestWay_27 {x0 x1 x2 : Value} {a : Int32} {st : List Value} {h : AH} : Run M_X9_bestWay 27 [x0, x1, x2, .int a] st h = Run M_X9_bestWay 28 [x0, x1, x2, .int a] (.int a :: st) h := R_iload_n d_X9_bestWay_27 rfl
theorem d_X9_bestWay_28 : decode (mB M_X9_bestWay) 28 = .ok (.iconst 0, 1) := by decide +kernel
theorem r_X9_bestWay_28 {x0 x1 x2 x3 : Value} {st : List Value} {h : AH} : Run M_X9_bestWay 28 [x0, x1, x2, x3] st h = Run M_X9_bestWay 29 [x0, x1, x2, x3] (.int (nI 0) :: st) h := R_iconst d_X9_bestWay_28 (by decide)
theorem d_X9_bestWay_29 : decode (mB M_X9_bestWay) 29 = .ok (.invokevirtual 249, 3) := by decide +kernel
theorem r_X9_bestWay_29 {x0 x1 x2 x3 : Value} {p0 : Int32} {p1 : Int32} {a : Nat} {h : AH} : Run M_X9_bestWay 29 [x0, x1, x2, x3] (.int p1 :: .int p0 :: .ref a :: []) h = if refO h 9 (some (.ref a)) = true then (if (Call M_X9_apartBy h [.ref a, .int p0, .int p1]).isSome = true then Run M_X9_bestWay 32 [x0, x1, x2, x3] (rL (Call M_X9_apartBy h [.ref a, .int p0, .int p1]) ++ []) (cH (Call M_X9_apartBy h [.ref a, .int p0, .int p1])) else none) else none := R_virt d_X9_bestWay_29 rfl rfl rfl rfl rfl (Nat.le_of_ble_eq_true rfl)
theorem d_X9_bestWay_32 : decode (mB M_X9_bestWay) 32 = .ok (.aload_n 0, 1) := by decide +kernel
theorem r_X9_bestWay_32 {x1 x2 x3 : Value} {a : Nat} {st : List Value} {h : AH} : Run M_X9_bestWay 32 [.ref a, x1, x2, x3] st h = Run M_X9_bestWay 33 [.ref a, x1, x2, x3] (.ref a :: st) h := R_aload_n d_X9_bestWay_32 rfl
theorem d_X9_bestWay_33 : decode (mB M_X9_bestWay) 33 = .ok (.iload_n 2, 1) := by decide +kernel
theorem r_X9_bestWay_33 {x0 x1 x3 : Value} {a : Int32} {st : List Value} {h : AH} : Run M_X9_bestWay 33 [x0, x1, .int a, x3] st h = Run M_X9_bestWay 34 [x0, x1, .int a, x3] (.int a :: st) h := R_iload_n d_X9_bestWay_33 rfl
theorem d_X9_bestWay_34 : decode (mB M_X9_bestWay) 34 = .ok (.iconst 0, 1) := by decide +kernel
theorem r_X9_bestWay_34 {x0 x1 x2 x3 : Value} {st : List Value} {h : AH} : Run M_X9_bestWay 34 [x0, x1, x2, x3] st h = Run M_X9_bestWay 35 [x0, x1, x2, x3] (.int (nI 0) :: st) h := R_iconst d_X9_bestWay_34 (by decide)
theorem d_X9_bestWay_35 : decode (mB M_X9_bestWay) 35 = .ok (.invokevirtual 249, 3) := by decide +kernel
theorem r_X9_bestWay_35 {x0 x1 x2 x3 : Value} {p0 : Int32} {p1 : Int32} {a : Nat} {w0 : Value} {h : AH} : Run M_X9_bestWay 35 [x0, x1, x2, x3] (.int p1 :: .int p0 :: .ref a :: [w0]) h = if refO h 9 (some (.ref a)) = true then (if (Call M_X9_apartBy h [.ref a, .int p0, .int p1]).isSome = true then Run M_X9_bestWay 38 [x0, x1, x2, x3] (rL (Call M_X9_apartBy h [.ref a, .int p0, .int p1]) ++ [w0]) (cH (Call M_X9_apartBy h [.ref a, .int p0, .int p1])) else none) else none := R_virt d_X9_bestWay_35 rfl rfl rfl rfl rfl (Nat.le_of_ble_eq_true rfl)
theorem d_X9_bestWay_38 : decode (mB M_X9_bestWay) 38 = .ok (.if_icmp .ge 7, 3) := by decide +kernel
theorem r_X9_bestWay_38 {x0 x1 x2 x3 : Value} {x y : Int32} {st : List Value} {h : AH} : Run M_X9_bestWay 38 [x0, x1, x2, x3] (.int y :: .int x :: st) h = if y ≤ x then Run M_X9_bestWay 45 [x0, x1, x2, x3] st h else Run M_X9_bestWay 41 [x0, x1, x2, x3] st h := R_icmp_ge d_X9_bestWay_38 (by decide)
theorem d_X9_bestWay_41 : decode (mB M_X9_bestWay) 41 = .ok (.iload_n 3, 1) := by decide +kernel
theorem r_X9_bestWay_41 {x0 x1 x2 : Value} {a : Int32} {st : List Value} {h : AH} : Run M_X9_bestWay 41 [x0, x1, x2, .int a] st h = Run M_X9_bestWay 42 [x0, x1, x2, .int a] (.int a :: st) h := R_iload_n d_X9_bestWay_41 rfl
theorem d_X9_bestWay_42 : decode (mB M_X9_bestWay) 42 = .ok (.goto 4, 3) := by decide +kernel
theorem r_X9_bestWay_42 {x0 x1 x2 x3 : Value} {st : List Value} {h : AH} : Run M_X9_bestWay 42 [x0, x1, x2, x3] st h = Run M_X9_bestWay 46 [x0, x1, x2, x3] st h := R_goto d_X9_bestWay_42 (by decide)
theorem d_X9_bestWay_45 : decode (mB M_X9_bestWay) 45 = .ok (.iload_n 2, 1) := by decide +kernel
theorem r_X9_bestWay_45 {x0 x1 x3 : Value} {a : Int32} {st : List Value} {h : AH} : Run M_X9_bestWay 45 [x0, x1, .int a, x3] st h = Run M_X9_bestWay 46 [x0, x1, .int a, x3] (.int a :: st) h := R_iload_n d_X9_bestWay_45 rfl
theorem d_X9_bestWay_46 : decode (mB M_X9_bestWay) 46 = .ok (.istore_n 2, 1) := by decide +kernel
theorem r_X9_bestWay_46 {x0 x1 x2 x3 : Value} {a : Int32} {st : List Value} {h : AH} (hc : x1.category = 1) : Run M_X9_bestWay 46 [x0, x1, x2, x3] (.int a :: st) h = Run M_X9_bestWay 47 [x0, x1, .int a, x3] st h := R_istore_n d_X9_bestWay_46 (Nat.lt_of_lt_of_le (by decide : 2 < 4) (Nat.le_refl 4)) (catP_of rfl hc)
theorem d_X9_bestWay_47 : decode (mB M_X9_bestWay) 47 = .ok (.iinc 3 1, 3) := by decide +kernel
theorem r_X9_bestWay_47 {x0 x1 x2 : Value} {a : Int32} {st : List Value} {h : AH} (hc : x2.category = 1) : Run M_X9_bestWay 47 [x0, x1, x2, .int a] st h = Run M_X9_bestWay 50 [x0, x1, x2, .int (a + (nI 1))] st h := R_iinc d_X9_bestWay_47 (by decide) rfl (catP_of rfl hc)
theorem d_X9_bestWay_50 : decode (mB M_X9_bestWay) 50 = .ok (.goto (-34), 3) := by decide +kernel
theorem r_X9_bestWay_50 {x0 x1 x2 x3 : Value} {st : List Value} {h : AH} : Run M_X9_bestWay 50 [x0, x1, x2, x3] st h = Run M_X9_bestWay 16 [x0, x1, x2, x3] st h := R_goto d_X9_bestWay_50 (by decide)
theorem d_X9_bestWay_53 : decode (mB M_X9_bestWay) 53 = .ok (.iload_n 1, 1) := by decide +kernel
theorem r_X9_bestWay_53 {x0 x2 x3 : Value} {a : Int32} {st : List Value} {h : AH} : Run M_X9_bestWay 53 [x0, .int a, x2, x3] st h = Run M_X9_bestWay 54 [x0, .int a, x2, x3] (.int a :: st) h := R_iload_n d_X9_bestWay_53 rfl
theorem d_X9_bestWay_54 : decode (mB M_X9_bestWay) 54 = .ok (.ifCond .ne 7, 3) := by decide +kernel
theorem r_X9_bestWay_54 {x0 x1 x2 x3 : Value} {x : Int32} {st : List Value} {h : AH} : Run M_X9_bestWay 54 [x0, x1, x2, x3] (.int x :: st) h = if x = nI 0 then Run M_X9_bestWay 57 [x0, x1, x2, x3] st h else Run M_X9_bestWay 61 [x0, x1, x2, x3] st h := R_if_ne d_X9_bestWay_54 (by decide)
theorem d_X9_bestWay_57 : decode (mB M_X9_bestWay) 57 = .ok (.iload_n 2, 1) := by decide +kernel
theorem r_X9_bestWay_57 {x0 x1 x3 : Value} {a : Int32} {st : List Value} {h : AH} : Run M_X9_bestWay 57 [x0, x1, .int a, x3] st h = Run M_X9_bestWay 58 [x0, x1, .int a, x3] (.int a :: st) h := R_iload_n d_X9_bestWay_57 rfl
theorem d_X9_bestWay_58 : decode (mB M_X9_bestWay) 58 = .ok (.goto 9, 3) := by decide +kernel
theorem r_X9_bestWay_58 {x0 x1 x2 x3 : Value} {st : List Value} {h : AH} : Run M_X9_bestWay 58 [x0, x1, x2, x3] st h = Run M_X9_bestWay 67 [x0, x1, x2, x3] st h := R_goto d_X9_bestWay_58 (by decide)
theorem d_X9_bestWay_61 : decode (mB M_X9_bestWay) 61 = .ok (.aload_n 0, 1) := by decide +kernel
theorem r_X9_bestWay_61 {x1 x2 x3 : Value} {a : Nat} {st : List Value} {h : AH} : Run M_X9_bestWay 61 [.ref a, x1, x2, x3] st h = Run M_X9_bestWay 62 [.ref a, x1, x2, x3] (.ref a :: st) h := R_aload_n d_X9_bestWay_61 rfl
theorem d_X9_bestWay_62 : decode (mB M_X9_bestWay) 62 = .ok (.iload_n 2, 1) := by decide +kernel
theorem r_X9_bestWay_62 {x0 x1 x3 : Value} {a : Int32} {st : List Value} {h : AH} : Run M_X9_bestWay 62 [x0, x1, .int a, x3] st h = Run M_X9_bestWay 63 [x0, x1, .int a, x3] (.int a :: st) h := R_iload_n d_X9_bestWay_62 rfl
theorem d_X9_bestWay_63 : decode (mB M_X9_bestWay) 63 = .ok (.iconst 0, 1) := by decide +kernel
theorem r_X9_bestWay_63 {x0 x1 x2 x3 : Value} {st : List Value} {h : AH} : Run M_X9_bestWay 63 [x0, x1, x2, x3] st h = Run M_X9_bestWay 64 [x0, x1, x2, x3] (.int (nI 0) :: st) h := R_iconst d_X9_bestWay_63 (by decide)
theorem d_X9_bestWay_64 : decode (mB M_X9_bestWay) 64 = .ok (.invokevirtual 249, 3) := by decide +kernel
theorem r_X9_bestWay_64 {x0 x1 x2 x3 : Value} {p0 : Int32} {p1 : Int32} {a : Nat} {h : AH} : Run M_X9_bestWay 64 [x0, x1, x2, x3] (.int p1 :: .int p0 :: .ref a :: []) h = if refO h 9 (some (.ref a)) = true then (if (Call M_X9_apartBy h [.ref a, .int p0, .int p1]).isSome = true then Run M_X9_bestWay 67 [x0, x1, x2, x3] (rL (Call M_X9_apartBy h [.ref a, .int p0, .int p1]) ++ []) (cH (Call M_X9_apartBy h [.ref a, .int p0, .int p1])) else none) else none := R_virt d_X9_bestWay_64 rfl rfl rfl rfl rfl (Nat.le_of_ble_eq_true rfl)
theorem d_X9_bestWay_67 : decode (mB M_X9_bestWay) 67 = .ok (.ireturn, 1) := by decide +kernel
theorem r_X9_bestWay_67 {x0 x1 x2 x3 : Value} {v : Int32} {h : AH} : Run M_X9_bestWay 67 [x0, x1, x2, x3] [.int v] h = some (h, some (.int v)) := R_ireturn d_X9_bestWay_67 rfl rfl
theorem d_X9_lookers_0 : decode (mB M_X9_lookers) 0 = .ok (.iload_n 1, 1) := by decide +kernel
theorem r_X9_lookers_0 {x0 x2 x3 x4 x5 : Value} {a : Int32} {st : List Value} {h : AH} : Run M_X9_lookers 0 [x0, .int a, x2, x3, x4, x5] st h = Run M_X9_lookers 1 [x0, .int a, x2, x3, x4, x5] (.int a :: st) h := R_iload_n d_X9_lookers_0 rfl
theorem d_X9_lookers_1 : decode (mB M_X9_lookers) 1 = .ok (.iconst 0, 1) := by decide +kernel
theorem r_X9_lookers_1 {x0 x1 x2 x3 x4 x5 : Value} {st : List Value} {h : AH} : Run M_X9_lookers 1 [x0, x1, x2, x3, x4, x5] st h = Run M_X9_lookers 2 [x0, x1, x2, x3, x4, x5] (.int (nI 0) :: st) h := R_iconst d_X9_lookers_1 (by decide)
theorem d_X9_lookers_2 : decode (mB M_X9_lookers) 2 = .ok (.bipush 30, 2) := by decide +kernel
theorem r_X9_lookers_2 {x0 x1 x2 x3 x4 x5 : Value} {st : List Value} {h : AH} : Run M_X9_lookers 2 [x0, x1, x2, x3, x4, x5] st h = Run M_X9_lookers 4 [x0, x1, x2, x3, x4, x5] (.int (nI 30) :: st) h := R_bipush d_X9_lookers_2 (by decide)
theorem d_X9_lookers_4 : decode (mB M_X9_lookers) 4 = .ok (.invokestatic 85, 3) := by decide +kernel
theorem r_X9_lookers_4 {x0 x1 x2 x3 x4 x5 : Value} {p0 : Int32} {p1 : Int32} {p2 : Int32} {h : AH} : Run M_X9_lookers 4 [x0, x1, x2, x3, x4, x5] (.int p2 :: .int p1 :: .int p0 :: []) h = if (Call M_X9_in h [.int p0, .int p1, .int p2]).isSome = true then Run M_X9_lookers 7 [x0, x1, x2, x3, x4, x5] (rL (Call M_X9_in h [.int p0, .int p1, .int p2]) ++ []) (cH (Call M_X9_in h [.int p0, .int p1, .int p2])) else none := R_stat d_X9_lookers_4 rfl rfl rfl rfl (Nat.le_of_ble_eq_true rfl)
theorem d_X9_lookers_7 : decode (mB M_X9_lookers) 7 = .ok (.ifCond .eq 12, 3) := by decide +kernel
theorem r_X9_lookers_7 {x0 x1 x2 x3 x4 x5 : Value} {x : Int32} {st : List Value} {h : AH} : Run M_X9_lookers 7 [x0, x1, x2, x3, x4, x5] (.int x :: st) h = if x = nI 0 then Run M_X9_lookers 19 [x0, x1, x2, x3, x4, x5] st h else Run M_X9_lookers 10 [x0, x1, x2, x3, x4, x5] st h := R_if_eq d_X9_lookers_7 (by decide)
theorem d_X9_lookers_10 : decode (mB M_X9_lookers) 10 = .ok (.iload_n 2, 1) := by decide +kernel
theorem r_X9_lookers_10 {x0 x1 x3 x4 x5 : Value} {a : Int32} {st : List Value} {h : AH} : Run M_X9_lookers 10 [x0, x1, .int a, x3, x4, x5] st h = Run M_X9_lookers 11 [x0, x1, .int a, x3, x4, x5] (.int a :: st) h := R_iload_n d_X9_lookers_10 rfl
theorem d_X9_lookers_11 : decode (mB M_X9_lookers) 11 = .ok (.iconst 0, 1) := by decide +kernel
theorem r_X9_lookers_11 {x0 x1 x2 x3 x4 x5 : Value} {st : List Value} {h : AH} : Run M_X9_lookers 11 [x0, x1, x2, x3, x4, x5] st h = Run M_X9_lookers 12 [x0, x1, x2, x3, x4, x5] (.int (nI 0) :: st) h := R_iconst d_X9_lookers_11 (by decide)
theorem d_X9_lookers_12 : decode (mB M_X9_lookers) 12 = .ok (.iconst 1, 1) := by decide +kernel
theorem r_X9_lookers_12 {x0 x1 x2 x3 x4 x5 : Value} {st : List Value} {h : AH} : Run M_X9_lookers 12 [x0, x1, x2, x3, x4, x5] st h = Run M_X9_lookers 13 [x0, x1, x2, x3, x4, x5] (.int (nI 1) :: st) h := R_iconst d_X9_lookers_12 (by decide)
theorem d_X9_lookers_13 : decode (mB M_X9_lookers) 13 = .ok (.invokestatic 85, 3) := by decide +kernel
theorem r_X9_lookers_13 {x0 x1 x2 x3 x4 x5 : Value} {p0 : Int32} {p1 : Int32} {p2 : Int32} {h : AH} : Run M_X9_lookers 13 [x0, x1, x2, x3, x4, x5] (.int p2 :: .int p1 :: .int p0 :: []) h = if (Call M_X9_in h [.int p0, .int p1, .int p2]).isSome = true then Run M_X9_lookers 16 [x0, x1, x2, x3, x4, x5] (rL (Call M_X9_in h [.int p0, .int p1, .int p2]) ++ []) (cH (Call M_X9_in h [.int p0, .int p1, .int p2])) else none := R_stat d_X9_lookers_13 rfl rfl rfl rfl (Nat.le_of_ble_eq_true rfl)
theorem d_X9_lookers_16 : decode (mB M_X9_lookers) 16 = .ok (.ifCond .ne 6, 3) := by decide +kernel
theorem r_X9_lookers_16 {x0 x1 x2 x3 x4 x5 : Value} {x : Int32} {st : List Value} {h : AH} : Run M_X9_lookers 16 [x0, x1, x2, x3, x4, x5] (.int x :: st) h = if x = nI 0 then Run M_X9_lookers 19 [x0, x1, x2, x3, x4, x5] st h else Run M_X9_lookers 22 [x0, x1, x2, x3, x4, x5] st h := R_if_ne d_X9_lookers_16 (by decide)
theorem d_X9_lookers_19 : decode (mB M_X9_lookers) 19 = .ok (.ldc 92, 2) := by decide +kernel
theorem r_X9_lookers_19 {x0 x1 x2 x3 x4 x5 : Value} {st : List Value} {h : AH} : Run M_X9_lookers 19 [x0, x1, x2, x3, x4, x5] st h = Run M_X9_lookers 21 [x0, x1, x2, x3, x4, x5] (.int (-1000000002) :: st) h := R_ldc d_X9_lookers_19 (by decide)
theorem d_X9_lookers_21 : decode (mB M_X9_lookers) 21 = .ok (.ireturn, 1) := by decide +kernel
theorem r_X9_lookers_21 {x0 x1 x2 x3 x4 x5 : Value} {v : Int32} {h : AH} : Run M_X9_lookers 21 [x0, x1, x2, x3, x4, x5] [.int v] h = some (h, some (.int v)) := R_ireturn d_X9_lookers_21 rfl rfl
theorem d_X9_lookers_22 : decode (mB M_X9_lookers) 22 = .ok (.iconst (-1), 1) := by decide +kernel
theorem r_X9_lookers_22 {x0 x1 x2 x3 x4 x5 : Value} {st : List Value} {h : AH} : Run M_X9_lookers 22 [x0, x1, x2, x3, x4, x5] st h = Run M_X9_lookers 23 [x0, x1, x2, x3, x4, x5] (.int (-1) :: st) h := R_iconst d_X9_lookers_22 (by decide)
theorem d_X9_lookers_23 : decode (mB M_X9_lookers) 23 = .ok (.istore_n 3, 1) := by decide +kernel
theorem r_X9_lookers_23 {x0 x1 x2 x3 x4 x5 : Value} {a : Int32} {st : List Value} {h : AH} (hc : x2.category = 1) : Run M_X9_lookers 23 [x0, x1, x2, x3, x4, x5] (.int a :: st) h = Run M_X9_lookers 24 [x0, x1, x2, .int a, x4, x5] st h := R_istore_n d_X9_lookers_23 (Nat.lt_of_lt_of_le (by decide : 3 < 6) (Nat.le_refl 6)) (catP_of rfl hc)
theorem d_X9_lookers_24 : decode (mB M_X9_lookers) 24 = .ok (.iconst 0, 1) := by decide +kernel
theorem r_X9_lookers_24 {x0 x1 x2 x3 x4 x5 : Value} {st : List Value} {h : AH} : Run M_X9_lookers 24 [x0, x1, x2, x3, x4, x5] st h = Run M_X9_lookers 25 [x0, x1, x2, x3, x4, x5] (.int (nI 0) :: st) h := R_iconst d_X9_lookers_24 (by decide)
theorem d_X9_lookers_25 : decode (mB M_X9_lookers) 25 = .ok (.istore 4, 2) := by decide +kernel
theorem r_X9_lookers_25 {x0 x1 x2 x3 x4 x5 : Value} {a : Int32} {st : List Value} {h : AH} (hc : x3.category = 1) : Run M_X9_lookers 25 [x0, x1, x2, x3, x4, x5] (.int a :: st) h = Run M_X9_lookers 27 [x0, x1, x2, x3, .int a, x5] st h := R_istore d_X9_lookers_25 (Nat.lt_of_lt_of_le (by decide : 4 < 6) (Nat.le_refl 6)) (catP_of rfl hc)
theorem d_X9_lookers_27 : decode (mB M_X9_lookers) 27 = .ok (.iload 4, 2) := by decide +kernel
theorem r_X9_lookers_27 {x0 x1 x2 x3 x5 : Value} {a : Int32} {st : List Value} {h : AH} : Run M_X9_lookers 27 [x0, x1, x2, x3, .int a, x5] st h = Run M_X9_lookers 29 [x0, x1, x2, x3, .int a, x5] (.int a :: st) h := R_iload d_X9_lookers_27 rfl
theorem d_X9_lookers_29 : decode (mB M_X9_lookers) 29 = .ok (.iconst 1, 1) := by decide +kernel
theorem r_X9_lookers_29 {x0 x1 x2 x3 x4 x5 : Value} {st : List Value} {h : AH} : Run M_X9_lookers 29 [x0, x1, x2, x3, x4, x5] st h = Run M_X9_lookers 30 [x0, x1, x2, x3, x4, x5] (.int (nI 1) :: st) h := R_iconst d_X9_lookers_29 (by decide)
theorem d_X9_lookers_30 : decode (mB M_X9_lookers) 30 = .ok (.aload_n 0, 1) := by decide +kernel
theorem r_X9_lookers_30 {x1 x2 x3 x4 x5 : Value} {a : Nat} {st : List Value} {h : AH} : Run M_X9_lookers 30 [.ref a, x1, x2, x3, x4, x5] st h = Run M_X9_lookers 31 [.ref a, x1, x2, x3, x4, x5] (.ref a :: st) h := R_aload_n d_X9_lookers_30 rfl
theorem d_X9_lookers_31 : decode (mB M_X9_lookers) 31 = .ok (.getfield 89, 3) := by decide +kernel
theorem r_X9_lookers_31 {x0 x1 x2 x3 x4 x5 : Value} {a : Nat} {st : List Value} {h : AH} : Run M_X9_lookers 31 [x0, x1, x2, x3, x4, x5] (.ref a :: st) h = if (gF h a 9 9).isSome = true then Run M_X9_lookers 34 [x0, x1, x2, x3, x4, x5] ((gF h a 9 9).getD .null :: st) h else none := R_getfield d_X9_lookers_31 rfl
theorem d_X9_lookers_34 : decode (mB M_X9_lookers) 34 = .ok (.ishl, 1) := by decide +kernel
theorem r_X9_lookers_34 {x0 x1 x2 x3 x4 x5 : Value} {x y : Int32} {st : List Value} {h : AH} : Run M_X9_lookers 34 [x0, x1, x2, x3, x4, x5] (.int y :: .int x :: st) h = Run M_X9_lookers 35 [x0, x1, x2, x3, x4, x5] (.int (x <<< (y &&& 31)) :: st) h := R_ishl d_X9_lookers_34
theorem d_X9_lookers_35 : decode (mB M_X9_lookers) 35 = .ok (.if_icmp .ge 62, 3) := by decide +kernel
theorem r_X9_lookers_35 {x0 x1 x2 x3 x4 x5 : Value} {x y : Int32} {st : List Value} {h : AH} : Run M_X9_lookers 35 [x0, x1, x2, x3, x4, x5] (.int y :: .int x :: st) h = if y ≤ x then Run M_X9_lookers 97 [x0, x1, x2, x3, x4, x5] st h else Run M_X9_lookers 38 [x0, x1, x2, x3, x4, x5] st h := R_icmp_ge d_X9_lookers_35 (by decide)
theorem d_X9_lookers_38 : decode (mB M_X9_lookers) 38 = .ok (.iload_n 3, 1) := by decide +kernel
theorem r_X9_lookers_38 {x0 x1 x2 x4 x5 : Value} {a : Int32} {st : List Value} {h : AH} : Run M_X9_lookers 38 [x0, x1, x2, .int a, x4, x5] st h = Run M_X9_lookers 39 [x0, x1, x2, .int a, x4, x5] (.int a :: st) h := R_iload_n d_X9_lookers_38 rfl
theorem d_X9_lookers_39 : decode (mB M_X9_lookers) 39 = .ok (.iconst (-1), 1) := by decide +kernel
theorem r_X9_lookers_39 {x0 x1 x2 x3 x4 x5 : Value} {st : List Value} {h : AH} : Run M_X9_lookers 39 [x0, x1, x2, x3, x4, x5] st h = Run M_X9_lookers 40 [x0, x1, x2, x3, x4, x5] (.int (-1) :: st) h := R_iconst d_X9_lookers_39 (by decide)
theorem d_X9_lookers_40 : decode (mB M_X9_lookers) 40 = .ok (.if_icmp .eq 15, 3) := by decide +kernel
theorem r_X9_lookers_40 {x0 x1 x2 x3 x4 x5 : Value} {x y : Int32} {st : List Value} {h : AH} : Run M_X9_lookers 40 [x0, x1, x2, x3, x4, x5] (.int y :: .int x :: st) h = if x = y then Run M_X9_lookers 55 [x0, x1, x2, x3, x4, x5] st h else Run M_X9_lookers 43 [x0, x1, x2, x3, x4, x5] st h := R_icmp_eq d_X9_lookers_40 (by decide)
theorem d_X9_lookers_43 : decode (mB M_X9_lookers) 43 = .ok (.iload 4, 2) := by decide +kernel
theorem r_X9_lookers_43 {x0 x1 x2 x3 x5 : Value} {a : Int32} {st : List Value} {h : AH} : Run M_X9_lookers 43 [x0, x1, x2, x3, .int a, x5] st h = Run M_X9_lookers 45 [x0, x1, x2, x3, .int a, x5] (.int a :: st) h := R_iload d_X9_lookers_43 rfl
theorem d_X9_lookers_45 : decode (mB M_X9_lookers) 45 = .ok (.invokestatic 252, 3) := by decide +kernel
theorem r_X9_lookers_45 {x0 x1 x2 x3 x4 x5 : Value} {p0 : Int32} {h : AH} : Run M_X9_lookers 45 [x0, x1, x2, x3, x4, x5] (.int p0 :: []) h = if (Call M_X9_bits h [.int p0]).isSome = true then Run M_X9_lookers 48 [x0, x1, x2, x3, x4, x5] (rL (Call M_X9_bits h [.int p0]) ++ []) (cH (Call M_X9_bits h [.int p0])) else none := R_stat d_X9_lookers_45 rfl rfl rfl rfl (Nat.le_of_ble_eq_true rfl)
theorem d_X9_lookers_48 : decode (mB M_X9_lookers) 48 = .ok (.iload_n 3, 1) := by decide +kernel
theorem r_X9_lookers_48 {x0 x1 x2 x4 x5 : Value} {a : Int32} {st : List Value} {h : AH} : Run M_X9_lookers 48 [x0, x1, x2, .int a, x4, x5] st h = Run M_X9_lookers 49 [x0, x1, x2, .int a, x4, x5] (.int a :: st) h := R_iload_n d_X9_lookers_48 rfl
theorem d_X9_lookers_49 : decode (mB M_X9_lookers) 49 = .ok (.invokestatic 252, 3) := by decide +kernel
theorem r_X9_lookers_49 {x0 x1 x2 x3 x4 x5 : Value} {p0 : Int32} {w0 : Value} {h : AH} : Run M_X9_lookers 49 [x0, x1, x2, x3, x4, x5] (.int p0 :: [w0]) h = if (Call M_X9_bits h [.int p0]).isSome = true then Run M_X9_lookers 52 [x0, x1, x2, x3, x4, x5] (rL (Call M_X9_bits h [.int p0]) ++ [w0]) (cH (Call M_X9_bits h [.int p0])) else none := R_stat d_X9_lookers_49 rfl rfl rfl rfl (Nat.le_of_ble_eq_true rfl)
theorem d_X9_lookers_52 : decode (mB M_X9_lookers) 52 = .ok (.if_icmp .ge 7, 3) := by decide +kernel
theorem r_X9_lookers_52 {x0 x1 x2 x3 x4 x5 : Value} {x y : Int32} {st : List Value} {h : AH} : Run M_X9_lookers 52 [x0, x1, x2, x3, x4, x5] (.int y :: .int x :: st) h = if y ≤ x then Run M_X9_lookers 59 [x0, x1, x2, x3, x4, x5] st h else Run M_X9_lookers 55 [x0, x1, x2, x3, x4, x5] st h := R_icmp_ge d_X9_lookers_52 (by decide)
theorem d_X9_lookers_55 : decode (mB M_X9_lookers) 55 = .ok (.iconst 1, 1) := by decide +kernel
theorem r_X9_lookers_55 {x0 x1 x2 x3 x4 x5 : Value} {st : List Value} {h : AH} : Run M_X9_lookers 55 [x0, x1, x2, x3, x4, x5] st h = Run M_X9_lookers 56 [x0, x1, x2, x3, x4, x5] (.int (nI 1) :: st) h := R_iconst d_X9_lookers_55 (by decide)
theorem d_X9_lookers_56 : decode (mB M_X9_lookers) 56 = .ok (.goto 4, 3) := by decide +kernel
theorem r_X9_lookers_56 {x0 x1 x2 x3 x4 x5 : Value} {st : List Value} {h : AH} : Run M_X9_lookers 56 [x0, x1, x2, x3, x4, x5] st h = Run M_X9_lookers 60 [x0, x1, x2, x3, x4, x5] st h := R_goto d_X9_lookers_56 (by decide)
theorem d_X9_lookers_59 : decode (mB M_X9_lookers) 59 = .ok (.iconst 0, 1) := by decide +kernel
theorem r_X9_lookers_59 {x0 x1 x2 x3 x4 x5 : Value} {st : List Value} {h : AH} : Run M_X9_lookers 59 [x0, x1, x2, x3, x4, x5] st h = Run M_X9_lookers 60 [x0, x1, x2, x3, x4, x5] (.int (nI 0) :: st) h := R_iconst d_X9_lookers_59 (by decide)
theorem d_X9_lookers_60 : decode (mB M_X9_lookers) 60 = .ok (.istore 5, 2) := by decide +kernel
theorem r_X9_lookers_60 {x0 x1 x2 x3 x4 x5 : Value} {a : Int32} {st : List Value} {h : AH} (hc : x4.category = 1) : Run M_X9_lookers 60 [x0, x1, x2, x3, x4, x5] (.int a :: st) h = Run M_X9_lookers 62 [x0, x1, x2, x3, x4, .int a] st h := R_istore d_X9_lookers_60 (Nat.lt_of_lt_of_le (by decide : 5 < 6) (Nat.le_refl 6)) (catP_of rfl hc)
theorem d_X9_lookers_62 : decode (mB M_X9_lookers) 62 = .ok (.iload 5, 2) := by decide +kernel
theorem r_X9_lookers_62 {x0 x1 x2 x3 x4 : Value} {a : Int32} {st : List Value} {h : AH} : Run M_X9_lookers 62 [x0, x1, x2, x3, x4, .int a] st h = Run M_X9_lookers 64 [x0, x1, x2, x3, x4, .int a] (.int a :: st) h := R_iload d_X9_lookers_62 rfl
theorem d_X9_lookers_64 : decode (mB M_X9_lookers) 64 = .ok (.ifCond .eq 25, 3) := by decide +kernel
theorem r_X9_lookers_64 {x0 x1 x2 x3 x4 x5 : Value} {x : Int32} {st : List Value} {h : AH} : Run M_X9_lookers 64 [x0, x1, x2, x3, x4, x5] (.int x :: st) h = if x = nI 0 then Run M_X9_lookers 89 [x0, x1, x2, x3, x4, x5] st h else Run M_X9_lookers 67 [x0, x1, x2, x3, x4, x5] st h := R_if_eq d_X9_lookers_64 (by decide)
theorem d_X9_lookers_67 : decode (mB M_X9_lookers) 67 = .ok (.aload_n 0, 1) := by decide +kernel
theorem r_X9_lookers_67 {x1 x2 x3 x4 x5 : Value} {a : Nat} {st : List Value} {h : AH} : Run M_X9_lookers 67 [.ref a, x1, x2, x3, x4, x5] st h = Run M_X9_lookers 68 [.ref a, x1, x2, x3, x4, x5] (.ref a :: st) h := R_aload_n d_X9_lookers_67 rfl
theorem d_X9_lookers_68 : decode (mB M_X9_lookers) 68 = .ok (.aload_n 0, 1) := by decide +kernel
theorem r_X9_lookers_68 {x1 x2 x3 x4 x5 : Value} {a : Nat} {st : List Value} {h : AH} : Run M_X9_lookers 68 [.ref a, x1, x2, x3, x4, x5] st h = Run M_X9_lookers 69 [.ref a, x1, x2, x3, x4, x5] (.ref a :: st) h := R_aload_n d_X9_lookers_68 rfl
theorem d_X9_lookers_69 : decode (mB M_X9_lookers) 69 = .ok (.getfield 7, 3) := by decide +kernel
theorem r_X9_lookers_69 {x0 x1 x2 x3 x4 x5 : Value} {a : Nat} {st : List Value} {h : AH} : Run M_X9_lookers 69 [x0, x1, x2, x3, x4, x5] (.ref a :: st) h = if (gF h a 9 0).isSome = true then Run M_X9_lookers 72 [x0, x1, x2, x3, x4, x5] ((gF h a 9 0).getD .null :: st) h else none := R_getfield d_X9_lookers_69 rfl
theorem d_X9_lookers_72 : decode (mB M_X9_lookers) 72 = .ok (.bipush 15, 2) := by decide +kernel
theorem r_X9_lookers_72 {x0 x1 x2 x3 x4 x5 : Value} {st : List Value} {h : AH} : Run M_X9_lookers 72 [x0, x1, x2, x3, x4, x5] st h = Run M_X9_lookers 74 [x0, x1, x2, x3, x4, x5] (.int (nI 15) :: st) h := R_bipush d_X9_lookers_72 (by decide)
theorem d_X9_lookers_74 : decode (mB M_X9_lookers) 74 = .ok (.iaload, 1) := by decide +kernel
theorem r_X9_lookers_74 {x0 x1 x2 x3 x4 x5 : Value} {a : Nat} {i : Int32} {st : List Value} {h : AH} : Run M_X9_lookers 74 [x0, x1, x2, x3, x4, x5] (.int i :: .ref a :: st) h = if (gI 0 h a i).isSome = true then Run M_X9_lookers 75 [x0, x1, x2, x3, x4, x5] (.int ((gI 0 h a i).getD 0) :: st) h else none := R_iaload d_X9_lookers_74
theorem d_X9_lookers_75 : decode (mB M_X9_lookers) 75 = .ok (.iload 4, 2) := by decide +kernel
theorem r_X9_lookers_75 {x0 x1 x2 x3 x5 : Value} {a : Int32} {st : List Value} {h : AH} : Run M_X9_lookers 75 [x0, x1, x2, x3, .int a, x5] st h = Run M_X9_lookers 77 [x0, x1, x2, x3, .int a, x5] (.int a :: st) h := R_iload d_X9_lookers_75 rfl
theorem d_X9_lookers_77 : decode (mB M_X9_lookers) 77 = .ok (.invokevirtual 249, 3) := by decide +kernel
theorem r_X9_lookers_77 {x0 x1 x2 x3 x4 x5 : Value} {p0 : Int32} {p1 : Int32} {a : Nat} {h : AH} : Run M_X9_lookers 77 [x0, x1, x2, x3, x4, x5] (.int p1 :: .int p0 :: .ref a :: []) h = if refO h 9 (some (.ref a)) = true then (if (Call M_X9_apartBy h [.ref a, .int p0, .int p1]).isSome = true then Run M_X9_lookers 80 [x0, x1, x2, x3, x4, x5] (rL (Call M_X9_apartBy h [.ref a, .int p0, .int p1]) ++ []) (cH (Call M_X9_apartBy h [.ref a, .int p0, .int p1])) else none) else none := R_virt d_X9_lookers_77 rfl rfl rfl rfl rfl (Nat.le_of_ble_eq_true rfl)
theorem d_X9_lookers_80 : decode (mB M_X9_lookers) 80 = .ok (.iload_n 1, 1) := by decide +kernel
theorem r_X9_lookers_80 {x0 x2 x3 x4 x5 : Value} {a : Int32} {st : List Value} {h : AH} : Run M_X9_lookers 80 [x0, .int a, x2, x3, x4, x5] st h = Run M_X9_lookers 81 [x0, .int a, x2, x3, x4, x5] (.int a :: st) h := R_iload_n d_X9_lookers_80 rfl
theorem d_X9_lookers_81 : decode (mB M_X9_lookers) 81 = .ok (.if_icmp .gt 8, 3) := by decide +kernel
theorem r_X9_lookers_81 {x0 x1 x2 x3 x4 x5 : Value} {x y : Int32} {st : List Value} {h : AH} : Run M_X9_lookers 81 [x0, x1, x2, x3, x4, x5] (.int y :: .int x :: st) h = if y < x then Run M_X9_lookers 89 [x0, x1, x2, x3, x4, x5] st h else Run M_X9_lookers 84 [x0, x1, x2, x3, x4, x5] st h := R_icmp_gt d_X9_lookers_81 (by decide)
theorem d_X9_lookers_84 : decode (mB M_X9_lookers) 84 = .ok (.iload 4, 2) := by decide +kernel
theorem r_X9_lookers_84 {x0 x1 x2 x3 x5 : Value} {a : Int32} {st : List Value} {h : AH} : Run M_X9_lookers 84 [x0, x1, x2, x3, .int a, x5] st h = Run M_X9_lookers 86 [x0, x1, x2, x3, .int a, x5] (.int a :: st) h := R_iload d_X9_lookers_84 rfl
theorem d_X9_lookers_86 : decode (mB M_X9_lookers) 86 = .ok (.goto 4, 3) := by decide +kernel
theorem r_X9_lookers_86 {x0 x1 x2 x3 x4 x5 : Value} {st : List Value} {h : AH} : Run M_X9_lookers 86 [x0, x1, x2, x3, x4, x5] st h = Run M_X9_lookers 90 [x0, x1, x2, x3, x4, x5] st h := R_goto d_X9_lookers_86 (by decide)
theorem d_X9_lookers_89 : decode (mB M_X9_lookers) 89 = .ok (.iload_n 3, 1) := by decide +kernel
theorem r_X9_lookers_89 {x0 x1 x2 x4 x5 : Value} {a : Int32} {st : List Value} {h : AH} : Run M_X9_lookers 89 [x0, x1, x2, .int a, x4, x5] st h = Run M_X9_lookers 90 [x0, x1, x2, .int a, x4, x5] (.int a :: st) h := R_iload_n d_X9_lookers_89 rfl
theorem d_X9_lookers_90 : decode (mB M_X9_lookers) 90 = .ok (.istore_n 3, 1) := by decide +kernel
theorem r_X9_lookers_90 {x0 x1 x2 x3 x4 x5 : Value} {a : Int32} {st : List Value} {h : AH} (hc : x2.category = 1) : Run M_X9_lookers 90 [x0, x1, x2, x3, x4, x5] (.int a :: st) h = Run M_X9_lookers 91 [x0, x1, x2, .int a, x4, x5] st h := R_istore_n d_X9_lookers_90 (Nat.lt_of_lt_of_le (by decide : 3 < 6) (Nat.le_refl 6)) (catP_of rfl hc)
theorem d_X9_lookers_91 : decode (mB M_X9_lookers) 91 = .ok (.iinc 4 1, 3) := by decide +kernel
theorem r_X9_lookers_91 {x0 x1 x2 x3 x5 : Value} {a : Int32} {st : List Value} {h : AH} (hc : x3.category = 1) : Run M_X9_lookers 91 [x0, x1, x2, x3, .int a, x5] st h = Run M_X9_lookers 94 [x0, x1, x2, x3, .int (a + (nI 1)), x5] st h := R_iinc d_X9_lookers_91 (by decide) rfl (catP_of rfl hc)
theorem d_X9_lookers_94 : decode (mB M_X9_lookers) 94 = .ok (.goto (-67), 3) := by decide +kernel
theorem r_X9_lookers_94 {x0 x1 x2 x3 x4 x5 : Value} {st : List Value} {h : AH} : Run M_X9_lookers 94 [x0, x1, x2, x3, x4, x5] st h = Run M_X9_lookers 27 [x0, x1, x2, x3, x4, x5] st h := R_goto d_X9_lookers_94 (by decide)
theorem d_X9_lookers_97 : decode (mB M_X9_lookers) 97 = .ok (.iload_n 3, 1) := by decide +kernel
theorem r_X9_lookers_97 {x0 x1 x2 x4 x5 : Value} {a : Int32} {st : List Value} {h : AH} : Run M_X9_lookers 97 [x0, x1, x2, .int a, x4, x5] st h = Run M_X9_lookers 98 [x0, x1, x2, .int a, x4, x5] (.int a :: st) h := R_iload_n d_X9_lookers_97 rfl
theorem d_X9_lookers_98 : decode (mB M_X9_lookers) 98 = .ok (.iconst (-1), 1) := by decide +kernel
theorem r_X9_lookers_98 {x0 x1 x2 x3 x4 x5 : Value} {st : List Value} {h : AH} : Run M_X9_lookers 98 [x0, x1, x2, x3, x4, x5] st h = Run M_X9_lookers 99 [x0, x1, x2, x3, x4, x5] (.int (-1) :: st) h := R_iconst d_X9_lookers_98 (by decide)
theorem d_X9_lookers_99 : decode (mB M_X9_lookers) 99 = .ok (.if_icmp .eq 8, 3) := by decide +kernel
theorem r_X9_lookers_99 {x0 x1 x2 x3 x4 x5 : Value} {x y : Int32} {st : List Value} {h : AH} : Run M_X9_lookers 99 [x0, x1, x2, x3, x4, x5] (.int y :: .int x :: st) h = if x = y then Run M_X9_lookers 107 [x0, x1, x2, x3, x4, x5] st h else Run M_X9_lookers 102 [x0, x1, x2, x3, x4, x5] st h := R_icmp_eq d_X9_lookers_99 (by decide)
theorem d_X9_lookers_102 : decode (mB M_X9_lookers) 102 = .ok (.iload_n 2, 1) := by decide +kernel
theorem r_X9_lookers_102 {x0 x1 x3 x4 x5 : Value} {a : Int32} {st : List Value} {h : AH} : Run M_X9_lookers 102 [x0, x1, .int a, x3, x4, x5] st h = Run M_X9_lookers 103 [x0, x1, .int a, x3, x4, x5] (.int a :: st) h := R_iload_n d_X9_lookers_102 rfl
theorem d_X9_lookers_103 : decode (mB M_X9_lookers) 103 = .ok (.iconst 1, 1) := by decide +kernel
theorem r_X9_lookers_103 {x0 x1 x2 x3 x4 x5 : Value} {st : List Value} {h : AH} : Run M_X9_lookers 103 [x0, x1, x2, x3, x4, x5] st h = Run M_X9_lookers 104 [x0, x1, x2, x3, x4, x5] (.int (nI 1) :: st) h := R_iconst d_X9_lookers_103 (by decide)
theorem d_X9_lookers_104 : decode (mB M_X9_lookers) 104 = .ok (.if_icmp .ne 7, 3) := by decide +kernel
theorem r_X9_lookers_104 {x0 x1 x2 x3 x4 x5 : Value} {x y : Int32} {st : List Value} {h : AH} : Run M_X9_lookers 104 [x0, x1, x2, x3, x4, x5] (.int y :: .int x :: st) h = if x = y then Run M_X9_lookers 107 [x0, x1, x2, x3, x4, x5] st h else Run M_X9_lookers 111 [x0, x1, x2, x3, x4, x5] st h := R_icmp_ne d_X9_lookers_104 (by decide)
theorem d_X9_lookers_107 : decode (mB M_X9_lookers) 107 = .ok (.iload_n 3, 1) := by decide +kernel
theorem r_X9_lookers_107 {x0 x1 x2 x4 x5 : Value} {a : Int32} {st : List Value} {h : AH} : Run M_X9_lookers 107 [x0, x1, x2, .int a, x4, x5] st h = Run M_X9_lookers 108 [x0, x1, x2, .int a, x4, x5] (.int a :: st) h := R_iload_n d_X9_lookers_107 rfl
theorem d_X9_lookers_108 : decode (mB M_X9_lookers) 108 = .ok (.goto 7, 3) := by decide +kernel
theorem r_X9_lookers_108 {x0 x1 x2 x3 x4 x5 : Value} {st : List Value} {h : AH} : Run M_X9_lookers 108 [x0, x1, x2, x3, x4, x5] st h = Run M_X9_lookers 115 [x0, x1, x2, x3, x4, x5] st h := R_goto d_X9_lookers_108 (by decide)
theorem d_X9_lookers_111 : decode (mB M_X9_lookers) 111 = .ok (.iload_n 3, 1) := by decide +kernel
theorem r_X9_lookers_111 {x0 x1 x2 x4 x5 : Value} {a : Int32} {st : List Value} {h : AH} : Run M_X9_lookers 111 [x0, x1, x2, .int a, x4, x5] st h = Run M_X9_lookers 112 [x0, x1, x2, .int a, x4, x5] (.int a :: st) h := R_iload_n d_X9_lookers_111 rfl
theorem d_X9_lookers_112 : decode (mB M_X9_lookers) 112 = .ok (.invokestatic 252, 3) := by decide +kernel
theorem r_X9_lookers_112 {x0 x1 x2 x3 x4 x5 : Value} {p0 : Int32} {h : AH} : Run M_X9_lookers 112 [x0, x1, x2, x3, x4, x5] (.int p0 :: []) h = if (Call M_X9_bits h [.int p0]).isSome = true then Run M_X9_lookers 115 [x0, x1, x2, x3, x4, x5] (rL (Call M_X9_bits h [.int p0]) ++ []) (cH (Call M_X9_bits h [.int p0])) else none := R_stat d_X9_lookers_112 rfl rfl rfl rfl (Nat.le_of_ble_eq_true rfl)
theorem d_X9_lookers_115 : decode (mB M_X9_lookers) 115 = .ok (.ireturn, 1) := by decide +kernel
theorem r_X9_lookers_115 {x0 x1 x2 x3 x4 x5 : Value} {v : Int32} {h : AH} : Run M_X9_lookers 115 [x0, x1, x2, x3, x4, x5] [.int v] h = some (h, some (.int v)) := R_ireturn d_X9_lookers_115 rfl rfl
theorem d_X9_claps_0 : decode (mB M_X9_claps) 0 = .ok (.iload_n 1, 1) := by decide +kernel
theorem r_X9_claps_0 {x0 x2 x3 x4 x5 x6 x7 : Value} {a : Int32} {st : List Value} {h : AH} : Run M_X9_claps 0 [x0, .int a, x2, x3, x4, x5, x6, x7] st h = Run M_X9_claps 1 [x0, .int a, x2, x3, x4, x5, x6, x7] (.int a :: st) h := R_iload_n d_X9_claps_0 rfl
theorem d_X9_claps_1 : decode (mB M_X9_claps) 1 = .ok (.iconst 0, 1) := by decide +kernel
theorem r_X9_claps_1 {x0 x1 x2 x3 x4 x5 x6 x7 : Value} {st : List Value} {h : AH} : Run M_X9_claps 1 [x0, x1, x2, x3, x4, x5, x6, x7] st h = Run M_X9_claps 2 [x0, x1, x2, x3, x4, x5, x6, x7] (.int (nI 0) :: st) h := R_iconst d_X9_claps_1 (by decide)
theorem d_X9_claps_2 : decode (mB M_X9_claps) 2 = .ok (.bipush 8, 2) := by decide +kernel
theorem r_X9_claps_2 {x0 x1 x2 x3 x4 x5 x6 x7 : Value} {st : List Value} {h : AH} : Run M_X9_claps 2 [x0, x1, x2, x3, x4, x5, x6, x7] st h = Run M_X9_claps 4 [x0, x1, x2, x3, x4, x5, x6, x7] (.int (nI 8) :: st) h := R_bipush d_X9_claps_2 (by decide)
theorem d_X9_claps_4 : decode (mB M_X9_claps) 4 = .ok (.invokestatic 85, 3) := by decide +kernel
theorem r_X9_claps_4 {x0 x1 x2 x3 x4 x5 x6 x7 : Value} {p0 : Int32} {p1 : Int32} {p2 : Int32} {h : AH} : Run M_X9_claps 4 [x0, x1, x2, x3, x4, x5, x6, x7] (.int p2 :: .int p1 :: .int p0 :: []) h = if (Call M_X9_in h [.int p0, .int p1, .int p2]).isSome = true then Run M_X9_claps 7 [x0, x1, x2, x3, x4, x5, x6, x7] (rL (Call M_X9_in h [.int p0, .int p1, .int p2]) ++ []) (cH (Call M_X9_in h [.int p0, .int p1, .int p2])) else none := R_stat d_X9_claps_4 rfl rfl rfl rfl (Nat.le_of_ble_eq_true rfl)
theorem d_X9_claps_7 : decode (mB M_X9_claps) 7 = .ok (.ifCond .eq 12, 3) := by decide +kernel
theorem r_X9_claps_7 {x0 x1 x2 x3 x4 x5 x6 x7 : Value} {x : Int32} {st : List Value} {h : AH} : Run M_X9_claps 7 [x0, x1, x2, x3, x4, x5, x6, x7] (.int x :: st) h = if x = nI 0 then Run M_X9_claps 19 [x0, x1, x2, x3, x4, x5, x6, x7] st h else Run M_X9_claps 10 [x0, x1, x2, x3, x4, x5, x6, x7] st h := R_if_eq d_X9_claps_7 (by decide)
theorem d_X9_claps_10 : decode (mB M_X9_claps) 10 = .ok (.iload_n 2, 1) := by decide +kernel
theorem r_X9_claps_10 {x0 x1 x3 x4 x5 x6 x7 : Value} {a : Int32} {st : List Value} {h : AH} : Run M_X9_claps 10 [x0, x1, .int a, x3, x4, x5, x6, x7] st h = Run M_X9_claps 11 [x0, x1, .int a, x3, x4, x5, x6, x7] (.int a :: st) h := R_iload_n d_X9_claps_10 rfl
theorem d_X9_claps_11 : decode (mB M_X9_claps) 11 = .ok (.iconst 0, 1) := by decide +kernel
theorem r_X9_claps_11 {x0 x1 x2 x3 x4 x5 x6 x7 : Value} {st : List Value} {h : AH} : Run M_X9_claps 11 [x0, x1, x2, x3, x4, x5, x6, x7] st h = Run M_X9_claps 12 [x0, x1, x2, x3, x4, x5, x6, x7] (.int (nI 0) :: st) h := R_iconst d_X9_claps_11 (by decide)
theorem d_X9_claps_12 : decode (mB M_X9_claps) 12 = .ok (.iconst 1, 1) := by decide +kernel
theorem r_X9_claps_12 {x0 x1 x2 x3 x4 x5 x6 x7 : Value} {st : List Value} {h : AH} : Run M_X9_claps 12 [x0, x1, x2, x3, x4, x5, x6, x7] st h = Run M_X9_claps 13 [x0, x1, x2, x3, x4, x5, x6, x7] (.int (nI 1) :: st) h := R_iconst d_X9_claps_12 (by decide)
theorem d_X9_claps_13 : decode (mB M_X9_claps) 13 = .ok (.invokestatic 85, 3) := by decide +kernel
theorem r_X9_claps_13 {x0 x1 x2 x3 x4 x5 x6 x7 : Value} {p0 : Int32} {p1 : Int32} {p2 : Int32} {h : AH} : Run M_X9_claps 13 [x0, x1, x2, x3, x4, x5, x6, x7] (.int p2 :: .int p1 :: .int p0 :: []) h = if (Call M_X9_in h [.int p0, .int p1, .int p2]).isSome = true then Run M_X9_claps 16 [x0, x1, x2, x3, x4, x5, x6, x7] (rL (Call M_X9_in h [.int p0, .int p1, .int p2]) ++ []) (cH (Call M_X9_in h [.int p0, .int p1, .int p2])) else none := R_stat d_X9_claps_13 rfl rfl rfl rfl (Nat.le_of_ble_eq_true rfl)
theorem d_X9_claps_16 : decode (mB M_X9_claps) 16 = .ok (.ifCond .ne 7, 3) := by decide +kernel
theorem r_X9_claps_16 {x0 x1 x2 x3 x4 x5 x6 x7 : Value} {x : Int32} {st : List Value} {h : AH} : Run M_X9_claps 16 [x0, x1, x2, x3, x4, x5, x6, x7] (.int x :: st) h = if x = nI 0 then Run M_X9_claps 19 [x0, x1, x2, x3, x4, x5, x6, x7] st h else Run M_X9_claps 23 [x0, x1, x2, x3, x4, x5, x6, x7] st h := R_if_ne d_X9_claps_16 (by decide)
theorem d_X9_claps_19 : decode (mB M_X9_claps) 19 = .ok (.ldc2_w 216, 3) := by decide +kernel
theorem r_X9_claps_19 {x0 x1 x2 x3 x4 x5 x6 x7 : Value} {st : List Value} {h : AH} : Run M_X9_claps 19 [x0, x1, x2, x3, x4, x5, x6, x7] st h = Run M_X9_claps 22 [x0, x1, x2, x3, x4, x5, x6, x7] (.long (-1000000002) :: st) h := R_ldc2_w d_X9_claps_19 (by decide)
theorem d_X9_claps_22 : decode (mB M_X9_claps) 22 = .ok (.lreturn, 1) := by decide +kernel
theorem r_X9_claps_22 {x0 x1 x2 x3 x4 x5 x6 x7 : Value} {v : Int64} {h : AH} : Run M_X9_claps 22 [x0, x1, x2, x3, x4, x5, x6, x7] [.long v] h = some (h, some (.long v)) := R_lreturn d_X9_claps_22 rfl
theorem d_X9_claps_23 : decode (mB M_X9_claps) 23 = .ok (.lconst 1, 1) := by decide +kernel
theorem r_X9_claps_23 {x0 x1 x2 x3 x4 x5 x6 x7 : Value} {st : List Value} {h : AH} : Run M_X9_claps 23 [x0, x1, x2, x3, x4, x5, x6, x7] st h = Run M_X9_claps 24 [x0, x1, x2, x3, x4, x5, x6, x7] (.long (lN 1) :: st) h := R_lconst d_X9_claps_23 (by decide)
theorem d_X9_claps_24 : decode (mB M_X9_claps) 24 = .ok (.lstore_n 3, 1) := by decide +kernel
theorem r_X9_claps_24 {x0 x1 x2 x3 x4 x5 x6 x7 : Value} {a : Int64} {st : List Value} {h : AH} (hc : x2.category = 1) : Run M_X9_claps 24 [x0, x1, x2, x3, x4, x5, x6, x7] (.long a :: st) h = Run M_X9_claps 25 [x0, x1, x2, .long a, .null, x5, x6, x7] st h := R_lstore_n d_X9_claps_24 (Nat.lt_of_lt_of_le (by decide : 4 < 8) (Nat.le_refl 8)) (catP_of rfl hc)
theorem d_X9_claps_25 : decode (mB M_X9_claps) 25 = .ok (.lconst 1, 1) := by decide +kernel
theorem r_X9_claps_25 {x0 x1 x2 x3 x4 x5 x6 x7 : Value} {st : List Value} {h : AH} : Run M_X9_claps 25 [x0, x1, x2, x3, x4, x5, x6, x7] st h = Run M_X9_claps 26 [x0, x1, x2, x3, x4, x5, x6, x7] (.long (lN 1) :: st) h := R_lconst d_X9_claps_25 (by decide)
theorem d_X9_claps_26 : decode (mB M_X9_claps) 26 = .ok (.lstore 5, 2) := by decide +kernel
theorem r_X9_claps_26 {x0 x1 x2 x3 x4 x5 x6 x7 : Value} {a : Int64} {st : List Value} {h : AH} (hc : x4.category = 1) : Run M_X9_claps 26 [x0, x1, x2, x3, x4, x5, x6, x7] (.long a :: st) h = Run M_X9_claps 28 [x0, x1, x2, x3, x4, .long a, .null, x7] st h := R_lstore d_X9_claps_26 (Nat.lt_of_lt_of_le (by decide : 6 < 8) (Nat.le_refl 8)) (catP_of rfl hc)
theorem d_X9_claps_28 : decode (mB M_X9_claps) 28 = .ok (.iconst 0, 1) := by decide +kernel
theorem r_X9_claps_28 {x0 x1 x2 x3 x4 x5 x6 x7 : Value} {st : List Value} {h : AH} : Run M_X9_claps 28 [x0, x1, x2, x3, x4, x5, x6, x7] st h = Run M_X9_claps 29 [x0, x1, x2, x3, x4, x5, x6, x7] (.int (nI 0) :: st) h := R_iconst d_X9_claps_28 (by decide)
theorem d_X9_claps_29 : decode (mB M_X9_claps) 29 = .ok (.istore 7, 2) := by decide +kernel
theorem r_X9_claps_29 {x0 x1 x2 x3 x4 x5 x6 x7 : Value} {a : Int32} {st : List Value} {h : AH} (hc : x6.category = 1) : Run M_X9_claps 29 [x0, x1, x2, x3, x4, x5, x6, x7] (.int a :: st) h = Run M_X9_claps 31 [x0, x1, x2, x3, x4, x5, x6, .int a] st h := R_istore d_X9_claps_29 (Nat.lt_of_lt_of_le (by decide : 7 < 8) (Nat.le_refl 8)) (catP_of rfl hc)
theorem d_X9_claps_31 : decode (mB M_X9_claps) 31 = .ok (.iload 7, 2) := by decide +kernel
theorem r_X9_claps_31 {x0 x1 x2 x3 x4 x5 x6 : Value} {a : Int32} {st : List Value} {h : AH} : Run M_X9_claps 31 [x0, x1, x2, x3, x4, x5, x6, .int a] st h = Run M_X9_claps 33 [x0, x1, x2, x3, x4, x5, x6, .int a] (.int a :: st) h := R_iload d_X9_claps_31 rfl
theorem d_X9_claps_33 : decode (mB M_X9_claps) 33 = .ok (.aload_n 0, 1) := by decide +kernel
theorem r_X9_claps_33 {x1 x2 x3 x4 x5 x6 x7 : Value} {a : Nat} {st : List Value} {h : AH} : Run M_X9_claps 33 [.ref a, x1, x2, x3, x4, x5, x6, x7] st h = Run M_X9_claps 34 [.ref a, x1, x2, x3, x4, x5, x6, x7] (.ref a :: st) h := R_aload_n d_X9_claps_33 rfl
theorem d_X9_claps_34 : decode (mB M_X9_claps) 34 = .ok (.getfield 82, 3) := by decide +kernel
theorem r_X9_claps_34 {x0 x1 x2 x3 x4 x5 x6 x7 : Value} {a : Nat} {st : List Value} {h : AH} : Run M_X9_claps 34 [x0, x1, x2, x3, x4, x5, x6, x7] (.ref a :: st) h = if (gF h a 9 3).isSome = true then Run M_X9_claps 37 [x0, x1, x2, x3, x4, x5, x6, x7] ((gF h a 9 3).getD .null :: st) h else none := R_getfield d_X9_claps_34 rfl
theorem d_X9_claps_37 : decode (mB M_X9_claps) 37 = .ok (.if_icmp .ge 58, 3) := by decide +kernel
theorem r_X9_claps_37 {x0 x1 x2 x3 x4 x5 x6 x7 : Value} {x y : Int32} {st : List Value} {h : AH} : Run M_X9_claps 37 [x0, x1, x2, x3, x4, x5, x6, x7] (.int y :: .int x :: st) h = if y ≤ x then Run M_X9_claps 95 [x0, x1, x2, x3, x4, x5, x6, x7] st h else Run M_X9_claps 40 [x0, x1, x2, x3, x4, x5, x6, x7] st h := R_icmp_ge d_X9_claps_37 (by decide)
theorem d_X9_claps_40 : decode (mB M_X9_claps) 40 = .ok (.aload_n 0, 1) := by decide +kernel
theorem r_X9_claps_40 {x1 x2 x3 x4 x5 x6 x7 : Value} {a : Nat} {st : List Value} {h : AH} : Run M_X9_claps 40 [.ref a, x1, x2, x3, x4, x5, x6, x7] st h = Run M_X9_claps 41 [.ref a, x1, x2, x3, x4, x5, x6, x7] (.ref a :: st) h := R_aload_n d_X9_claps_40 rfl
theorem d_X9_claps_41 : decode (mB M_X9_claps) 41 = .ok (.getfield 20, 3) := by decide +kernel
theorem r_X9_claps_41 {x0 x1 x2 x3 x4 x5 x6 x7 : Value} {a : Nat} {st : List Value} {h : AH} : Run M_X9_claps 41 [x0, x1, x2, x3, x4, x5, x6, x7] (.ref a :: st) h = if (gF h a 9 4).isSome = true then Run M_X9_claps 44 [x0, x1, x2, x3, x4, x5, x6, x7] ((gF h a 9 4).getD .null :: st) h else none := R_getfield d_X9_claps_41 rfl
theorem d_X9_claps_44 : decode (mB M_X9_claps) 44 = .ok (.iload 7, 2) := by decide +kernel
theorem r_X9_claps_44 {x0 x1 x2 x3 x4 x5 x6 : Value} {a : Int32} {st : List Value} {h : AH} : Run M_X9_claps 44 [x0, x1, x2, x3, x4, x5, x6, .int a] st h = Run M_X9_claps 46 [x0, x1, x2, x3, x4, x5, x6, .int a] (.int a :: st) h := R_iload d_X9_claps_44 rfl
theorem d_X9_claps_46 : decode (mB M_X9_claps) 46 = .ok (.iaload, 1) := by decide +kernel
theorem r_X9_claps_46 {x0 x1 x2 x3 x4 x5 x6 x7 : Value} {a : Nat} {i : Int32} {st : List Value} {h : AH} : Run M_X9_claps 46 [x0, x1, x2, x3, x4, x5, x6, x7] (.int i :: .ref a :: st) h = if (gI 0 h a i).isSome = true then Run M_X9_claps 47 [x0, x1, x2, x3, x4, x5, x6, x7] (.int ((gI 0 h a i).getD 0) :: st) h else none := R_iaload d_X9_claps_46
theorem d_X9_claps_47 : decode (mB M_X9_claps) 47 = .ok (.iconst 2, 1) := by decide +kernel
theorem r_X9_claps_47 {x0 x1 x2 x3 x4 x5 x6 x7 : Value} {st : List Value} {h : AH} : Run M_X9_claps 47 [x0, x1, x2, x3, x4, x5, x6, x7] st h = Run M_X9_claps 48 [x0, x1, x2, x3, x4, x5, x6, x7] (.int (nI 2) :: st) h := R_iconst d_X9_claps_47 (by decide)
theorem d_X9_claps_48 : decode (mB M_X9_claps) 48 = .ok (.if_icmp .ne 41, 3) := by decide +kernel
theorem r_X9_claps_48 {x0 x1 x2 x3 x4 x5 x6 x7 : Value} {x y : Int32} {st : List Value} {h : AH} : Run M_X9_claps 48 [x0, x1, x2, x3, x4, x5, x6, x7] (.int y :: .int x :: st) h = if x = y then Run M_X9_claps 51 [x0, x1, x2, x3, x4, x5, x6, x7] st h else Run M_X9_claps 89 [x0, x1, x2, x3, x4, x5, x6, x7] st h := R_icmp_ne d_X9_claps_48 (by decide)
theorem d_X9_claps_51 : decode (mB M_X9_claps) 51 = .ok (.lload_n 3, 1) := by decide +kernel
theorem r_X9_claps_51 {x0 x1 x2 x4 x5 x6 x7 : Value} {a : Int64} {st : List Value} {h : AH} : Run M_X9_claps 51 [x0, x1, x2, .long a, x4, x5, x6, x7] st h = Run M_X9_claps 52 [x0, x1, x2, .long a, x4, x5, x6, x7] (.long a :: st) h := R_lload_n d_X9_claps_51 rfl
theorem d_X9_claps_52 : decode (mB M_X9_claps) 52 = .ok (.bipush 8, 2) := by decide +kernel
theorem r_X9_claps_52 {x0 x1 x2 x3 x4 x5 x6 x7 : Value} {st : List Value} {h : AH} : Run M_X9_claps 52 [x0, x1, x2, x3, x4, x5, x6, x7] st h = Run M_X9_claps 54 [x0, x1, x2, x3, x4, x5, x6, x7] (.int (nI 8) :: st) h := R_bipush d_X9_claps_52 (by decide)
theorem d_X9_claps_54 : decode (mB M_X9_claps) 54 = .ok (.aload_n 0, 1) := by decide +kernel
theorem r_X9_claps_54 {x1 x2 x3 x4 x5 x6 x7 : Value} {a : Nat} {st : List Value} {h : AH} : Run M_X9_claps 54 [.ref a, x1, x2, x3, x4, x5, x6, x7] st h = Run M_X9_claps 55 [.ref a, x1, x2, x3, x4, x5, x6, x7] (.ref a :: st) h := R_aload_n d_X9_claps_54 rfl
theorem d_X9_claps_55 : decode (mB M_X9_claps) 55 = .ok (.getfield 23, 3) := by decide +kernel
theorem r_X9_claps_55 {x0 x1 x2 x3 x4 x5 x6 x7 : Value} {a : Nat} {st : List Value} {h : AH} : Run M_X9_claps 55 [x0, x1, x2, x3, x4, x5, x6, x7] (.ref a :: st) h = if (gF h a 9 5).isSome = true then Run M_X9_claps 58 [x0, x1, x2, x3, x4, x5, x6, x7] ((gF h a 9 5).getD .null :: st) h else none := R_getfield d_X9_claps_55 rfl
theorem d_X9_claps_58 : decode (mB M_X9_claps) 58 = .ok (.iload 7, 2) := by decide +kernel
theorem r_X9_claps_58 {x0 x1 x2 x3 x4 x5 x6 : Value} {a : Int32} {st : List Value} {h : AH} : Run M_X9_claps 58 [x0, x1, x2, x3, x4, x5, x6, .int a] st h = Run M_X9_claps 60 [x0, x1, x2, x3, x4, x5, x6, .int a] (.int a :: st) h := R_iload d_X9_claps_58 rfl
theorem d_X9_claps_60 : decode (mB M_X9_claps) 60 = .ok (.iaload, 1) := by decide +kernel
theorem r_X9_claps_60 {x0 x1 x2 x3 x4 x5 x6 x7 : Value} {a : Nat} {i : Int32} {st : List Value} {h : AH} : Run M_X9_claps 60 [x0, x1, x2, x3, x4, x5, x6, x7] (.int i :: .ref a :: st) h = if (gI 0 h a i).isSome = true then Run M_X9_claps 61 [x0, x1, x2, x3, x4, x5, x6, x7] (.int ((gI 0 h a i).getD 0) :: st) h else none := R_iaload d_X9_claps_60
theorem d_X9_claps_61 : decode (mB M_X9_claps) 61 = .ok (.imul, 1) := by decide +kernel
theorem r_X9_claps_61 {x0 x1 x2 x3 x4 x5 x6 x7 : Value} {x y : Int32} {st : List Value} {h : AH} : Run M_X9_claps 61 [x0, x1, x2, x3, x4, x5, x6, x7] (.int y :: .int x :: st) h = Run M_X9_claps 62 [x0, x1, x2, x3, x4, x5, x6, x7] (.int (x * y) :: st) h := R_imul d_X9_claps_61
theorem d_X9_claps_62 : decode (mB M_X9_claps) 62 = .ok (.bipush 8, 2) := by decide +kernel
theorem r_X9_claps_62 {x0 x1 x2 x3 x4 x5 x6 x7 : Value} {st : List Value} {h : AH} : Run M_X9_claps 62 [x0, x1, x2, x3, x4, x5, x6, x7] st h = Run M_X9_claps 64 [x0, x1, x2, x3, x4, x5, x6, x7] (.int (nI 8) :: st) h := R_bipush d_X9_claps_62 (by decide)
theorem d_X9_claps_64 : decode (mB M_X9_claps) 64 = .ok (.aload_n 0, 1) := by decide +kernel
theorem r_X9_claps_64 {x1 x2 x3 x4 x5 x6 x7 : Value} {a : Nat} {st : List Value} {h : AH} : Run M_X9_claps 64 [.ref a, x1, x2, x3, x4, x5, x6, x7] st h = Run M_X9_claps 65 [.ref a, x1, x2, x3, x4, x5, x6, x7] (.ref a :: st) h := R_aload_n d_X9_claps_64 rfl
theorem d_X9_claps_65 : decode (mB M_X9_claps) 65 = .ok (.getfield 23, 3) := by decide +kernel
theorem r_X9_claps_65 {x0 x1 x2 x3 x4 x5 x6 x7 : Value} {a : Nat} {st : List Value} {h : AH} : Run M_X9_claps 65 [x0, x1, x2, x3, x4, x5, x6, x7] (.ref a :: st) h = if (gF h a 9 5).isSome = true then Run M_X9_claps 68 [x0, x1, x2, x3, x4, x5, x6, x7] ((gF h a 9 5).getD .null :: st) h else none := R_getfield d_X9_claps_65 rfl
theorem d_X9_claps_68 : decode (mB M_X9_claps) 68 = .ok (.iload 7, 2) := by decide +kernel
theorem r_X9_claps_68 {x0 x1 x2 x3 x4 x5 x6 : Value} {a : Int32} {st : List Value} {h : AH} : Run M_X9_claps 68 [x0, x1, x2, x3, x4, x5, x6, .int a] st h = Run M_X9_claps 70 [x0, x1, x2, x3, x4, x5, x6, .int a] (.int a :: st) h := R_iload d_X9_claps_68 rfl
theorem d_X9_claps_70 : decode (mB M_X9_claps) 70 = .ok (.iaload, 1) := by decide +kernel
theorem r_X9_claps_70 {x0 x1 x2 x3 x4 x5 x6 x7 : Value} {a : Nat} {i : Int32} {st : List Value} {h : AH} : Run M_X9_claps 70 [x0, x1, x2, x3, x4, x5, x6, x7] (.int i :: .ref a :: st) h = if (gI 0 h a i).isSome = true then Run M_X9_claps 71 [x0, x1, x2, x3, x4, x5, x6, x7] (.int ((gI 0 h a i).getD 0) :: st) h else none := R_iaload d_X9_claps_70
theorem d_X9_claps_71 : decode (mB M_X9_claps) 71 = .ok (.isub, 1) := by decide +kernel
theorem r_X9_claps_71 {x0 x1 x2 x3 x4 x5 x6 x7 : Value} {x y : Int32} {st : List Value} {h : AH} : Run M_X9_claps 71 [x0, x1, x2, x3, x4, x5, x6, x7] (.int y :: .int x :: st) h = Run M_X9_claps 72 [x0, x1, x2, x3, x4, x5, x6, x7] (.int (x - y) :: st) h := R_isub d_X9_claps_71
theorem d_X9_claps_72 : decode (mB M_X9_claps) 72 = .ok (.bipush 8, 2) := by decide +kernel
theorem r_X9_claps_72 {x0 x1 x2 x3 x4 x5 x6 x7 : Value} {st : List Value} {h : AH} : Run M_X9_claps 72 [x0, x1, x2, x3, x4, x5, x6, x7] st h = Run M_X9_claps 74 [x0, x1, x2, x3, x4, x5, x6, x7] (.int (nI 8) :: st) h := R_bipush d_X9_claps_72 (by decide)
theorem d_X9_claps_74 : decode (mB M_X9_claps) 74 = .ok (.iload_n 1, 1) := by decide +kernel
theorem r_X9_claps_74 {x0 x2 x3 x4 x5 x6 x7 : Value} {a : Int32} {st : List Value} {h : AH} : Run M_X9_claps 74 [x0, .int a, x2, x3, x4, x5, x6, x7] st h = Run M_X9_claps 75 [x0, .int a, x2, x3, x4, x5, x6, x7] (.int a :: st) h := R_iload_n d_X9_claps_74 rfl
theorem d_X9_claps_75 : decode (mB M_X9_claps) 75 = .ok (.isub, 1) := by decide +kernel
theorem r_X9_claps_75 {x0 x1 x2 x3 x4 x5 x6 x7 : Value} {x y : Int32} {st : List Value} {h : AH} : Run M_X9_claps 75 [x0, x1, x2, x3, x4, x5, x6, x7] (.int y :: .int x :: st) h = Run M_X9_claps 76 [x0, x1, x2, x3, x4, x5, x6, x7] (.int (x - y) :: st) h := R_isub d_X9_claps_75
theorem d_X9_claps_76 : decode (mB M_X9_claps) 76 = .ok (.imul, 1) := by decide +kernel
theorem r_X9_claps_76 {x0 x1 x2 x3 x4 x5 x6 x7 : Value} {x y : Int32} {st : List Value} {h : AH} : Run M_X9_claps 76 [x0, x1, x2, x3, x4, x5, x6, x7] (.int y :: .int x :: st) h = Run M_X9_claps 77 [x0, x1, x2, x3, x4, x5, x6, x7] (.int (x * y) :: st) h := R_imul d_X9_claps_76
theorem d_X9_claps_77 : decode (mB M_X9_claps) 77 = .ok (.iadd, 1) := by decide +kernel
theorem r_X9_claps_77 {x0 x1 x2 x3 x4 x5 x6 x7 : Value} {x y : Int32} {st : List Value} {h : AH} : Run M_X9_claps 77 [x0, x1, x2, x3, x4, x5, x6, x7] (.int y :: .int x :: st) h = Run M_X9_claps 78 [x0, x1, x2, x3, x4, x5, x6, x7] (.int (x + y) :: st) h := R_iadd d_X9_claps_77
theorem d_X9_claps_78 : decode (mB M_X9_claps) 78 = .ok (.i2l, 1) := by decide +kernel
theorem r_X9_claps_78 {x0 x1 x2 x3 x4 x5 x6 x7 : Value} {x : Int32} {st : List Value} {h : AH} : Run M_X9_claps 78 [x0, x1, x2, x3, x4, x5, x6, x7] (.int x :: st) h = Run M_X9_claps 79 [x0, x1, x2, x3, x4, x5, x6, x7] (.long x.toInt64 :: st) h := R_i2l d_X9_claps_78
theorem d_X9_claps_79 : decode (mB M_X9_claps) 79 = .ok (.lmul, 1) := by decide +kernel
theorem r_X9_claps_79 {x0 x1 x2 x3 x4 x5 x6 x7 : Value} {x y : Int64} {st : List Value} {h : AH} : Run M_X9_claps 79 [x0, x1, x2, x3, x4, x5, x6, x7] (.long y :: .long x :: st) h = Run M_X9_claps 80 [x0, x1, x2, x3, x4, x5, x6, x7] (.long (x * y) :: st) h := R_lmul d_X9_claps_79
theorem d_X9_claps_80 : decode (mB M_X9_claps) 80 = .ok (.lstore_n 3, 1) := by decide +kernel
theorem r_X9_claps_80 {x0 x1 x2 x3 x4 x5 x6 x7 : Value} {a : Int64} {st : List Value} {h : AH} (hc : x2.category = 1) : Run M_X9_claps 80 [x0, x1, x2, x3, x4, x5, x6, x7] (.long a :: st) h = Run M_X9_claps 81 [x0, x1, x2, .long a, .null, x5, x6, x7] st h := R_lstore_n d_X9_claps_80 (Nat.lt_of_lt_of_le (by decide : 4 < 8) (Nat.le_refl 8)) (catP_of rfl hc)
theorem d_X9_claps_81 : decode (mB M_X9_claps) 81 = .ok (.lload 5, 2) := by decide +kernel
theorem r_X9_claps_81 {x0 x1 x2 x3 x4 x6 x7 : Value} {a : Int64} {st : List Value} {h : AH} : Run M_X9_claps 81 [x0, x1, x2, x3, x4, .long a, x6, x7] st h = Run M_X9_claps 83 [x0, x1, x2, x3, x4, .long a, x6, x7] (.long a :: st) h := R_lload d_X9_claps_81 rfl
theorem d_X9_claps_83 : decode (mB M_X9_claps) 83 = .ok (.ldc2_w 255, 3) := by decide +kernel
theorem r_X9_claps_83 {x0 x1 x2 x3 x4 x5 x6 x7 : Value} {st : List Value} {h : AH} : Run M_X9_claps 83 [x0, x1, x2, x3, x4, x5, x6, x7] st h = Run M_X9_claps 86 [x0, x1, x2, x3, x4, x5, x6, x7] (.long (lN 64) :: st) h := R_ldc2_w d_X9_claps_83 (by decide)
theorem d_X9_claps_86 : decode (mB M_X9_claps) 86 = .ok (.lmul, 1) := by decide +kernel
theorem r_X9_claps_86 {x0 x1 x2 x3 x4 x5 x6 x7 : Value} {x y : Int64} {st : List Value} {h : AH} : Run M_X9_claps 86 [x0, x1, x2, x3, x4, x5, x6, x7] (.long y :: .long x :: st) h = Run M_X9_claps 87 [x0, x1, x2, x3, x4, x5, x6, x7] (.long (x * y) :: st) h := R_lmul d_X9_claps_86
theorem d_X9_claps_87 : decode (mB M_X9_claps) 87 = .ok (.lstore 5, 2) := by decide +kernel
theorem r_X9_claps_87 {x0 x1 x2 x3 x4 x5 x6 x7 : Value} {a : Int64} {st : List Value} {h : AH} (hc : x4.category = 1) : Run M_X9_claps 87 [x0, x1, x2, x3, x4, x5, x6, x7] (.long a :: st) h = Run M_X9_claps 89 [x0, x1, x2, x3, x4, .long a, .null, x7] st h := R_lstore d_X9_claps_87 (Nat.lt_of_lt_of_le (by decide : 6 < 8) (Nat.le_refl 8)) (catP_of rfl hc)
theorem d_X9_claps_89 : decode (mB M_X9_claps) 89 = .ok (.iinc 7 1, 3) := by decide +kernel
theorem r_X9_claps_89 {x0 x1 x2 x3 x4 x5 x6 : Value} {a : Int32} {st : List Value} {h : AH} (hc : x6.category = 1) : Run M_X9_claps 89 [x0, x1, x2, x3, x4, x5, x6, .int a] st h = Run M_X9_claps 92 [x0, x1, x2, x3, x4, x5, x6, .int (a + (nI 1))] st h := R_iinc d_X9_claps_89 (by decide) rfl (catP_of rfl hc)
theorem d_X9_claps_92 : decode (mB M_X9_claps) 92 = .ok (.goto (-61), 3) := by decide +kernel
theorem r_X9_claps_92 {x0 x1 x2 x3 x4 x5 x6 x7 : Value} {st : List Value} {h : AH} : Run M_X9_claps 92 [x0, x1, x2, x3, x4, x5, x6, x7] st h = Run M_X9_claps 31 [x0, x1, x2, x3, x4, x5, x6, x7] st h := R_goto d_X9_claps_92 (by decide)
theorem d_X9_claps_95 : decode (mB M_X9_claps) 95 = .ok (.lload_n 3, 1) := by decide +kernel
theorem r_X9_claps_95 {x0 x1 x2 x4 x5 x6 x7 : Value} {a : Int64} {st : List Value} {h : AH} : Run M_X9_claps 95 [x0, x1, x2, .long a, x4, x5, x6, x7] st h = Run M_X9_claps 96 [x0, x1, x2, .long a, x4, x5, x6, x7] (.long a :: st) h := R_lload_n d_X9_claps_95 rfl
theorem d_X9_claps_96 : decode (mB M_X9_claps) 96 = .ok (.lload 5, 2) := by decide +kernel
theorem r_X9_claps_96 {x0 x1 x2 x3 x4 x6 x7 : Value} {a : Int64} {st : List Value} {h : AH} : Run M_X9_claps 96 [x0, x1, x2, x3, x4, .long a, x6, x7] st h = Run M_X9_claps 98 [x0, x1, x2, x3, x4, .long a, x6, x7] (.long a :: st) h := R_lload d_X9_claps_96 rfl
theorem d_X9_claps_98 : decode (mB M_X9_claps) 98 = .ok (.iload_n 2, 1) := by decide +kernel
theorem r_X9_claps_98 {x0 x1 x3 x4 x5 x6 x7 : Value} {a : Int32} {st : List Value} {h : AH} : Run M_X9_claps 98 [x0, x1, .int a, x3, x4, x5, x6, x7] st h = Run M_X9_claps 99 [x0, x1, .int a, x3, x4, x5, x6, x7] (.int a :: st) h := R_iload_n d_X9_claps_98 rfl
theorem d_X9_claps_99 : decode (mB M_X9_claps) 99 = .ok (.invokestatic 225, 3) := by decide +kernel
theorem r_X9_claps_99 {x0 x1 x2 x3 x4 x5 x6 x7 : Value} {p0 : Int64} {p1 : Int64} {p2 : Int32} {h : AH} : Run M_X9_claps 99 [x0, x1, x2, x3, x4, x5, x6, x7] (.int p2 :: .long p1 :: .long p0 :: []) h = if (Call M_X9_share h [.long p0, .long p1, .int p2]).isSome = true then Run M_X9_claps 102 [x0, x1, x2, x3, x4, x5, x6, x7] (rL (Call M_X9_share h [.long p0, .long p1, .int p2]) ++ []) (cH (Call M_X9_share h [.long p0, .long p1, .int p2])) else none := R_stat d_X9_claps_99 rfl rfl rfl rfl (Nat.le_of_ble_eq_true rfl)
theorem d_X9_claps_102 : decode (mB M_X9_claps) 102 = .ok (.lreturn, 1) := by decide +kernel
theorem r_X9_claps_102 {x0 x1 x2 x3 x4 x5 x6 x7 : Value} {v : Int64} {h : AH} : Run M_X9_claps 102 [x0, x1, x2, x3, x4, x5, x6, x7] [.long v] h = some (h, some (.long v)) := R_lreturn d_X9_claps_102 rfl
theorem d_X9_steps_0 : decode (mB M_X9_steps) 0 = .ok (.iconst 0, 1) := by decide +kernel
theorem r_X9_steps_0 {x0 x1 x2 : Value} {st : List Value} {h : AH} : Run M_X9_steps 0 [x0, x1, x2] st h = Run M_X9_steps 1 [x0, x1, x2] (.int (nI 0) :: st) h := R_iconst d_X9_steps_0 (by decide)
theorem d_X9_steps_1 : decode (mB M_X9_steps) 1 = .ok (.istore_n 2, 1) := by decide +kernel
theorem r_X9_steps_1 {x0 x1 x2 : Value} {a : Int32} {st : List Value} {h : AH} (hc : x1.category = 1) : Run M_X9_steps 1 [x0, x1, x2] (.int a :: st) h = Run M_X9_steps 2 [x0, x1, .int a] st h := R_istore_n d_X9_steps_1 (Nat.lt_of_lt_of_le (by decide : 2 < 3) (Nat.le_refl 3)) (catP_of rfl hc)
theorem d_X9_steps_2 : decode (mB M_X9_steps) 2 = .ok (.iload_n 0, 1) := by decide +kernel
theorem r_X9_steps_2 {x1 x2 : Value} {a : Int32} {st : List Value} {h : AH} : Run M_X9_steps 2 [.int a, x1, x2] st h = Run M_X9_steps 3 [.int a, x1, x2] (.int a :: st) h := R_iload_n d_X9_steps_2 rfl
theorem d_X9_steps_3 : decode (mB M_X9_steps) 3 = .ok (.bipush 7, 2) := by decide +kernel
theorem r_X9_steps_3 {x0 x1 x2 : Value} {st : List Value} {h : AH} : Run M_X9_steps 3 [x0, x1, x2] st h = Run M_X9_steps 5 [x0, x1, x2] (.int (nI 7) :: st) h := R_bipush d_X9_steps_3 (by decide)
theorem d_X9_steps_5 : decode (mB M_X9_steps) 5 = .ok (.iload_n 2, 1) := by decide +kernel
theorem r_X9_steps_5 {x0 x1 : Value} {a : Int32} {st : List Value} {h : AH} : Run M_X9_steps 5 [x0, x1, .int a] st h = Run M_X9_steps 6 [x0, x1, .int a] (.int a :: st) h := R_iload_n d_X9_steps_5 rfl
theorem d_X9_steps_6 : decode (mB M_X9_steps) 6 = .ok (.imul, 1) := by decide +kernel
theorem r_X9_steps_6 {x0 x1 x2 : Value} {x y : Int32} {st : List Value} {h : AH} : Run M_X9_steps 6 [x0, x1, x2] (.int y :: .int x :: st) h = Run M_X9_steps 7 [x0, x1, x2] (.int (x * y) :: st) h := R_imul d_X9_steps_6
theorem d_X9_steps_7 : decode (mB M_X9_steps) 7 = .ok (.iadd, 1) := by decide +kernel
theorem r_X9_steps_7 {x0 x1 x2 : Value} {x y : Int32} {st : List Value} {h : AH} : Run M_X9_steps 7 [x0, x1, x2] (.int y :: .int x :: st) h = Run M_X9_steps 8 [x0, x1, x2] (.int (x + y) :: st) h := R_iadd d_X9_steps_7
theorem d_X9_steps_8 : decode (mB M_X9_steps) 8 = .ok (.bipush 12, 2) := by decide +kernel
theorem r_X9_steps_8 {x0 x1 x2 : Value} {st : List Value} {h : AH} : Run M_X9_steps 8 [x0, x1, x2] st h = Run M_X9_steps 10 [x0, x1, x2] (.int (nI 12) :: st) h := R_bipush d_X9_steps_8 (by decide)
theorem d_X9_steps_10 : decode (mB M_X9_steps) 10 = .ok (.irem, 1) := by decide +kernel
theorem r_X9_steps_10 {x0 x1 x2 : Value} {x y : Int32} {st : List Value} {h : AH} (hy : ¬ y = 0) : Run M_X9_steps 10 [x0, x1, x2] (.int y :: .int x :: st) h = Run M_X9_steps 11 [x0, x1, x2] (.int (x - x / y * y) :: st) h := R_irem d_X9_steps_10 hy
theorem d_X9_steps_11 : decode (mB M_X9_steps) 11 = .ok (.iload_n 1, 1) := by decide +kernel
theorem r_X9_steps_11 {x0 x2 : Value} {a : Int32} {st : List Value} {h : AH} : Run M_X9_steps 11 [x0, .int a, x2] st h = Run M_X9_steps 12 [x0, .int a, x2] (.int a :: st) h := R_iload_n d_X9_steps_11 rfl
theorem d_X9_steps_12 : decode (mB M_X9_steps) 12 = .ok (.if_icmp .eq 9, 3) := by decide +kernel
theorem r_X9_steps_12 {x0 x1 x2 : Value} {x y : Int32} {st : List Value} {h : AH} : Run M_X9_steps 12 [x0, x1, x2] (.int y :: .int x :: st) h = if x = y then Run M_X9_steps 21 [x0, x1, x2] st h else Run M_X9_steps 15 [x0, x1, x2] st h := R_icmp_eq d_X9_steps_12 (by decide)
theorem d_X9_steps_15 : decode (mB M_X9_steps) 15 = .ok (.iinc 2 1, 3) := by decide +kernel
theorem r_X9_steps_15 {x0 x1 : Value} {a : Int32} {st : List Value} {h : AH} (hc : x1.category = 1) : Run M_X9_steps 15 [x0, x1, .int a] st h = Run M_X9_steps 18 [x0, x1, .int (a + (nI 1))] st h := R_iinc d_X9_steps_15 (by decide) rfl (catP_of rfl hc)
theorem d_X9_steps_18 : decode (mB M_X9_steps) 18 = .ok (.goto (-16), 3) := by decide +kernel
theorem r_X9_steps_18 {x0 x1 x2 : Value} {st : List Value} {h : AH} : Run M_X9_steps 18 [x0, x1, x2] st h = Run M_X9_steps 2 [x0, x1, x2] st h := R_goto d_X9_steps_18 (by decide)
theorem d_X9_steps_21 : decode (mB M_X9_steps) 21 = .ok (.iload_n 2, 1) := by decide +kernel
theorem r_X9_steps_21 {x0 x1 : Value} {a : Int32} {st : List Value} {h : AH} : Run M_X9_steps 21 [x0, x1, .int a] st h = Run M_X9_steps 22 [x0, x1, .int a] (.int a :: st) h := R_iload_n d_X9_steps_21 rfl
theorem d_X9_steps_22 : decode (mB M_X9_steps) 22 = .ok (.bipush 12, 2) := by decide +kernel
theorem r_X9_steps_22 {x0 x1 x2 : Value} {st : List Value} {h : AH} : Run M_X9_steps 22 [x0, x1, x2] st h = Run M_X9_steps 24 [x0, x1, x2] (.int (nI 12) :: st) h := R_bipush d_X9_steps_22 (by decide)
theorem d_X9_steps_24 : decode (mB M_X9_steps) 24 = .ok (.iload_n 2, 1) := by decide +kernel
theorem r_X9_steps_24 {x0 x1 : Value} {a : Int32} {st : List Value} {h : AH} : Run M_X9_steps 24 [x0, x1, .int a] st h = Run M_X9_steps 25 [x0, x1, .int a] (.int a :: st) h := R_iload_n d_X9_steps_24 rfl
theorem d_X9_steps_25 : decode (mB M_X9_steps) 25 = .ok (.isub, 1) := by decide +kernel
theorem r_X9_steps_25 {x0 x1 x2 : Value} {x y : Int32} {st : List Value} {h : AH} : Run M_X9_steps 25 [x0, x1, x2] (.int y :: .int x :: st) h = Run M_X9_steps 26 [x0, x1, x2] (.int (x - y) :: st) h := R_isub d_X9_steps_25
theorem d_X9_steps_26 : decode (mB M_X9_steps) 26 = .ok (.if_icmp .ge 7, 3) := by decide +kernel
theorem r_X9_steps_26 {x0 x1 x2 : Value} {x y : Int32} {st : List Value} {h : AH} : Run M_X9_steps 26 [x0, x1, x2] (.int y :: .int x :: st) h = if y ≤ x then Run M_X9_steps 33 [x0, x1, x2] st h else Run M_X9_steps 29 [x0, x1, x2] st h := R_icmp_ge d_X9_steps_26 (by decide)
theorem d_X9_steps_29 : decode (mB M_X9_steps) 29 = .ok (.iload_n 2, 1) := by decide +kernel
theorem r_X9_steps_29 {x0 x1 : Value} {a : Int32} {st : List Value} {h : AH} : Run M_X9_steps 29 [x0, x1, .int a] st h = Run M_X9_steps 30 [x0, x1, .int a] (.int a :: st) h := R_iload_n d_X9_steps_29 rfl
theorem d_X9_steps_30 : decode (mB M_X9_steps) 30 = .ok (.goto 7, 3) := by decide +kernel
theorem r_X9_steps_30 {x0 x1 x2 : Value} {st : List Value} {h : AH} : Run M_X9_steps 30 [x0, x1, x2] st h = Run M_X9_steps 37 [x0, x1, x2] st h := R_goto d_X9_steps_30 (by decide)
theorem d_X9_steps_33 : decode (mB M_X9_steps) 33 = .ok (.bipush 12, 2) := by decide +kernel
theorem r_X9_steps_33 {x0 x1 x2 : Value} {st : List Value} {h : AH} : Run M_X9_steps 33 [x0, x1, x2] st h = Run M_X9_steps 35 [x0, x1, x2] (.int (nI 12) :: st) h := R_bipush d_X9_steps_33 (by decide)
theorem d_X9_steps_35 : decode (mB M_X9_steps) 35 = .ok (.iload_n 2, 1) := by decide +kernel
theorem r_X9_steps_35 {x0 x1 : Value} {a : Int32} {st : List Value} {h : AH} : Run M_X9_steps 35 [x0, x1, .int a] st h = Run M_X9_steps 36 [x0, x1, .int a] (.int a :: st) h := R_iload_n d_X9_steps_35 rfl
theorem d_X9_steps_36 : decode (mB M_X9_steps) 36 = .ok (.isub, 1) := by decide +kernel
theorem r_X9_steps_36 {x0 x1 x2 : Value} {x y : Int32} {st : List Value} {h : AH} : Run M_X9_steps 36 [x0, x1, x2] (.int y :: .int x :: st) h = Run M_X9_steps 37 [x0, x1, x2] (.int (x - y) :: st) h := R_isub d_X9_steps_36
theorem d_X9_steps_37 : decode (mB M_X9_steps) 37 = .ok (.ireturn, 1) := by decide +kernel
theorem r_X9_steps_37 {x0 x1 x2 : Value} {v : Int32} {h : AH} : Run M_X9_steps 37 [x0, x1, x2] [.int v] h = some (h, some (.int v)) := R_ireturn d_X9_steps_37 rfl rfl
theorem d_X9_lost_0 : decode (mB M_X9_lost) 0 = .ok (.aload_n 0, 1) := by decide +kernel
theorem r_X9_lost_0 {x1 x2 : Value} {a : Nat} {st : List Value} {h : AH} : Run M_X9_lost 0 [.ref a, x1, x2] st h = Run M_X9_lost 1 [.ref a, x1, x2] (.ref a :: st) h := R_aload_n d_X9_lost_0 rfl
theorem d_X9_lost_1 : decode (mB M_X9_lost) 1 = .ok (.iload_n 1, 1) := by decide +kernel
theorem r_X9_lost_1 {x0 x2 : Value} {a : Int32} {st : List Value} {h : AH} : Run M_X9_lost 1 [x0, .int a, x2] st h = Run M_X9_lost 2 [x0, .int a, x2] (.int a :: st) h := R_iload_n d_X9_lost_1 rfl
theorem d_X9_lost_2 : decode (mB M_X9_lost) 2 = .ok (.invokevirtual 191, 3) := by decide +kernel
theorem r_X9_lost_2 {x0 x1 x2 : Value} {p0 : Int32} {a : Nat} {h : AH} : Run M_X9_lost 2 [x0, x1, x2] (.int p0 :: .ref a :: []) h = if refO h 9 (some (.ref a)) = true then (if (Call M_X9_isPart h [.ref a, .int p0]).isSome = true then Run M_X9_lost 5 [x0, x1, x2] (rL (Call M_X9_isPart h [.ref a, .int p0]) ++ []) (cH (Call M_X9_isPart h [.ref a, .int p0])) else none) else none := R_virt d_X9_lost_2 rfl rfl rfl rfl rfl (Nat.le_of_ble_eq_true rfl)
theorem d_X9_lost_5 : decode (mB M_X9_lost) 5 = .ok (.ifCond .ne 6, 3) := by decide +kernel
theorem r_X9_lost_5 {x0 x1 x2 : Value} {x : Int32} {st : List Value} {h : AH} : Run M_X9_lost 5 [x0, x1, x2] (.int x :: st) h = if x = nI 0 then Run M_X9_lost 8 [x0, x1, x2] st h else Run M_X9_lost 11 [x0, x1, x2] st h := R_if_ne d_X9_lost_5 (by decide)
theorem d_X9_lost_8 : decode (mB M_X9_lost) 8 = .ok (.ldc 195, 2) := by decide +kernel
theorem r_X9_lost_8 {x0 x1 x2 : Value} {st : List Value} {h : AH} : Run M_X9_lost 8 [x0, x1, x2] st h = Run M_X9_lost 10 [x0, x1, x2] (.int (-1000000001) :: st) h := R_ldc d_X9_lost_8 (by decide)
theorem d_X9_lost_10 : decode (mB M_X9_lost) 10 = .ok (.ireturn, 1) := by decide +kernel
theorem r_X9_lost_10 {x0 x1 x2 : Value} {v : Int32} {h : AH} : Run M_X9_lost 10 [x0, x1, x2] [.int v] h = some (h, some (.int v)) := R_ireturn d_X9_lost_10 rfl rfl
theorem d_X9_lost_11 : decode (mB M_X9_lost) 11 = .ok (.iload_n 2, 1) := by decide +kernel
theorem r_X9_lost_11 {x0 x1 : Value} {a : Int32} {st : List Value} {h : AH} : Run M_X9_lost 11 [x0, x1, .int a] st h = Run M_X9_lost 12 [x0, x1, .int a] (.int a :: st) h := R_iload_n d_X9_lost_11 rfl
theorem d_X9_lost_12 : decode (mB M_X9_lost) 12 = .ok (.iconst 0, 1) := by decide +kernel
theorem r_X9_lost_12 {x0 x1 x2 : Value} {st : List Value} {h : AH} : Run M_X9_lost 12 [x0, x1, x2] st h = Run M_X9_lost 13 [x0, x1, x2] (.int (nI 0) :: st) h := R_iconst d_X9_lost_12 (by decide)
theorem d_X9_lost_13 : decode (mB M_X9_lost) 13 = .ok (.bipush 11, 2) := by decide +kernel
theorem r_X9_lost_13 {x0 x1 x2 : Value} {st : List Value} {h : AH} : Run M_X9_lost 13 [x0, x1, x2] st h = Run M_X9_lost 15 [x0, x1, x2] (.int (nI 11) :: st) h := R_bipush d_X9_lost_13 (by decide)
theorem d_X9_lost_15 : decode (mB M_X9_lost) 15 = .ok (.invokestatic 85, 3) := by decide +kernel
theorem r_X9_lost_15 {x0 x1 x2 : Value} {p0 : Int32} {p1 : Int32} {p2 : Int32} {h : AH} : Run M_X9_lost 15 [x0, x1, x2] (.int p2 :: .int p1 :: .int p0 :: []) h = if (Call M_X9_in h [.int p0, .int p1, .int p2]).isSome = true then Run M_X9_lost 18 [x0, x1, x2] (rL (Call M_X9_in h [.int p0, .int p1, .int p2]) ++ []) (cH (Call M_X9_in h [.int p0, .int p1, .int p2])) else none := R_stat d_X9_lost_15 rfl rfl rfl rfl (Nat.le_of_ble_eq_true rfl)
theorem d_X9_lost_18 : decode (mB M_X9_lost) 18 = .ok (.ifCond .eq 16, 3) := by decide +kernel
theorem r_X9_lost_18 {x0 x1 x2 : Value} {x : Int32} {st : List Value} {h : AH} : Run M_X9_lost 18 [x0, x1, x2] (.int x :: st) h = if x = nI 0 then Run M_X9_lost 34 [x0, x1, x2] st h else Run M_X9_lost 21 [x0, x1, x2] st h := R_if_eq d_X9_lost_18 (by decide)
theorem d_X9_lost_21 : decode (mB M_X9_lost) 21 = .ok (.iload_n 2, 1) := by decide +kernel
theorem r_X9_lost_21 {x0 x1 : Value} {a : Int32} {st : List Value} {h : AH} : Run M_X9_lost 21 [x0, x1, .int a] st h = Run M_X9_lost 22 [x0, x1, .int a] (.int a :: st) h := R_iload_n d_X9_lost_21 rfl
theorem d_X9_lost_22 : decode (mB M_X9_lost) 22 = .ok (.aload_n 0, 1) := by decide +kernel
theorem r_X9_lost_22 {x1 x2 : Value} {a : Nat} {st : List Value} {h : AH} : Run M_X9_lost 22 [.ref a, x1, x2] st h = Run M_X9_lost 23 [.ref a, x1, x2] (.ref a :: st) h := R_aload_n d_X9_lost_22 rfl
theorem d_X9_lost_23 : decode (mB M_X9_lost) 23 = .ok (.getfield 26, 3) := by decide +kernel
theorem r_X9_lost_23 {x0 x1 x2 : Value} {a : Nat} {st : List Value} {h : AH} : Run M_X9_lost 23 [x0, x1, x2] (.ref a :: st) h = if (gF h a 9 6).isSome = true then Run M_X9_lost 26 [x0, x1, x2] ((gF h a 9 6).getD .null :: st) h else none := R_getfield d_X9_lost_23 rfl
theorem d_X9_lost_26 : decode (mB M_X9_lost) 26 = .ok (.iload_n 1, 1) := by decide +kernel
theorem r_X9_lost_26 {x0 x2 : Value} {a : Int32} {st : List Value} {h : AH} : Run M_X9_lost 26 [x0, .int a, x2] st h = Run M_X9_lost 27 [x0, .int a, x2] (.int a :: st) h := R_iload_n d_X9_lost_26 rfl
theorem d_X9_lost_27 : decode (mB M_X9_lost) 27 = .ok (.iaload, 1) := by decide +kernel
theorem r_X9_lost_27 {x0 x1 x2 : Value} {a : Nat} {i : Int32} {st : List Value} {h : AH} : Run M_X9_lost 27 [x0, x1, x2] (.int i :: .ref a :: st) h = if (gI 0 h a i).isSome = true then Run M_X9_lost 28 [x0, x1, x2] (.int ((gI 0 h a i).getD 0) :: st) h else none := R_iaload d_X9_lost_27
theorem d_X9_lost_28 : decode (mB M_X9_lost) 28 = .ok (.invokestatic 257, 3) := by decide +kernel
theorem r_X9_lost_28 {x0 x1 x2 : Value} {p0 : Int32} {p1 : Int32} {h : AH} : Run M_X9_lost 28 [x0, x1, x2] (.int p1 :: .int p0 :: []) h = if (Call M_X9_steps h [.int p0, .int p1]).isSome = true then Run M_X9_lost 31 [x0, x1, x2] (rL (Call M_X9_steps h [.int p0, .int p1]) ++ []) (cH (Call M_X9_steps h [.int p0, .int p1])) else none := R_stat d_X9_lost_28 rfl rfl rfl rfl (Nat.le_of_ble_eq_true rfl)
theorem d_X9_lost_31 : decode (mB M_X9_lost) 31 = .ok (.goto 5, 3) := by decide +kernel
theorem r_X9_lost_31 {x0 x1 x2 : Value} {st : List Value} {h : AH} : Run M_X9_lost 31 [x0, x1, x2] st h = Run M_X9_lost 36 [x0, x1, x2] st h := R_goto d_X9_lost_31 (by decide)
theorem d_X9_lost_34 : decode (mB M_X9_lost) 34 = .ok (.ldc 92, 2) := by decide +kernel
theorem r_X9_lost_34 {x0 x1 x2 : Value} {st : List Value} {h : AH} : Run M_X9_lost 34 [x0, x1, x2] st h = Run M_X9_lost 36 [x0, x1, x2] (.int (-1000000002) :: st) h := R_ldc d_X9_lost_34 (by decide)
theorem d_X9_lost_36 : decode (mB M_X9_lost) 36 = .ok (.ireturn, 1) := by decide +kernel
theorem r_X9_lost_36 {x0 x1 x2 : Value} {v : Int32} {h : AH} : Run M_X9_lost 36 [x0, x1, x2] [.int v] h = some (h, some (.int v)) := R_ireturn d_X9_lost_36 rfl rfl
theorem d_X9_help_0 : decode (mB M_X9_help) 0 = .ok (.aload_n 0, 1) := by decide +kernel
theorem r_X9_help_0 {x1 x2 x3 x4 x5 x6 x7 : Value} {a : Nat} {st : List Value} {h : AH} : Run M_X9_help 0 [.ref a, x1, x2, x3, x4, x5, x6, x7] st h = Run M_X9_help 1 [.ref a, x1, x2, x3, x4, x5, x6, x7] (.ref a :: st) h := R_aload_n d_X9_help_0 rfl
theorem d_X9_help_1 : decode (mB M_X9_help) 1 = .ok (.iload_n 1, 1) := by decide +kernel
theorem r_X9_help_1 {x0 x2 x3 x4 x5 x6 x7 : Value} {a : Int32} {st : List Value} {h : AH} : Run M_X9_help 1 [x0, .int a, x2, x3, x4, x5, x6, x7] st h = Run M_X9_help 2 [x0, .int a, x2, x3, x4, x5, x6, x7] (.int a :: st) h := R_iload_n d_X9_help_1 rfl
theorem d_X9_help_2 : decode (mB M_X9_help) 2 = .ok (.invokevirtual 191, 3) := by decide +kernel
theorem r_X9_help_2 {x0 x1 x2 x3 x4 x5 x6 x7 : Value} {p0 : Int32} {a : Nat} {h : AH} : Run M_X9_help 2 [x0, x1, x2, x3, x4, x5, x6, x7] (.int p0 :: .ref a :: []) h = if refO h 9 (some (.ref a)) = true then (if (Call M_X9_isPart h [.ref a, .int p0]).isSome = true then Run M_X9_help 5 [x0, x1, x2, x3, x4, x5, x6, x7] (rL (Call M_X9_isPart h [.ref a, .int p0]) ++ []) (cH (Call M_X9_isPart h [.ref a, .int p0])) else none) else none := R_virt d_X9_help_2 rfl rfl rfl rfl rfl (Nat.le_of_ble_eq_true rfl)
theorem d_X9_help_5 : decode (mB M_X9_help) 5 = .ok (.ifCond .ne 6, 3) := by decide +kernel
theorem r_X9_help_5 {x0 x1 x2 x3 x4 x5 x6 x7 : Value} {x : Int32} {st : List Value} {h : AH} : Run M_X9_help 5 [x0, x1, x2, x3, x4, x5, x6, x7] (.int x :: st) h = if x = nI 0 then Run M_X9_help 8 [x0, x1, x2, x3, x4, x5, x6, x7] st h else Run M_X9_help 11 [x0, x1, x2, x3, x4, x5, x6, x7] st h := R_if_ne d_X9_help_5 (by decide)
theorem d_X9_help_8 : decode (mB M_X9_help) 8 = .ok (.ldc 195, 2) := by decide +kernel
theorem r_X9_help_8 {x0 x1 x2 x3 x4 x5 x6 x7 : Value} {st : List Value} {h : AH} : Run M_X9_help 8 [x0, x1, x2, x3, x4, x5, x6, x7] st h = Run M_X9_help 10 [x0, x1, x2, x3, x4, x5, x6, x7] (.int (-1000000001) :: st) h := R_ldc d_X9_help_8 (by decide)
theorem d_X9_help_10 : decode (mB M_X9_help) 10 = .ok (.ireturn, 1) := by decide +kernel
theorem r_X9_help_10 {x0 x1 x2 x3 x4 x5 x6 x7 : Value} {v : Int32} {h : AH} : Run M_X9_help 10 [x0, x1, x2, x3, x4, x5, x6, x7] [.int v] h = some (h, some (.int v)) := R_ireturn d_X9_help_10 rfl rfl
theorem d_X9_help_11 : decode (mB M_X9_help) 11 = .ok (.iload_n 2, 1) := by decide +kernel
theorem r_X9_help_11 {x0 x1 x3 x4 x5 x6 x7 : Value} {a : Int32} {st : List Value} {h : AH} : Run M_X9_help 11 [x0, x1, .int a, x3, x4, x5, x6, x7] st h = Run M_X9_help 12 [x0, x1, .int a, x3, x4, x5, x6, x7] (.int a :: st) h := R_iload_n d_X9_help_11 rfl
theorem d_X9_help_12 : decode (mB M_X9_help) 12 = .ok (.iconst 0, 1) := by decide +kernel
theorem r_X9_help_12 {x0 x1 x2 x3 x4 x5 x6 x7 : Value} {st : List Value} {h : AH} : Run M_X9_help 12 [x0, x1, x2, x3, x4, x5, x6, x7] st h = Run M_X9_help 13 [x0, x1, x2, x3, x4, x5, x6, x7] (.int (nI 0) :: st) h := R_iconst d_X9_help_12 (by decide)
theorem d_X9_help_13 : decode (mB M_X9_help) 13 = .ok (.bipush 11, 2) := by decide +kernel
theorem r_X9_help_13 {x0 x1 x2 x3 x4 x5 x6 x7 : Value} {st : List Value} {h : AH} : Run M_X9_help 13 [x0, x1, x2, x3, x4, x5, x6, x7] st h = Run M_X9_help 15 [x0, x1, x2, x3, x4, x5, x6, x7] (.int (nI 11) :: st) h := R_bipush d_X9_help_13 (by decide)
theorem d_X9_help_15 : decode (mB M_X9_help) 15 = .ok (.invokestatic 85, 3) := by decide +kernel
theorem r_X9_help_15 {x0 x1 x2 x3 x4 x5 x6 x7 : Value} {p0 : Int32} {p1 : Int32} {p2 : Int32} {h : AH} : Run M_X9_help 15 [x0, x1, x2, x3, x4, x5, x6, x7] (.int p2 :: .int p1 :: .int p0 :: []) h = if (Call M_X9_in h [.int p0, .int p1, .int p2]).isSome = true then Run M_X9_help 18 [x0, x1, x2, x3, x4, x5, x6, x7] (rL (Call M_X9_in h [.int p0, .int p1, .int p2]) ++ []) (cH (Call M_X9_in h [.int p0, .int p1, .int p2])) else none := R_stat d_X9_help_15 rfl rfl rfl rfl (Nat.le_of_ble_eq_true rfl)
theorem d_X9_help_18 : decode (mB M_X9_help) 18 = .ok (.ifCond .ne 6, 3) := by decide +kernel
theorem r_X9_help_18 {x0 x1 x2 x3 x4 x5 x6 x7 : Value} {x : Int32} {st : List Value} {h : AH} : Run M_X9_help 18 [x0, x1, x2, x3, x4, x5, x6, x7] (.int x :: st) h = if x = nI 0 then Run M_X9_help 21 [x0, x1, x2, x3, x4, x5, x6, x7] st h else Run M_X9_help 24 [x0, x1, x2, x3, x4, x5, x6, x7] st h := R_if_ne d_X9_help_18 (by decide)
theorem d_X9_help_21 : decode (mB M_X9_help) 21 = .ok (.ldc 92, 2) := by decide +kernel
theorem r_X9_help_21 {x0 x1 x2 x3 x4 x5 x6 x7 : Value} {st : List Value} {h : AH} : Run M_X9_help 21 [x0, x1, x2, x3, x4, x5, x6, x7] st h = Run M_X9_help 23 [x0, x1, x2, x3, x4, x5, x6, x7] (.int (-1000000002) :: st) h := R_ldc d_X9_help_21 (by decide)
theorem d_X9_help_23 : decode (mB M_X9_help) 23 = .ok (.ireturn, 1) := by decide +kernel
theorem r_X9_help_23 {x0 x1 x2 x3 x4 x5 x6 x7 : Value} {v : Int32} {h : AH} : Run M_X9_help 23 [x0, x1, x2, x3, x4, x5, x6, x7] [.int v] h = some (h, some (.int v)) := R_ireturn d_X9_help_23 rfl rfl
theorem d_X9_help_24 : decode (mB M_X9_help) 24 = .ok (.iconst (-1), 1) := by decide +kernel
theorem r_X9_help_24 {x0 x1 x2 x3 x4 x5 x6 x7 : Value} {st : List Value} {h : AH} : Run M_X9_help 24 [x0, x1, x2, x3, x4, x5, x6, x7] st h = Run M_X9_help 25 [x0, x1, x2, x3, x4, x5, x6, x7] (.int (-1) :: st) h := R_iconst d_X9_help_24 (by decide)
theorem d_X9_help_25 : decode (mB M_X9_help) 25 = .ok (.istore_n 3, 1) := by decide +kernel
theorem r_X9_help_25 {x0 x1 x2 x3 x4 x5 x6 x7 : Value} {a : Int32} {st : List Value} {h : AH} (hc : x2.category = 1) : Run M_X9_help 25 [x0, x1, x2, x3, x4, x5, x6, x7] (.int a :: st) h = Run M_X9_help 26 [x0, x1, x2, .int a, x4, x5, x6, x7] st h := R_istore_n d_X9_help_25 (Nat.lt_of_lt_of_le (by decide : 3 < 8) (Nat.le_refl 8)) (catP_of rfl hc)
theorem d_X9_help_26 : decode (mB M_X9_help) 26 = .ok (.iconst 0, 1) := by decide +kernel
theorem r_X9_help_26 {x0 x1 x2 x3 x4 x5 x6 x7 : Value} {st : List Value} {h : AH} : Run M_X9_help 26 [x0, x1, x2, x3, x4, x5, x6, x7] st h = Run M_X9_help 27 [x0, x1, x2, x3, x4, x5, x6, x7] (.int (nI 0) :: st) h := R_iconst d_X9_help_26 (by decide)
theorem d_X9_help_27 : decode (mB M_X9_help) 27 = .ok (.istore 4, 2) := by decide +kernel
theorem r_X9_help_27 {x0 x1 x2 x3 x4 x5 x6 x7 : Value} {a : Int32} {st : List Value} {h : AH} (hc : x3.category = 1) : Run M_X9_help 27 [x0, x1, x2, x3, x4, x5, x6, x7] (.int a :: st) h = Run M_X9_help 29 [x0, x1, x2, x3, .int a, x5, x6, x7] st h := R_istore d_X9_help_27 (Nat.lt_of_lt_of_le (by decide : 4 < 8) (Nat.le_refl 8)) (catP_of rfl hc)
theorem d_X9_help_29 : decode (mB M_X9_help) 29 = .ok (.iconst 0, 1) := by decide +kernel
theorem r_X9_help_29 {x0 x1 x2 x3 x4 x5 x6 x7 : Value} {st : List Value} {h : AH} : Run M_X9_help 29 [x0, x1, x2, x3, x4, x5, x6, x7] st h = Run M_X9_help 30 [x0, x1, x2, x3, x4, x5, x6, x7] (.int (nI 0) :: st) h := R_iconst d_X9_help_29 (by decide)
theorem d_X9_help_30 : decode (mB M_X9_help) 30 = .ok (.istore 5, 2) := by decide +kernel
theorem r_X9_help_30 {x0 x1 x2 x3 x4 x5 x6 x7 : Value} {a : Int32} {st : List Value} {h : AH} (hc : x4.category = 1) : Run M_X9_help 30 [x0, x1, x2, x3, x4, x5, x6, x7] (.int a :: st) h = Run M_X9_help 32 [x0, x1, x2, x3, x4, .int a, x6, x7] st h := R_istore d_X9_help_30 (Nat.lt_of_lt_of_le (by decide : 5 < 8) (Nat.le_refl 8)) (catP_of rfl hc)
theorem d_X9_help_32 : decode (mB M_X9_help) 32 = .ok (.iload 5, 2) := by decide +kernel
theorem r_X9_help_32 {x0 x1 x2 x3 x4 x6 x7 : Value} {a : Int32} {st : List Value} {h : AH} : Run M_X9_help 32 [x0, x1, x2, x3, x4, .int a, x6, x7] st h = Run M_X9_help 34 [x0, x1, x2, x3, x4, .int a, x6, x7] (.int a :: st) h := R_iload d_X9_help_32 rfl
theorem d_X9_help_34 : decode (mB M_X9_help) 34 = .ok (.aload_n 0, 1) := by decide +kernel
theorem r_X9_help_34 {x1 x2 x3 x4 x5 x6 x7 : Value} {a : Nat} {st : List Value} {h : AH} : Run M_X9_help 34 [.ref a, x1, x2, x3, x4, x5, x6, x7] st h = Run M_X9_help 35 [.ref a, x1, x2, x3, x4, x5, x6, x7] (.ref a :: st) h := R_aload_n d_X9_help_34 rfl
theorem d_X9_help_35 : decode (mB M_X9_help) 35 = .ok (.getfield 182, 3) := by decide +kernel
theorem r_X9_help_35 {x0 x1 x2 x3 x4 x5 x6 x7 : Value} {a : Nat} {st : List Value} {h : AH} : Run M_X9_help 35 [x0, x1, x2, x3, x4, x5, x6, x7] (.ref a :: st) h = if (gF h a 9 10).isSome = true then Run M_X9_help 38 [x0, x1, x2, x3, x4, x5, x6, x7] ((gF h a 9 10).getD .null :: st) h else none := R_getfield d_X9_help_35 rfl
theorem d_X9_help_38 : decode (mB M_X9_help) 38 = .ok (.if_icmp .ge 104, 3) := by decide +kernel
theorem r_X9_help_38 {x0 x1 x2 x3 x4 x5 x6 x7 : Value} {x y : Int32} {st : List Value} {h : AH} : Run M_X9_help 38 [x0, x1, x2, x3, x4, x5, x6, x7] (.int y :: .int x :: st) h = if y ≤ x then Run M_X9_help 142 [x0, x1, x2, x3, x4, x5, x6, x7] st h else Run M_X9_help 41 [x0, x1, x2, x3, x4, x5, x6, x7] st h := R_icmp_ge d_X9_help_38 (by decide)
theorem d_X9_help_41 : decode (mB M_X9_help) 41 = .ok (.aload_n 0, 1) := by decide +kernel
theorem r_X9_help_41 {x1 x2 x3 x4 x5 x6 x7 : Value} {a : Nat} {st : List Value} {h : AH} : Run M_X9_help 41 [.ref a, x1, x2, x3, x4, x5, x6, x7] st h = Run M_X9_help 42 [.ref a, x1, x2, x3, x4, x5, x6, x7] (.ref a :: st) h := R_aload_n d_X9_help_41 rfl
theorem d_X9_help_42 : decode (mB M_X9_help) 42 = .ok (.getfield 35, 3) := by decide +kernel
theorem r_X9_help_42 {x0 x1 x2 x3 x4 x5 x6 x7 : Value} {a : Nat} {st : List Value} {h : AH} : Run M_X9_help 42 [x0, x1, x2, x3, x4, x5, x6, x7] (.ref a :: st) h = if (gF h a 9 11).isSome = true then Run M_X9_help 45 [x0, x1, x2, x3, x4, x5, x6, x7] ((gF h a 9 11).getD .null :: st) h else none := R_getfield d_X9_help_42 rfl
theorem d_X9_help_45 : decode (mB M_X9_help) 45 = .ok (.iconst 2, 1) := by decide +kernel
theorem r_X9_help_45 {x0 x1 x2 x3 x4 x5 x6 x7 : Value} {st : List Value} {h : AH} : Run M_X9_help 45 [x0, x1, x2, x3, x4, x5, x6, x7] st h = Run M_X9_help 46 [x0, x1, x2, x3, x4, x5, x6, x7] (.int (nI 2) :: st) h := R_iconst d_X9_help_45 (by decide)
theorem d_X9_help_46 : decode (mB M_X9_help) 46 = .ok (.iload 5, 2) := by decide +kernel
theorem r_X9_help_46 {x0 x1 x2 x3 x4 x6 x7 : Value} {a : Int32} {st : List Value} {h : AH} : Run M_X9_help 46 [x0, x1, x2, x3, x4, .int a, x6, x7] st h = Run M_X9_help 48 [x0, x1, x2, x3, x4, .int a, x6, x7] (.int a :: st) h := R_iload d_X9_help_46 rfl
theorem d_X9_help_48 : decode (mB M_X9_help) 48 = .ok (.imul, 1) := by decide +kernel
theorem r_X9_help_48 {x0 x1 x2 x3 x4 x5 x6 x7 : Value} {x y : Int32} {st : List Value} {h : AH} : Run M_X9_help 48 [x0, x1, x2, x3, x4, x5, x6, x7] (.int y :: .int x :: st) h = Run M_X9_help 49 [x0, x1, x2, x3, x4, x5, x6, x7] (.int (x * y) :: st) h := R_imul d_X9_help_48
theorem d_X9_help_49 : decode (mB M_X9_help) 49 = .ok (.iconst 1, 1) := by decide +kernel
theorem r_X9_help_49 {x0 x1 x2 x3 x4 x5 x6 x7 : Value} {st : List Value} {h : AH} : Run M_X9_help 49 [x0, x1, x2, x3, x4, x5, x6, x7] st h = Run M_X9_help 50 [x0, x1, x2, x3, x4, x5, x6, x7] (.int (nI 1) :: st) h := R_iconst d_X9_help_49 (by decide)
theorem d_X9_help_50 : decode (mB M_X9_help) 50 = .ok (.iadd, 1) := by decide +kernel
theorem r_X9_help_50 {x0 x1 x2 x3 x4 x5 x6 x7 : Value} {x y : Int32} {st : List Value} {h : AH} : Run M_X9_help 50 [x0, x1, x2, x3, x4, x5, x6, x7] (.int y :: .int x :: st) h = Run M_X9_help 51 [x0, x1, x2, x3, x4, x5, x6, x7] (.int (x + y) :: st) h := R_iadd d_X9_help_50
theorem d_X9_help_51 : decode (mB M_X9_help) 51 = .ok (.iaload, 1) := by decide +kernel
theorem r_X9_help_51 {x0 x1 x2 x3 x4 x5 x6 x7 : Value} {a : Nat} {i : Int32} {st : List Value} {h : AH} : Run M_X9_help 51 [x0, x1, x2, x3, x4, x5, x6, x7] (.int i :: .ref a :: st) h = if (gI 0 h a i).isSome = true then Run M_X9_help 52 [x0, x1, x2, x3, x4, x5, x6, x7] (.int ((gI 0 h a i).getD 0) :: st) h else none := R_iaload d_X9_help_51
theorem d_X9_help_52 : decode (mB M_X9_help) 52 = .ok (.iconst 5, 1) := by decide +kernel
theorem r_X9_help_52 {x0 x1 x2 x3 x4 x5 x6 x7 : Value} {st : List Value} {h : AH} : Run M_X9_help 52 [x0, x1, x2, x3, x4, x5, x6, x7] st h = Run M_X9_help 53 [x0, x1, x2, x3, x4, x5, x6, x7] (.int (nI 5) :: st) h := R_iconst d_X9_help_52 (by decide)
theorem d_X9_help_53 : decode (mB M_X9_help) 53 = .ok (.iload_n 2, 1) := by decide +kernel
theorem r_X9_help_53 {x0 x1 x3 x4 x5 x6 x7 : Value} {a : Int32} {st : List Value} {h : AH} : Run M_X9_help 53 [x0, x1, .int a, x3, x4, x5, x6, x7] st h = Run M_X9_help 54 [x0, x1, .int a, x3, x4, x5, x6, x7] (.int a :: st) h := R_iload_n d_X9_help_53 rfl
theorem d_X9_help_54 : decode (mB M_X9_help) 54 = .ok (.aload_n 0, 1) := by decide +kernel
theorem r_X9_help_54 {x1 x2 x3 x4 x5 x6 x7 : Value} {a : Nat} {st : List Value} {h : AH} : Run M_X9_help 54 [.ref a, x1, x2, x3, x4, x5, x6, x7] st h = Run M_X9_help 55 [.ref a, x1, x2, x3, x4, x5, x6, x7] (.ref a :: st) h := R_aload_n d_X9_help_54 rfl
theorem d_X9_help_55 : decode (mB M_X9_help) 55 = .ok (.getfield 35, 3) := by decide +kernel
theorem r_X9_help_55 {x0 x1 x2 x3 x4 x5 x6 x7 : Value} {a : Nat} {st : List Value} {h : AH} : Run M_X9_help 55 [x0, x1, x2, x3, x4, x5, x6, x7] (.ref a :: st) h = if (gF h a 9 11).isSome = true then Run M_X9_help 58 [x0, x1, x2, x3, x4, x5, x6, x7] ((gF h a 9 11).getD .null :: st) h else none := R_getfield d_X9_help_55 rfl
theorem d_X9_help_58 : decode (mB M_X9_help) 58 = .ok (.iconst 2, 1) := by decide +kernel
theorem r_X9_help_58 {x0 x1 x2 x3 x4 x5 x6 x7 : Value} {st : List Value} {h : AH} : Run M_X9_help 58 [x0, x1, x2, x3, x4, x5, x6, x7] st h = Run M_X9_help 59 [x0, x1, x2, x3, x4, x5, x6, x7] (.int (nI 2) :: st) h := R_iconst d_X9_help_58 (by decide)
theorem d_X9_help_59 : decode (mB M_X9_help) 59 = .ok (.iload 5, 2) := by decide +kernel
theorem r_X9_help_59 {x0 x1 x2 x3 x4 x6 x7 : Value} {a : Int32} {st : List Value} {h : AH} : Run M_X9_help 59 [x0, x1, x2, x3, x4, .int a, x6, x7] st h = Run M_X9_help 61 [x0, x1, x2, x3, x4, .int a, x6, x7] (.int a :: st) h := R_iload d_X9_help_59 rfl
theorem d_X9_help_61 : decode (mB M_X9_help) 61 = .ok (.imul, 1) := by decide +kernel
theorem r_X9_help_61 {x0 x1 x2 x3 x4 x5 x6 x7 : Value} {x y : Int32} {st : List Value} {h : AH} : Run M_X9_help 61 [x0, x1, x2, x3, x4, x5, x6, x7] (.int y :: .int x :: st) h = Run M_X9_help 62 [x0, x1, x2, x3, x4, x5, x6, x7] (.int (x * y) :: st) h := R_imul d_X9_help_61
theorem d_X9_help_62 : decode (mB M_X9_help) 62 = .ok (.iaload, 1) := by decide +kernel
theorem r_X9_help_62 {x0 x1 x2 x3 x4 x5 x6 x7 : Value} {a : Nat} {i : Int32} {st : List Value} {h : AH} : Run M_X9_help 62 [x0, x1, x2, x3, x4, x5, x6, x7] (.int i :: .ref a :: st) h = if (gI 0 h a i).isSome = true then Run M_X9_help 63 [x0, x1, x2, x3, x4, x5, x6, x7] (.int ((gI 0 h a i).getD 0) :: st) h else none := R_iaload d_X9_help_62
theorem d_X9_help_63 : decode (mB M_X9_help) 63 = .ok (.invokestatic 257, 3) := by decide +kernel
theorem r_X9_help_63 {x0 x1 x2 x3 x4 x5 x6 x7 : Value} {p0 : Int32} {p1 : Int32} {w0 w1 : Value} {h : AH} : Run M_X9_help 63 [x0, x1, x2, x3, x4, x5, x6, x7] (.int p1 :: .int p0 :: [w0, w1]) h = if (Call M_X9_steps h [.int p0, .int p1]).isSome = true then Run M_X9_help 66 [x0, x1, x2, x3, x4, x5, x6, x7] (rL (Call M_X9_steps h [.int p0, .int p1]) ++ [w0, w1]) (cH (Call M_X9_steps h [.int p0, .int p1])) else none := R_stat d_X9_help_63 rfl rfl rfl rfl (Nat.le_of_ble_eq_true rfl)
theorem d_X9_help_66 : decode (mB M_X9_help) 66 = .ok (.imul, 1) := by decide +kernel
theorem r_X9_help_66 {x0 x1 x2 x3 x4 x5 x6 x7 : Value} {x y : Int32} {st : List Value} {h : AH} : Run M_X9_help 66 [x0, x1, x2, x3, x4, x5, x6, x7] (.int y :: .int x :: st) h = Run M_X9_help 67 [x0, x1, x2, x3, x4, x5, x6, x7] (.int (x * y) :: st) h := R_imul d_X9_help_66
theorem d_X9_help_67 : decode (mB M_X9_help) 67 = .ok (.iadd, 1) := by decide +kernel
theorem r_X9_help_67 {x0 x1 x2 x3 x4 x5 x6 x7 : Value} {x y : Int32} {st : List Value} {h : AH} : Run M_X9_help 67 [x0, x1, x2, x3, x4, x5, x6, x7] (.int y :: .int x :: st) h = Run M_X9_help 68 [x0, x1, x2, x3, x4, x5, x6, x7] (.int (x + y) :: st) h := R_iadd d_X9_help_67
theorem d_X9_help_68 : decode (mB M_X9_help) 68 = .ok (.iconst 3, 1) := by decide +kernel
theorem r_X9_help_68 {x0 x1 x2 x3 x4 x5 x6 x7 : Value} {st : List Value} {h : AH} : Run M_X9_help 68 [x0, x1, x2, x3, x4, x5, x6, x7] st h = Run M_X9_help 69 [x0, x1, x2, x3, x4, x5, x6, x7] (.int (nI 3) :: st) h := R_iconst d_X9_help_68 (by decide)
theorem d_X9_help_69 : decode (mB M_X9_help) 69 = .ok (.aload_n 0, 1) := by decide +kernel
theorem r_X9_help_69 {x1 x2 x3 x4 x5 x6 x7 : Value} {a : Nat} {st : List Value} {h : AH} : Run M_X9_help 69 [.ref a, x1, x2, x3, x4, x5, x6, x7] st h = Run M_X9_help 70 [.ref a, x1, x2, x3, x4, x5, x6, x7] (.ref a :: st) h := R_aload_n d_X9_help_69 rfl
theorem d_X9_help_70 : decode (mB M_X9_help) 70 = .ok (.getfield 35, 3) := by decide +kernel
theorem r_X9_help_70 {x0 x1 x2 x3 x4 x5 x6 x7 : Value} {a : Nat} {st : List Value} {h : AH} : Run M_X9_help 70 [x0, x1, x2, x3, x4, x5, x6, x7] (.ref a :: st) h = if (gF h a 9 11).isSome = true then Run M_X9_help 73 [x0, x1, x2, x3, x4, x5, x6, x7] ((gF h a 9 11).getD .null :: st) h else none := R_getfield d_X9_help_70 rfl
theorem d_X9_help_73 : decode (mB M_X9_help) 73 = .ok (.iconst 2, 1) := by decide +kernel
theorem r_X9_help_73 {x0 x1 x2 x3 x4 x5 x6 x7 : Value} {st : List Value} {h : AH} : Run M_X9_help 73 [x0, x1, x2, x3, x4, x5, x6, x7] st h = Run M_X9_help 74 [x0, x1, x2, x3, x4, x5, x6, x7] (.int (nI 2) :: st) h := R_iconst d_X9_help_73 (by decide)
theorem d_X9_help_74 : decode (mB M_X9_help) 74 = .ok (.iload 5, 2) := by decide +kernel
theorem r_X9_help_74 {x0 x1 x2 x3 x4 x6 x7 : Value} {a : Int32} {st : List Value} {h : AH} : Run M_X9_help 74 [x0, x1, x2, x3, x4, .int a, x6, x7] st h = Run M_X9_help 76 [x0, x1, x2, x3, x4, .int a, x6, x7] (.int a :: st) h := R_iload d_X9_help_74 rfl
theorem d_X9_help_76 : decode (mB M_X9_help) 76 = .ok (.imul, 1) := by decide +kernel
theorem r_X9_help_76 {x0 x1 x2 x3 x4 x5 x6 x7 : Value} {x y : Int32} {st : List Value} {h : AH} : Run M_X9_help 76 [x0, x1, x2, x3, x4, x5, x6, x7] (.int y :: .int x :: st) h = Run M_X9_help 77 [x0, x1, x2, x3, x4, x5, x6, x7] (.int (x * y) :: st) h := R_imul d_X9_help_76
theorem d_X9_help_77 : decode (mB M_X9_help) 77 = .ok (.iaload, 1) := by decide +kernel
theorem r_X9_help_77 {x0 x1 x2 x3 x4 x5 x6 x7 : Value} {a : Nat} {i : Int32} {st : List Value} {h : AH} : Run M_X9_help 77 [x0, x1, x2, x3, x4, x5, x6, x7] (.int i :: .ref a :: st) h = if (gI 0 h a i).isSome = true then Run M_X9_help 78 [x0, x1, x2, x3, x4, x5, x6, x7] (.int ((gI 0 h a i).getD 0) :: st) h else none := R_iaload d_X9_help_77
theorem d_X9_help_78 : decode (mB M_X9_help) 78 = .ok (.aload_n 0, 1) := by decide +kernel
theorem r_X9_help_78 {x1 x2 x3 x4 x5 x6 x7 : Value} {a : Nat} {st : List Value} {h : AH} : Run M_X9_help 78 [.ref a, x1, x2, x3, x4, x5, x6, x7] st h = Run M_X9_help 79 [.ref a, x1, x2, x3, x4, x5, x6, x7] (.ref a :: st) h := R_aload_n d_X9_help_78 rfl
theorem d_X9_help_79 : decode (mB M_X9_help) 79 = .ok (.getfield 26, 3) := by decide +kernel
theorem r_X9_help_79 {x0 x1 x2 x3 x4 x5 x6 x7 : Value} {a : Nat} {st : List Value} {h : AH} : Run M_X9_help 79 [x0, x1, x2, x3, x4, x5, x6, x7] (.ref a :: st) h = if (gF h a 9 6).isSome = true then Run M_X9_help 82 [x0, x1, x2, x3, x4, x5, x6, x7] ((gF h a 9 6).getD .null :: st) h else none := R_getfield d_X9_help_79 rfl
theorem d_X9_help_82 : decode (mB M_X9_help) 82 = .ok (.iload_n 1, 1) := by decide +kernel
theorem r_X9_help_82 {x0 x2 x3 x4 x5 x6 x7 : Value} {a : Int32} {st : List Value} {h : AH} : Run M_X9_help 82 [x0, .int a, x2, x3, x4, x5, x6, x7] st h = Run M_X9_help 83 [x0, .int a, x2, x3, x4, x5, x6, x7] (.int a :: st) h := R_iload_n d_X9_help_82 rfl
theorem d_X9_help_83 : decode (mB M_X9_help) 83 = .ok (.iaload, 1) := by decide +kernel
theorem r_X9_help_83 {x0 x1 x2 x3 x4 x5 x6 x7 : Value} {a : Nat} {i : Int32} {st : List Value} {h : AH} : Run M_X9_help 83 [x0, x1, x2, x3, x4, x5, x6, x7] (.int i :: .ref a :: st) h = if (gI 0 h a i).isSome = true then Run M_X9_help 84 [x0, x1, x2, x3, x4, x5, x6, x7] (.int ((gI 0 h a i).getD 0) :: st) h else none := R_iaload d_X9_help_83
theorem d_X9_help_84 : decode (mB M_X9_help) 84 = .ok (.invokestatic 257, 3) := by decide +kernel
theorem r_X9_help_84 {x0 x1 x2 x3 x4 x5 x6 x7 : Value} {p0 : Int32} {p1 : Int32} {w0 w1 : Value} {h : AH} : Run M_X9_help 84 [x0, x1, x2, x3, x4, x5, x6, x7] (.int p1 :: .int p0 :: [w0, w1]) h = if (Call M_X9_steps h [.int p0, .int p1]).isSome = true then Run M_X9_help 87 [x0, x1, x2, x3, x4, x5, x6, x7] (rL (Call M_X9_steps h [.int p0, .int p1]) ++ [w0, w1]) (cH (Call M_X9_steps h [.int p0, .int p1])) else none := R_stat d_X9_help_84 rfl rfl rfl rfl (Nat.le_of_ble_eq_true rfl)
theorem d_X9_help_87 : decode (mB M_X9_help) 87 = .ok (.imul, 1) := by decide +kernel
theorem r_X9_help_87 {x0 x1 x2 x3 x4 x5 x6 x7 : Value} {x y : Int32} {st : List Value} {h : AH} : Run M_X9_help 87 [x0, x1, x2, x3, x4, x5, x6, x7] (.int y :: .int x :: st) h = Run M_X9_help 88 [x0, x1, x2, x3, x4, x5, x6, x7] (.int (x * y) :: st) h := R_imul d_X9_help_87
theorem d_X9_help_88 : decode (mB M_X9_help) 88 = .ok (.iadd, 1) := by decide +kernel
theorem r_X9_help_88 {x0 x1 x2 x3 x4 x5 x6 x7 : Value} {x y : Int32} {st : List Value} {h : AH} : Run M_X9_help 88 [x0, x1, x2, x3, x4, x5, x6, x7] (.int y :: .int x :: st) h = Run M_X9_help 89 [x0, x1, x2, x3, x4, x5, x6, x7] (.int (x + y) :: st) h := R_iadd d_X9_help_88
theorem d_X9_help_89 : decode (mB M_X9_help) 89 = .ok (.istore 6, 2) := by decide +kernel
theorem r_X9_help_89 {x0 x1 x2 x3 x4 x5 x6 x7 : Value} {a : Int32} {st : List Value} {h : AH} (hc : x5.category = 1) : Run M_X9_help 89 [x0, x1, x2, x3, x4, x5, x6, x7] (.int a :: st) h = Run M_X9_help 91 [x0, x1, x2, x3, x4, x5, .int a, x7] st h := R_istore d_X9_help_89 (Nat.lt_of_lt_of_le (by decide : 6 < 8) (Nat.le_refl 8)) (catP_of rfl hc)
theorem d_X9_help_91 : decode (mB M_X9_help) 91 = .ok (.iload_n 3, 1) := by decide +kernel
theorem r_X9_help_91 {x0 x1 x2 x4 x5 x6 x7 : Value} {a : Int32} {st : List Value} {h : AH} : Run M_X9_help 91 [x0, x1, x2, .int a, x4, x5, x6, x7] st h = Run M_X9_help 92 [x0, x1, x2, .int a, x4, x5, x6, x7] (.int a :: st) h := R_iload_n d_X9_help_91 rfl
theorem d_X9_help_92 : decode (mB M_X9_help) 92 = .ok (.iconst (-1), 1) := by decide +kernel
theorem r_X9_help_92 {x0 x1 x2 x3 x4 x5 x6 x7 : Value} {st : List Value} {h : AH} : Run M_X9_help 92 [x0, x1, x2, x3, x4, x5, x6, x7] st h = Run M_X9_help 93 [x0, x1, x2, x3, x4, x5, x6, x7] (.int (-1) :: st) h := R_iconst d_X9_help_92 (by decide)
theorem d_X9_help_93 : decode (mB M_X9_help) 93 = .ok (.if_icmp .eq 10, 3) := by decide +kernel
theorem r_X9_help_93 {x0 x1 x2 x3 x4 x5 x6 x7 : Value} {x y : Int32} {st : List Value} {h : AH} : Run M_X9_help 93 [x0, x1, x2, x3, x4, x5, x6, x7] (.int y :: .int x :: st) h = if x = y then Run M_X9_help 103 [x0, x1, x2, x3, x4, x5, x6, x7] st h else Run M_X9_help 96 [x0, x1, x2, x3, x4, x5, x6, x7] st h := R_icmp_eq d_X9_help_93 (by decide)
theorem d_X9_help_96 : decode (mB M_X9_help) 96 = .ok (.iload 6, 2) := by decide +kernel
theorem r_X9_help_96 {x0 x1 x2 x3 x4 x5 x7 : Value} {a : Int32} {st : List Value} {h : AH} : Run M_X9_help 96 [x0, x1, x2, x3, x4, x5, .int a, x7] st h = Run M_X9_help 98 [x0, x1, x2, x3, x4, x5, .int a, x7] (.int a :: st) h := R_iload d_X9_help_96 rfl
theorem d_X9_help_98 : decode (mB M_X9_help) 98 = .ok (.iload 4, 2) := by decide +kernel
theorem r_X9_help_98 {x0 x1 x2 x3 x5 x6 x7 : Value} {a : Int32} {st : List Value} {h : AH} : Run M_X9_help 98 [x0, x1, x2, x3, .int a, x5, x6, x7] st h = Run M_X9_help 100 [x0, x1, x2, x3, .int a, x5, x6, x7] (.int a :: st) h := R_iload d_X9_help_98 rfl
theorem d_X9_help_100 : decode (mB M_X9_help) 100 = .ok (.if_icmp .ge 7, 3) := by decide +kernel
theorem r_X9_help_100 {x0 x1 x2 x3 x4 x5 x6 x7 : Value} {x y : Int32} {st : List Value} {h : AH} : Run M_X9_help 100 [x0, x1, x2, x3, x4, x5, x6, x7] (.int y :: .int x :: st) h = if y ≤ x then Run M_X9_help 107 [x0, x1, x2, x3, x4, x5, x6, x7] st h else Run M_X9_help 103 [x0, x1, x2, x3, x4, x5, x6, x7] st h := R_icmp_ge d_X9_help_100 (by decide)
theorem d_X9_help_103 : decode (mB M_X9_help) 103 = .ok (.iconst 1, 1) := by decide +kernel
theorem r_X9_help_103 {x0 x1 x2 x3 x4 x5 x6 x7 : Value} {st : List Value} {h : AH} : Run M_X9_help 103 [x0, x1, x2, x3, x4, x5, x6, x7] st h = Run M_X9_help 104 [x0, x1, x2, x3, x4, x5, x6, x7] (.int (nI 1) :: st) h := R_iconst d_X9_help_103 (by decide)
theorem d_X9_help_104 : decode (mB M_X9_help) 104 = .ok (.goto 4, 3) := by decide +kernel
theorem r_X9_help_104 {x0 x1 x2 x3 x4 x5 x6 x7 : Value} {st : List Value} {h : AH} : Run M_X9_help 104 [x0, x1, x2, x3, x4, x5, x6, x7] st h = Run M_X9_help 108 [x0, x1, x2, x3, x4, x5, x6, x7] st h := R_goto d_X9_help_104 (by decide)
theorem d_X9_help_107 : decode (mB M_X9_help) 107 = .ok (.iconst 0, 1) := by decide +kernel
theorem r_X9_help_107 {x0 x1 x2 x3 x4 x5 x6 x7 : Value} {st : List Value} {h : AH} : Run M_X9_help 107 [x0, x1, x2, x3, x4, x5, x6, x7] st h = Run M_X9_help 108 [x0, x1, x2, x3, x4, x5, x6, x7] (.int (nI 0) :: st) h := R_iconst d_X9_help_107 (by decide)
theorem d_X9_help_108 : decode (mB M_X9_help) 108 = .ok (.istore 7, 2) := by decide +kernel
theorem r_X9_help_108 {x0 x1 x2 x3 x4 x5 x6 x7 : Value} {a : Int32} {st : List Value} {h : AH} (hc : x6.category = 1) : Run M_X9_help 108 [x0, x1, x2, x3, x4, x5, x6, x7] (.int a :: st) h = Run M_X9_help 110 [x0, x1, x2, x3, x4, x5, x6, .int a] st h := R_istore d_X9_help_108 (Nat.lt_of_lt_of_le (by decide : 7 < 8) (Nat.le_refl 8)) (catP_of rfl hc)
theorem d_X9_help_110 : decode (mB M_X9_help) 110 = .ok (.iload 7, 2) := by decide +kernel
theorem r_X9_help_110 {x0 x1 x2 x3 x4 x5 x6 : Value} {a : Int32} {st : List Value} {h : AH} : Run M_X9_help 110 [x0, x1, x2, x3, x4, x5, x6, .int a] st h = Run M_X9_help 112 [x0, x1, x2, x3, x4, x5, x6, .int a] (.int a :: st) h := R_iload d_X9_help_110 rfl
theorem d_X9_help_112 : decode (mB M_X9_help) 112 = .ok (.ifCond .eq 8, 3) := by decide +kernel
theorem r_X9_help_112 {x0 x1 x2 x3 x4 x5 x6 x7 : Value} {x : Int32} {st : List Value} {h : AH} : Run M_X9_help 112 [x0, x1, x2, x3, x4, x5, x6, x7] (.int x :: st) h = if x = nI 0 then Run M_X9_help 120 [x0, x1, x2, x3, x4, x5, x6, x7] st h else Run M_X9_help 115 [x0, x1, x2, x3, x4, x5, x6, x7] st h := R_if_eq d_X9_help_112 (by decide)
theorem d_X9_help_115 : decode (mB M_X9_help) 115 = .ok (.iload 5, 2) := by decide +kernel
theorem r_X9_help_115 {x0 x1 x2 x3 x4 x6 x7 : Value} {a : Int32} {st : List Value} {h : AH} : Run M_X9_help 115 [x0, x1, x2, x3, x4, .int a, x6, x7] st h = Run M_X9_help 117 [x0, x1, x2, x3, x4, .int a, x6, x7] (.int a :: st) h := R_iload d_X9_help_115 rfl
theorem d_X9_help_117 : decode (mB M_X9_help) 117 = .ok (.goto 4, 3) := by decide +kernel
theorem r_X9_help_117 {x0 x1 x2 x3 x4 x5 x6 x7 : Value} {st : List Value} {h : AH} : Run M_X9_help 117 [x0, x1, x2, x3, x4, x5, x6, x7] st h = Run M_X9_help 121 [x0, x1, x2, x3, x4, x5, x6, x7] st h := R_goto d_X9_help_117 (by decide)
theorem d_X9_help_120 : decode (mB M_X9_help) 120 = .ok (.iload_n 3, 1) := by decide +kernel
theorem r_X9_help_120 {x0 x1 x2 x4 x5 x6 x7 : Value} {a : Int32} {st : List Value} {h : AH} : Run M_X9_help 120 [x0, x1, x2, .int a, x4, x5, x6, x7] st h = Run M_X9_help 121 [x0, x1, x2, .int a, x4, x5, x6, x7] (.int a :: st) h := R_iload_n d_X9_help_120 rfl
theorem d_X9_help_121 : decode (mB M_X9_help) 121 = .ok (.istore_n 3, 1) := by decide +kernel
theorem r_X9_help_121 {x0 x1 x2 x3 x4 x5 x6 x7 : Value} {a : Int32} {st : List Value} {h : AH} (hc : x2.category = 1) : Run M_X9_help 121 [x0, x1, x2, x3, x4, x5, x6, x7] (.int a :: st) h = Run M_X9_help 122 [x0, x1, x2, .int a, x4, x5, x6, x7] st h := R_istore_n d_X9_help_121 (Nat.lt_of_lt_of_le (by decide : 3 < 8) (Nat.le_refl 8)) (catP_of rfl hc)
theorem d_X9_help_122 : decode (mB M_X9_help) 122 = .ok (.iload 7, 2) := by decide +kernel
theorem r_X9_help_122 {x0 x1 x2 x3 x4 x5 x6 : Value} {a : Int32} {st : List Value} {h : AH} : Run M_X9_help 122 [x0, x1, x2, x3, x4, x5, x6, .int a] st h = Run M_X9_help 124 [x0, x1, x2, x3, x4, x5, x6, .int a] (.int a :: st) h := R_iload d_X9_help_122 rfl
theorem d_X9_help_124 : decode (mB M_X9_help) 124 = .ok (.ifCond .eq 8, 3) := by decide +kernel
theorem r_X9_help_124 {x0 x1 x2 x3 x4 x5 x6 x7 : Value} {x : Int32} {st : List Value} {h : AH} : Run M_X9_help 124 [x0, x1, x2, x3, x4, x5, x6, x7] (.int x :: st) h = if x = nI 0 then Run M_X9_help 132 [x0, x1, x2, x3, x4, x5, x6, x7] st h else Run M_X9_help 127 [x0, x1, x2, x3, x4, x5, x6, x7] st h := R_if_eq d_X9_help_124 (by decide)
theorem d_X9_help_127 : decode (mB M_X9_help) 127 = .ok (.iload 6, 2) := by decide +kernel
theorem r_X9_help_127 {x0 x1 x2 x3 x4 x5 x7 : Value} {a : Int32} {st : List Value} {h : AH} : Run M_X9_help 127 [x0, x1, x2, x3, x4, x5, .int a, x7] st h = Run M_X9_help 129 [x0, x1, x2, x3, x4, x5, .int a, x7] (.int a :: st) h := R_iload d_X9_help_127 rfl
theorem d_X9_help_129 : decode (mB M_X9_help) 129 = .ok (.goto 5, 3) := by decide +kernel
theorem r_X9_help_129 {x0 x1 x2 x3 x4 x5 x6 x7 : Value} {st : List Value} {h : AH} : Run M_X9_help 129 [x0, x1, x2, x3, x4, x5, x6, x7] st h = Run M_X9_help 134 [x0, x1, x2, x3, x4, x5, x6, x7] st h := R_goto d_X9_help_129 (by decide)
theorem d_X9_help_132 : decode (mB M_X9_help) 132 = .ok (.iload 4, 2) := by decide +kernel
theorem r_X9_help_132 {x0 x1 x2 x3 x5 x6 x7 : Value} {a : Int32} {st : List Value} {h : AH} : Run M_X9_help 132 [x0, x1, x2, x3, .int a, x5, x6, x7] st h = Run M_X9_help 134 [x0, x1, x2, x3, .int a, x5, x6, x7] (.int a :: st) h := R_iload d_X9_help_132 rfl
theorem d_X9_help_134 : decode (mB M_X9_help) 134 = .ok (.istore 4, 2) := by decide +kernel
theorem r_X9_help_134 {x0 x1 x2 x3 x4 x5 x6 x7 : Value} {a : Int32} {st : List Value} {h : AH} (hc : x3.category = 1) : Run M_X9_help 134 [x0, x1, x2, x3, x4, x5, x6, x7] (.int a :: st) h = Run M_X9_help 136 [x0, x1, x2, x3, .int a, x5, x6, x7] st h := R_istore d_X9_help_134 (Nat.lt_of_lt_of_le (by decide : 4 < 8) (Nat.le_refl 8)) (catP_of rfl hc)
theorem d_X9_help_136 : decode (mB M_X9_help) 136 = .ok (.iinc 5 1, 3) := by decide +kernel
theorem r_X9_help_136 {x0 x1 x2 x3 x4 x6 x7 : Value} {a : Int32} {st : List Value} {h : AH} (hc : x4.category = 1) : Run M_X9_help 136 [x0, x1, x2, x3, x4, .int a, x6, x7] st h = Run M_X9_help 139 [x0, x1, x2, x3, x4, .int (a + (nI 1)), x6, x7] st h := R_iinc d_X9_help_136 (by decide) rfl (catP_of rfl hc)
theorem d_X9_help_139 : decode (mB M_X9_help) 139 = .ok (.goto (-107), 3) := by decide +kernel
theorem r_X9_help_139 {x0 x1 x2 x3 x4 x5 x6 x7 : Value} {st : List Value} {h : AH} : Run M_X9_help 139 [x0, x1, x2, x3, x4, x5, x6, x7] st h = Run M_X9_help 32 [x0, x1, x2, x3, x4, x5, x6, x7] st h := R_goto d_X9_help_139 (by decide)
theorem d_X9_help_142 : decode (mB M_X9_help) 142 = .ok (.iload_n 3, 1) := by decide +kernel
theorem r_X9_help_142 {x0 x1 x2 x4 x5 x6 x7 : Value} {a : Int32} {st : List Value} {h : AH} : Run M_X9_help 142 [x0, x1, x2, .int a, x4, x5, x6, x7] st h = Run M_X9_help 143 [x0, x1, x2, .int a, x4, x5, x6, x7] (.int a :: st) h := R_iload_n d_X9_help_142 rfl
theorem d_X9_help_143 : decode (mB M_X9_help) 143 = .ok (.ireturn, 1) := by decide +kernel
theorem r_X9_help_143 {x0 x1 x2 x3 x4 x5 x6 x7 : Value} {v : Int32} {h : AH} : Run M_X9_help 143 [x0, x1, x2, x3, x4, x5, x6, x7] [.int v] h = some (h, some (.int v)) := R_ireturn d_X9_help_143 rfl rfl
theorem d_X9_mayBeOut_0 : decode (mB M_X9_mayBeOut) 0 = .ok (.iconst 1, 1) := by decide +kernel
theorem r_X9_mayBeOut_0 {x0 x1 x2 x3 : Value} {st : List Value} {h : AH} : Run M_X9_mayBeOut 0 [x0, x1, x2, x3] st h = Run M_X9_mayBeOut 1 [x0, x1, x2, x3] (.int (nI 1) :: st) h := R_iconst d_X9_mayBeOut_0 (by decide)
theorem d_X9_mayBeOut_1 : decode (mB M_X9_mayBeOut) 1 = .ok (.istore_n 2, 1) := by decide +kernel
theorem r_X9_mayBeOut_1 {x0 x1 x2 x3 : Value} {a : Int32} {st : List Value} {h : AH} (hc : x1.category = 1) : Run M_X9_mayBeOut 1 [x0, x1, x2, x3] (.int a :: st) h = Run M_X9_mayBeOut 2 [x0, x1, .int a, x3] st h := R_istore_n d_X9_mayBeOut_1 (Nat.lt_of_lt_of_le (by decide : 2 < 4) (Nat.le_refl 4)) (catP_of rfl hc)
theorem d_X9_mayBeOut_2 : decode (mB M_X9_mayBeOut) 2 = .ok (.iconst 0, 1) := by decide +kernel
theorem r_X9_mayBeOut_2 {x0 x1 x2 x3 : Value} {st : List Value} {h : AH} : Run M_X9_mayBeOut 2 [x0, x1, x2, x3] st h = Run M_X9_mayBeOut 3 [x0, x1, x2, x3] (.int (nI 0) :: st) h := R_iconst d_X9_mayBeOut_2 (by decide)
theorem d_X9_mayBeOut_3 : decode (mB M_X9_mayBeOut) 3 = .ok (.istore_n 3, 1) := by decide +kernel
theorem r_X9_mayBeOut_3 {x0 x1 x2 x3 : Value} {a : Int32} {st : List Value} {h : AH} (hc : x2.category = 1) : Run M_X9_mayBeOut 3 [x0, x1, x2, x3] (.int a :: st) h = Run M_X9_mayBeOut 4 [x0, x1, x2, .int a] st h := R_istore_n d_X9_mayBeOut_3 (Nat.lt_of_lt_of_le (by decide : 3 < 4) (Nat.le_refl 4)) (catP_of rfl hc)
theorem d_X9_mayBeOut_4 : decode (mB M_X9_mayBeOut) 4 = .ok (.iload_n 3, 1) := by decide +kernel
theorem r_X9_mayBeOut_4 {x0 x1 x2 : Value} {a : Int32} {st : List Value} {h : AH} : Run M_X9_mayBeOut 4 [x0, x1, x2, .int a] st h = Run M_X9_mayBeOut 5 [x0, x1, x2, .int a] (.int a :: st) h := R_iload_n d_X9_mayBeOut_4 rfl
theorem d_X9_mayBeOut_5 : decode (mB M_X9_mayBeOut) 5 = .ok (.aload_n 0, 1) := by decide +kernel
theorem r_X9_mayBeOut_5 {x1 x2 x3 : Value} {a : Nat} {st : List Value} {h : AH} : Run M_X9_mayBeOut 5 [.ref a, x1, x2, x3] st h = Run M_X9_mayBeOut 6 [.ref a, x1, x2, x3] (.ref a :: st) h := R_aload_n d_X9_mayBeOut_5 rfl
theorem d_X9_mayBeOut_6 : decode (mB M_X9_mayBeOut) 6 = .ok (.getfield 82, 3) := by decide +kernel
theorem r_X9_mayBeOut_6 {x0 x1 x2 x3 : Value} {a : Nat} {st : List Value} {h : AH} : Run M_X9_mayBeOut 6 [x0, x1, x2, x3] (.ref a :: st) h = if (gF h a 9 3).isSome = true then Run M_X9_mayBeOut 9 [x0, x1, x2, x3] ((gF h a 9 3).getD .null :: st) h else none := R_getfield d_X9_mayBeOut_6 rfl
theorem d_X9_mayBeOut_9 : decode (mB M_X9_mayBeOut) 9 = .ok (.if_icmp .ge 36, 3) := by decide +kernel
theorem r_X9_mayBeOut_9 {x0 x1 x2 x3 : Value} {x y : Int32} {st : List Value} {h : AH} : Run M_X9_mayBeOut 9 [x0, x1, x2, x3] (.int y :: .int x :: st) h = if y ≤ x then Run M_X9_mayBeOut 45 [x0, x1, x2, x3] st h else Run M_X9_mayBeOut 12 [x0, x1, x2, x3] st h := R_icmp_ge d_X9_mayBeOut_9 (by decide)
theorem d_X9_mayBeOut_12 : decode (mB M_X9_mayBeOut) 12 = .ok (.iload_n 2, 1) := by decide +kernel
theorem r_X9_mayBeOut_12 {x0 x1 x3 : Value} {a : Int32} {st : List Value} {h : AH} : Run M_X9_mayBeOut 12 [x0, x1, .int a, x3] st h = Run M_X9_mayBeOut 13 [x0, x1, .int a, x3] (.int a :: st) h := R_iload_n d_X9_mayBeOut_12 rfl
theorem d_X9_mayBeOut_13 : decode (mB M_X9_mayBeOut) 13 = .ok (.ifCond .eq 24, 3) := by decide +kernel
theorem r_X9_mayBeOut_13 {x0 x1 x2 x3 : Value} {x : Int32} {st : List Value} {h : AH} : Run M_X9_mayBeOut 13 [x0, x1, x2, x3] (.int x :: st) h = if x = nI 0 then Run M_X9_mayBeOut 37 [x0, x1, x2, x3] st h else Run M_X9_mayBeOut 16 [x0, x1, x2, x3] st h := R_if_eq d_X9_mayBeOut_13 (by decide)
theorem d_X9_mayBeOut_16 : decode (mB M_X9_mayBeOut) 16 = .ok (.iload_n 1, 1) := by decide +kernel
theorem r_X9_mayBeOut_16 {x0 x2 x3 : Value} {a : Int32} {st : List Value} {h : AH} : Run M_X9_mayBeOut 16 [x0, .int a, x2, x3] st h = Run M_X9_mayBeOut 17 [x0, .int a, x2, x3] (.int a :: st) h := R_iload_n d_X9_mayBeOut_16 rfl
theorem d_X9_mayBeOut_17 : decode (mB M_X9_mayBeOut) 17 = .ok (.iload_n 3, 1) := by decide +kernel
theorem r_X9_mayBeOut_17 {x0 x1 x2 : Value} {a : Int32} {st : List Value} {h : AH} : Run M_X9_mayBeOut 17 [x0, x1, x2, .int a] st h = Run M_X9_mayBeOut 18 [x0, x1, x2, .int a] (.int a :: st) h := R_iload_n d_X9_mayBeOut_17 rfl
theorem d_X9_mayBeOut_18 : decode (mB M_X9_mayBeOut) 18 = .ok (.invokestatic 245, 3) := by decide +kernel
theorem r_X9_mayBeOut_18 {x0 x1 x2 x3 : Value} {p0 : Int32} {p1 : Int32} {h : AH} : Run M_X9_mayBeOut 18 [x0, x1, x2, x3] (.int p1 :: .int p0 :: []) h = if (Call M_X9_has h [.int p0, .int p1]).isSome = true then Run M_X9_mayBeOut 21 [x0, x1, x2, x3] (rL (Call M_X9_has h [.int p0, .int p1]) ++ []) (cH (Call M_X9_has h [.int p0, .int p1])) else none := R_stat d_X9_mayBeOut_18 rfl rfl rfl rfl (Nat.le_of_ble_eq_true rfl)
theorem d_X9_mayBeOut_21 : decode (mB M_X9_mayBeOut) 21 = .ok (.ifCond .eq 12, 3) := by decide +kernel
theorem r_X9_mayBeOut_21 {x0 x1 x2 x3 : Value} {x : Int32} {st : List Value} {h : AH} : Run M_X9_mayBeOut 21 [x0, x1, x2, x3] (.int x :: st) h = if x = nI 0 then Run M_X9_mayBeOut 33 [x0, x1, x2, x3] st h else Run M_X9_mayBeOut 24 [x0, x1, x2, x3] st h := R_if_eq d_X9_mayBeOut_21 (by decide)
theorem d_X9_mayBeOut_24 : decode (mB M_X9_mayBeOut) 24 = .ok (.aload_n 0, 1) := by decide +kernel
theorem r_X9_mayBeOut_24 {x1 x2 x3 : Value} {a : Nat} {st : List Value} {h : AH} : Run M_X9_mayBeOut 24 [.ref a, x1, x2, x3] st h = Run M_X9_mayBeOut 25 [.ref a, x1, x2, x3] (.ref a :: st) h := R_aload_n d_X9_mayBeOut_24 rfl
theorem d_X9_mayBeOut_25 : decode (mB M_X9_mayBeOut) 25 = .ok (.getfield 23, 3) := by decide +kernel
theorem r_X9_mayBeOut_25 {x0 x1 x2 x3 : Value} {a : Nat} {st : List Value} {h : AH} : Run M_X9_mayBeOut 25 [x0, x1, x2, x3] (.ref a :: st) h = if (gF h a 9 5).isSome = true then Run M_X9_mayBeOut 28 [x0, x1, x2, x3] ((gF h a 9 5).getD .null :: st) h else none := R_getfield d_X9_mayBeOut_25 rfl
theorem d_X9_mayBeOut_28 : decode (mB M_X9_mayBeOut) 28 = .ok (.iload_n 3, 1) := by decide +kernel
theorem r_X9_mayBeOut_28 {x0 x1 x2 : Value} {a : Int32} {st : List Value} {h : AH} : Run M_X9_mayBeOut 28 [x0, x1, x2, .int a] st h = Run M_X9_mayBeOut 29 [x0, x1, x2, .int a] (.int a :: st) h := R_iload_n d_X9_mayBeOut_28 rfl
theorem d_X9_mayBeOut_29 : decode (mB M_X9_mayBeOut) 29 = .ok (.iaload, 1) := by decide +kernel
theorem r_X9_mayBeOut_29 {x0 x1 x2 x3 : Value} {a : Nat} {i : Int32} {st : List Value} {h : AH} : Run M_X9_mayBeOut 29 [x0, x1, x2, x3] (.int i :: .ref a :: st) h = if (gI 0 h a i).isSome = true then Run M_X9_mayBeOut 30 [x0, x1, x2, x3] (.int ((gI 0 h a i).getD 0) :: st) h else none := R_iaload d_X9_mayBeOut_29
theorem d_X9_mayBeOut_30 : decode (mB M_X9_mayBeOut) 30 = .ok (.ifCond .le 7, 3) := by decide +kernel
theorem r_X9_mayBeOut_30 {x0 x1 x2 x3 : Value} {x : Int32} {st : List Value} {h : AH} : Run M_X9_mayBeOut 30 [x0, x1, x2, x3] (.int x :: st) h = if x ≤ nI 0 then Run M_X9_mayBeOut 37 [x0, x1, x2, x3] st h else Run M_X9_mayBeOut 33 [x0, x1, x2, x3] st h := R_if_le d_X9_mayBeOut_30 (by decide)
theorem d_X9_mayBeOut_33 : decode (mB M_X9_mayBeOut) 33 = .ok (.iconst 1, 1) := by decide +kernel
theorem r_X9_mayBeOut_33 {x0 x1 x2 x3 : Value} {st : List Value} {h : AH} : Run M_X9_mayBeOut 33 [x0, x1, x2, x3] st h = Run M_X9_mayBeOut 34 [x0, x1, x2, x3] (.int (nI 1) :: st) h := R_iconst d_X9_mayBeOut_33 (by decide)
theorem d_X9_mayBeOut_34 : decode (mB M_X9_mayBeOut) 34 = .ok (.goto 4, 3) := by decide +kernel
theorem r_X9_mayBeOut_34 {x0 x1 x2 x3 : Value} {st : List Value} {h : AH} : Run M_X9_mayBeOut 34 [x0, x1, x2, x3] st h = Run M_X9_mayBeOut 38 [x0, x1, x2, x3] st h := R_goto d_X9_mayBeOut_34 (by decide)
theorem d_X9_mayBeOut_37 : decode (mB M_X9_mayBeOut) 37 = .ok (.iconst 0, 1) := by decide +kernel
theorem r_X9_mayBeOut_37 {x0 x1 x2 x3 : Value} {st : List Value} {h : AH} : Run M_X9_mayBeOut 37 [x0, x1, x2, x3] st h = Run M_X9_mayBeOut 38 [x0, x1, x2, x3] (.int (nI 0) :: st) h := R_iconst d_X9_mayBeOut_37 (by decide)
theorem d_X9_mayBeOut_38 : decode (mB M_X9_mayBeOut) 38 = .ok (.istore_n 2, 1) := by decide +kernel
theorem r_X9_mayBeOut_38 {x0 x1 x2 x3 : Value} {a : Int32} {st : List Value} {h : AH} (hc : x1.category = 1) : Run M_X9_mayBeOut 38 [x0, x1, x2, x3] (.int a :: st) h = Run M_X9_mayBeOut 39 [x0, x1, .int a, x3] st h := R_istore_n d_X9_mayBeOut_38 (Nat.lt_of_lt_of_le (by decide : 2 < 4) (Nat.le_refl 4)) (catP_of rfl hc)
theorem d_X9_mayBeOut_39 : decode (mB M_X9_mayBeOut) 39 = .ok (.iinc 3 1, 3) := by decide +kernel
theorem r_X9_mayBeOut_39 {x0 x1 x2 : Value} {a : Int32} {st : List Value} {h : AH} (hc : x2.category = 1) : Run M_X9_mayBeOut 39 [x0, x1, x2, .int a] st h = Run M_X9_mayBeOut 42 [x0, x1, x2, .int (a + (nI 1))] st h := R_iinc d_X9_mayBeOut_39 (by decide) rfl (catP_of rfl hc)
theorem d_X9_mayBeOut_42 : decode (mB M_X9_mayBeOut) 42 = .ok (.goto (-38), 3) := by decide +kernel
theorem r_X9_mayBeOut_42 {x0 x1 x2 x3 : Value} {st : List Value} {h : AH} : Run M_X9_mayBeOut 42 [x0, x1, x2, x3] st h = Run M_X9_mayBeOut 4 [x0, x1, x2, x3] st h := R_goto d_X9_mayBeOut_42 (by decide)
theorem d_X9_mayBeOut_45 : decode (mB M_X9_mayBeOut) 45 = .ok (.iload_n 2, 1) := by decide +kernel
theorem r_X9_mayBeOut_45 {x0 x1 x3 : Value} {a : Int32} {st : List Value} {h : AH} : Run M_X9_mayBeOut 45 [x0, x1, .int a, x3] st h = Run M_X9_mayBeOut 46 [x0, x1, .int a, x3] (.int a :: st) h := R_iload_n d_X9_mayBeOut_45 rfl
theorem d_X9_mayBeOut_46 : decode (mB M_X9_mayBeOut) 46 = .ok (.ireturn, 1) := by decide +kernel
theorem r_X9_mayBeOut_46_0 {x0 x1 x2 x3 : Value} {h : AH} : Run M_X9_mayBeOut 46 [x0, x1, x2, x3] [.int (nI 0)] h = some (h, some (.int (nI 0))) := R_ireturn d_X9_mayBeOut_46 rfl (by decide)
theorem r_X9_mayBeOut_46_1 {x0 x1 x2 x3 : Value} {h : AH} : Run M_X9_mayBeOut 46 [x0, x1, x2, x3] [.int (nI 1)] h = some (h, some (.int (nI 1))) := R_ireturn d_X9_mayBeOut_46 rfl (by decide)
theorem r_X9_mayBeOut_46_c {x0 x1 x2 x3 : Value} {c : Prop} [Decidable c] {h : AH} : Run M_X9_mayBeOut 46 [x0, x1, x2, x3] [.int (bI c)] h = some (h, some (.int (bI c))) := R_ireturn d_X9_mayBeOut_46 rfl narrow_bI
theorem d_X9_weightOut_0 : decode (mB M_X9_weightOut) 0 = .ok (.iconst 0, 1) := by decide +kernel
theorem r_X9_weightOut_0 {x0 x1 x2 x3 x4 x5 x6 : Value} {st : List Value} {h : AH} : Run M_X9_weightOut 0 [x0, x1, x2, x3, x4, x5, x6] st h = Run M_X9_weightOut 1 [x0, x1, x2, x3, x4, x5, x6] (.int (nI 0) :: st) h := R_iconst d_X9_weightOut_0 (by decide)
theorem d_X9_weightOut_1 : decode (mB M_X9_weightOut) 1 = .ok (.istore_n 3, 1) := by decide +kernel
theorem r_X9_weightOut_1 {x0 x1 x2 x3 x4 x5 x6 : Value} {a : Int32} {st : List Value} {h : AH} (hc : x2.category = 1) : Run M_X9_weightOut 1 [x0, x1, x2, x3, x4, x5, x6] (.int a :: st) h = Run M_X9_weightOut 2 [x0, x1, x2, .int a, x4, x5, x6] st h := R_istore_n d_X9_weightOut_1 (Nat.lt_of_lt_of_le (by decide : 3 < 7) (Nat.le_refl 7)) (catP_of rfl hc)
theorem d_X9_weightOut_2 : decode (mB M_X9_weightOut) 2 = .ok (.iload_n 3, 1) := by decide +kernel
theorem r_X9_weightOut_2 {x0 x1 x2 x4 x5 x6 : Value} {a : Int32} {st : List Value} {h : AH} : Run M_X9_weightOut 2 [x0, x1, x2, .int a, x4, x5, x6] st h = Run M_X9_weightOut 3 [x0, x1, x2, .int a, x4, x5, x6] (.int a :: st) h := R_iload_n d_X9_weightOut_2 rfl
theorem d_X9_weightOut_3 : decode (mB M_X9_weightOut) 3 = .ok (.sipush 420, 3) := by decide +kernel
theorem r_X9_weightOut_3 {x0 x1 x2 x3 x4 x5 x6 : Value} {st : List Value} {h : AH} : Run M_X9_weightOut 3 [x0, x1, x2, x3, x4, x5, x6] st h = Run M_X9_weightOut 6 [x0, x1, x2, x3, x4, x5, x6] (.int (nI 420) :: st) h := R_sipush d_X9_weightOut_3 (by decide)
theorem d_X9_weightOut_6 : decode (mB M_X9_weightOut) 6 = .ok (.if_icmp .gt 24, 3) := by decide +kernel
theorem r_X9_weightOut_6 {x0 x1 x2 x3 x4 x5 x6 : Value} {x y : Int32} {st : List Value} {h : AH} : Run M_X9_weightOut 6 [x0, x1, x2, x3, x4, x5, x6] (.int y :: .int x :: st) h = if y < x then Run M_X9_weightOut 30 [x0, x1, x2, x3, x4, x5, x6] st h else Run M_X9_weightOut 9 [x0, x1, x2, x3, x4, x5, x6] st h := R_icmp_gt d_X9_weightOut_6 (by decide)
theorem d_X9_weightOut_9 : decode (mB M_X9_weightOut) 9 = .ok (.aload_n 0, 1) := by decide +kernel
theorem r_X9_weightOut_9 {x1 x2 x3 x4 x5 x6 : Value} {a : Nat} {st : List Value} {h : AH} : Run M_X9_weightOut 9 [.ref a, x1, x2, x3, x4, x5, x6] st h = Run M_X9_weightOut 10 [.ref a, x1, x2, x3, x4, x5, x6] (.ref a :: st) h := R_aload_n d_X9_weightOut_9 rfl
theorem d_X9_weightOut_10 : decode (mB M_X9_weightOut) 10 = .ok (.getfield 69, 3) := by decide +kernel
theorem r_X9_weightOut_10 {x0 x1 x2 x3 x4 x5 x6 : Value} {a : Nat} {st : List Value} {h : AH} : Run M_X9_weightOut 10 [x0, x1, x2, x3, x4, x5, x6] (.ref a :: st) h = if (gF h a 9 34).isSome = true then Run M_X9_weightOut 13 [x0, x1, x2, x3, x4, x5, x6] ((gF h a 9 34).getD .null :: st) h else none := R_getfield d_X9_weightOut_10 rfl
theorem d_X9_weightOut_13 : decode (mB M_X9_weightOut) 13 = .ok (.iload_n 3, 1) := by decide +kernel
theorem r_X9_weightOut_13 {x0 x1 x2 x4 x5 x6 : Value} {a : Int32} {st : List Value} {h : AH} : Run M_X9_weightOut 13 [x0, x1, x2, .int a, x4, x5, x6] st h = Run M_X9_weightOut 14 [x0, x1, x2, .int a, x4, x5, x6] (.int a :: st) h := R_iload_n d_X9_weightOut_13 rfl
theorem d_X9_weightOut_14 : decode (mB M_X9_weightOut) 14 = .ok (.iload_n 3, 1) := by decide +kernel
theorem r_X9_weightOut_14 {x0 x1 x2 x4 x5 x6 : Value} {a : Int32} {st : List Value} {h : AH} : Run M_X9_weightOut 14 [x0, x1, x2, .int a, x4, x5, x6] st h = Run M_X9_weightOut 15 [x0, x1, x2, .int a, x4, x5, x6] (.int a :: st) h := R_iload_n d_X9_weightOut_14 rfl
theorem d_X9_weightOut_15 : decode (mB M_X9_weightOut) 15 = .ok (.ifCond .ne 7, 3) := by decide +kernel
theorem r_X9_weightOut_15 {x0 x1 x2 x3 x4 x5 x6 : Value} {x : Int32} {st : List Value} {h : AH} : Run M_X9_weightOut 15 [x0, x1, x2, x3, x4, x5, x6] (.int x :: st) h = if x = nI 0 then Run M_X9_weightOut 18 [x0, x1, x2, x3, x4, x5, x6] st h else Run M_X9_weightOut 22 [x0, x1, x2, x3, x4, x5, x6] st h := R_if_ne d_X9_weightOut_15 (by decide)
theorem d_X9_weightOut_18 : decode (mB M_X9_weightOut) 18 = .ok (.lconst 1, 1) := by decide +kernel
theorem r_X9_weightOut_18 {x0 x1 x2 x3 x4 x5 x6 : Value} {st : List Value} {h : AH} : Run M_X9_weightOut 18 [x0, x1, x2, x3, x4, x5, x6] st h = Run M_X9_weightOut 19 [x0, x1, x2, x3, x4, x5, x6] (.long (lN 1) :: st) h := R_lconst d_X9_weightOut_18 (by decide)
theorem d_X9_weightOut_19 : decode (mB M_X9_weightOut) 19 = .ok (.goto 4, 3) := by decide +kernel
theorem r_X9_weightOut_19 {x0 x1 x2 x3 x4 x5 x6 : Value} {st : List Value} {h : AH} : Run M_X9_weightOut 19 [x0, x1, x2, x3, x4, x5, x6] st h = Run M_X9_weightOut 23 [x0, x1, x2, x3, x4, x5, x6] st h := R_goto d_X9_weightOut_19 (by decide)
theorem d_X9_weightOut_22 : decode (mB M_X9_weightOut) 22 = .ok (.lconst 0, 1) := by decide +kernel
theorem r_X9_weightOut_22 {x0 x1 x2 x3 x4 x5 x6 : Value} {st : List Value} {h : AH} : Run M_X9_weightOut 22 [x0, x1, x2, x3, x4, x5, x6] st h = Run M_X9_weightOut 23 [x0, x1, x2, x3, x4, x5, x6] (.long (lN 0) :: st) h := R_lconst d_X9_weightOut_22 (by decide)
theorem d_X9_weightOut_23 : decode (mB M_X9_weightOut) 23 = .ok (.lastore, 1) := by decide +kernel
theorem r_X9_weightOut_23 {x0 x1 x2 x3 x4 x5 x6 : Value} {a : Nat} {i : Int32} {x : Int64} {st : List Value} {h : AH} : Run M_X9_weightOut 23 [x0, x1, x2, x3, x4, x5, x6] (.long x :: .int i :: .ref a :: st) h = if (pJ h a i x).isSome = true then Run M_X9_weightOut 24 [x0, x1, x2, x3, x4, x5, x6] st ((pJ h a i x).getD h) else none := R_lastore d_X9_weightOut_23
theorem d_X9_weightOut_24 : decode (mB M_X9_weightOut) 24 = .ok (.iinc 3 1, 3) := by decide +kernel
theorem r_X9_weightOut_24 {x0 x1 x2 x4 x5 x6 : Value} {a : Int32} {st : List Value} {h : AH} (hc : x2.category = 1) : Run M_X9_weightOut 24 [x0, x1, x2, .int a, x4, x5, x6] st h = Run M_X9_weightOut 27 [x0, x1, x2, .int (a + (nI 1)), x4, x5, x6] st h := R_iinc d_X9_weightOut_24 (by decide) rfl (catP_of rfl hc)
theorem d_X9_weightOut_27 : decode (mB M_X9_weightOut) 27 = .ok (.goto (-25), 3) := by decide +kernel
theorem r_X9_weightOut_27 {x0 x1 x2 x3 x4 x5 x6 : Value} {st : List Value} {h : AH} : Run M_X9_weightOut 27 [x0, x1, x2, x3, x4, x5, x6] st h = Run M_X9_weightOut 2 [x0, x1, x2, x3, x4, x5, x6] st h := R_goto d_X9_weightOut_27 (by decide)
theorem d_X9_weightOut_30 : decode (mB M_X9_weightOut) 30 = .ok (.iconst 0, 1) := by decide +kernel
theorem r_X9_weightOut_30 {x0 x1 x2 x3 x4 x5 x6 : Value} {st : List Value} {h : AH} : Run M_X9_weightOut 30 [x0, x1, x2, x3, x4, x5, x6] st h = Run M_X9_weightOut 31 [x0, x1, x2, x3, x4, x5, x6] (.int (nI 0) :: st) h := R_iconst d_X9_weightOut_30 (by decide)
theorem d_X9_weightOut_31 : decode (mB M_X9_weightOut) 31 = .ok (.istore_n 3, 1) := by decide +kernel
theorem r_X9_weightOut_31 {x0 x1 x2 x3 x4 x5 x6 : Value} {a : Int32} {st : List Value} {h : AH} (hc : x2.category = 1) : Run M_X9_weightOut 31 [x0, x1, x2, x3, x4, x5, x6] (.int a :: st) h = Run M_X9_weightOut 32 [x0, x1, x2, .int a, x4, x5, x6] st h := R_istore_n d_X9_weightOut_31 (Nat.lt_of_lt_of_le (by decide : 3 < 7) (Nat.le_refl 7)) (catP_of rfl hc)
theorem d_X9_weightOut_32 : decode (mB M_X9_weightOut) 32 = .ok (.iload_n 3, 1) := by decide +kernel
theorem r_X9_weightOut_32 {x0 x1 x2 x4 x5 x6 : Value} {a : Int32} {st : List Value} {h : AH} : Run M_X9_weightOut 32 [x0, x1, x2, .int a, x4, x5, x6] st h = Run M_X9_weightOut 33 [x0, x1, x2, .int a, x4, x5, x6] (.int a :: st) h := R_iload_n d_X9_weightOut_32 rfl
theorem d_X9_weightOut_33 : decode (mB M_X9_weightOut) 33 = .ok (.aload_n 0, 1) := by decide +kernel
theorem r_X9_weightOut_33 {x1 x2 x3 x4 x5 x6 : Value} {a : Nat} {st : List Value} {h : AH} : Run M_X9_weightOut 33 [.ref a, x1, x2, x3, x4, x5, x6] st h = Run M_X9_weightOut 34 [.ref a, x1, x2, x3, x4, x5, x6] (.ref a :: st) h := R_aload_n d_X9_weightOut_33 rfl
theorem d_X9_weightOut_34 : decode (mB M_X9_weightOut) 34 = .ok (.getfield 82, 3) := by decide +kernel
theorem r_X9_weightOut_34 {x0 x1 x2 x3 x4 x5 x6 : Value} {a : Nat} {st : List Value} {h : AH} : Run M_X9_weightOut 34 [x0, x1, x2, x3, x4, x5, x6] (.ref a :: st) h = if (gF h a 9 3).isSome = true then Run M_X9_weightOut 37 [x0, x1, x2, x3, x4, x5, x6] ((gF h a 9 3).getD .null :: st) h else none := R_getfield d_X9_weightOut_34 rfl
theorem d_X9_weightOut_37 : decode (mB M_X9_weightOut) 37 = .ok (.if_icmp .ge 172, 3) := by decide +kernel
theorem r_X9_weightOut_37 {x0 x1 x2 x3 x4 x5 x6 : Value} {x y : Int32} {st : List Value} {h : AH} : Run M_X9_weightOut 37 [x0, x1, x2, x3, x4, x5, x6] (.int y :: .int x :: st) h = if y ≤ x then Run M_X9_weightOut 209 [x0, x1, x2, x3, x4, x5, x6] st h else Run M_X9_weightOut 40 [x0, x1, x2, x3, x4, x5, x6] st h := R_icmp_ge d_X9_weightOut_37 (by decide)
theorem d_X9_weightOut_40 : decode (mB M_X9_weightOut) 40 = .ok (.iconst 0, 1) := by decide +kernel
theorem r_X9_weightOut_40 {x0 x1 x2 x3 x4 x5 x6 : Value} {st : List Value} {h : AH} : Run M_X9_weightOut 40 [x0, x1, x2, x3, x4, x5, x6] st h = Run M_X9_weightOut 41 [x0, x1, x2, x3, x4, x5, x6] (.int (nI 0) :: st) h := R_iconst d_X9_weightOut_40 (by decide)
theorem d_X9_weightOut_41 : decode (mB M_X9_weightOut) 41 = .ok (.istore 4, 2) := by decide +kernel
theorem r_X9_weightOut_41 {x0 x1 x2 x3 x4 x5 x6 : Value} {a : Int32} {st : List Value} {h : AH} (hc : x3.category = 1) : Run M_X9_weightOut 41 [x0, x1, x2, x3, x4, x5, x6] (.int a :: st) h = Run M_X9_weightOut 43 [x0, x1, x2, x3, .int a, x5, x6] st h := R_istore d_X9_weightOut_41 (Nat.lt_of_lt_of_le (by decide : 4 < 7) (Nat.le_refl 7)) (catP_of rfl hc)
theorem d_X9_weightOut_43 : decode (mB M_X9_weightOut) 43 = .ok (.iload 4, 2) := by decide +kernel
theorem r_X9_weightOut_43 {x0 x1 x2 x3 x5 x6 : Value} {a : Int32} {st : List Value} {h : AH} : Run M_X9_weightOut 43 [x0, x1, x2, x3, .int a, x5, x6] st h = Run M_X9_weightOut 45 [x0, x1, x2, x3, .int a, x5, x6] (.int a :: st) h := R_iload d_X9_weightOut_43 rfl
theorem d_X9_weightOut_45 : decode (mB M_X9_weightOut) 45 = .ok (.sipush 420, 3) := by decide +kernel
theorem r_X9_weightOut_45 {x0 x1 x2 x3 x4 x5 x6 : Value} {st : List Value} {h : AH} : Run M_X9_weightOut 45 [x0, x1, x2, x3, x4, x5, x6] st h = Run M_X9_weightOut 48 [x0, x1, x2, x3, x4, x5, x6] (.int (nI 420) :: st) h := R_sipush d_X9_weightOut_45 (by decide)
theorem d_X9_weightOut_48 : decode (mB M_X9_weightOut) 48 = .ok (.if_icmp .gt 65, 3) := by decide +kernel
theorem r_X9_weightOut_48 {x0 x1 x2 x3 x4 x5 x6 : Value} {x y : Int32} {st : List Value} {h : AH} : Run M_X9_weightOut 48 [x0, x1, x2, x3, x4, x5, x6] (.int y :: .int x :: st) h = if y < x then Run M_X9_weightOut 113 [x0, x1, x2, x3, x4, x5, x6] st h else Run M_X9_weightOut 51 [x0, x1, x2, x3, x4, x5, x6] st h := R_icmp_gt d_X9_weightOut_48 (by decide)
theorem d_X9_weightOut_51 : decode (mB M_X9_weightOut) 51 = .ok (.aload_n 0, 1) := by decide +kernel
theorem r_X9_weightOut_51 {x1 x2 x3 x4 x5 x6 : Value} {a : Nat} {st : List Value} {h : AH} : Run M_X9_weightOut 51 [.ref a, x1, x2, x3, x4, x5, x6] st h = Run M_X9_weightOut 52 [.ref a, x1, x2, x3, x4, x5, x6] (.ref a :: st) h := R_aload_n d_X9_weightOut_51 rfl
theorem d_X9_weightOut_52 : decode (mB M_X9_weightOut) 52 = .ok (.getfield 73, 3) := by decide +kernel
theorem r_X9_weightOut_52 {x0 x1 x2 x3 x4 x5 x6 : Value} {a : Nat} {st : List Value} {h : AH} : Run M_X9_weightOut 52 [x0, x1, x2, x3, x4, x5, x6] (.ref a :: st) h = if (gF h a 9 35).isSome = true then Run M_X9_weightOut 55 [x0, x1, x2, x3, x4, x5, x6] ((gF h a 9 35).getD .null :: st) h else none := R_getfield d_X9_weightOut_52 rfl
theorem d_X9_weightOut_55 : decode (mB M_X9_weightOut) 55 = .ok (.iload 4, 2) := by decide +kernel
theorem r_X9_weightOut_55 {x0 x1 x2 x3 x5 x6 : Value} {a : Int32} {st : List Value} {h : AH} : Run M_X9_weightOut 55 [x0, x1, x2, x3, .int a, x5, x6] st h = Run M_X9_weightOut 57 [x0, x1, x2, x3, .int a, x5, x6] (.int a :: st) h := R_iload d_X9_weightOut_55 rfl
theorem d_X9_weightOut_57 : decode (mB M_X9_weightOut) 57 = .ok (.aload_n 0, 1) := by decide +kernel
theorem r_X9_weightOut_57 {x1 x2 x3 x4 x5 x6 : Value} {a : Nat} {st : List Value} {h : AH} : Run M_X9_weightOut 57 [.ref a, x1, x2, x3, x4, x5, x6] st h = Run M_X9_weightOut 58 [.ref a, x1, x2, x3, x4, x5, x6] (.ref a :: st) h := R_aload_n d_X9_weightOut_57 rfl
theorem d_X9_weightOut_58 : decode (mB M_X9_weightOut) 58 = .ok (.getfield 69, 3) := by decide +kernel
theorem r_X9_weightOut_58 {x0 x1 x2 x3 x4 x5 x6 : Value} {a : Nat} {st : List Value} {h : AH} : Run M_X9_weightOut 58 [x0, x1, x2, x3, x4, x5, x6] (.ref a :: st) h = if (gF h a 9 34).isSome = true then Run M_X9_weightOut 61 [x0, x1, x2, x3, x4, x5, x6] ((gF h a 9 34).getD .null :: st) h else none := R_getfield d_X9_weightOut_58 rfl
theorem d_X9_weightOut_61 : decode (mB M_X9_weightOut) 61 = .ok (.iload 4, 2) := by decide +kernel
theorem r_X9_weightOut_61 {x0 x1 x2 x3 x5 x6 : Value} {a : Int32} {st : List Value} {h : AH} : Run M_X9_weightOut 61 [x0, x1, x2, x3, .int a, x5, x6] st h = Run M_X9_weightOut 63 [x0, x1, x2, x3, .int a, x5, x6] (.int a :: st) h := R_iload d_X9_weightOut_61 rfl
theorem d_X9_weightOut_63 : decode (mB M_X9_weightOut) 63 = .ok (.laload, 1) := by decide +kernel
theorem r_X9_weightOut_63 {x0 x1 x2 x3 x4 x5 x6 : Value} {a : Nat} {i : Int32} {st : List Value} {h : AH} : Run M_X9_weightOut 63 [x0, x1, x2, x3, x4, x5, x6] (.int i :: .ref a :: st) h = if (gJ h a i).isSome = true then Run M_X9_weightOut 64 [x0, x1, x2, x3, x4, x5, x6] (.long ((gJ h a i).getD 0) :: st) h else none := R_laload d_X9_weightOut_63
theorem d_X9_weightOut_64 : decode (mB M_X9_weightOut) 64 = .ok (.lastore, 1) := by decide +kernel
theorem r_X9_weightOut_64 {x0 x1 x2 x3 x4 x5 x6 : Value} {a : Nat} {i : Int32} {x : Int64} {st : List Value} {h : AH} : Run M_X9_weightOut 64 [x0, x1, x2, x3, x4, x5, x6] (.long x :: .int i :: .ref a :: st) h = if (pJ h a i x).isSome = true then Run M_X9_weightOut 65 [x0, x1, x2, x3, x4, x5, x6] st ((pJ h a i x).getD h) else none := R_lastore d_X9_weightOut_64
theorem d_X9_weightOut_65 : decode (mB M_X9_weightOut) 65 = .ok (.aload_n 0, 1) := by decide +kernel
theorem r_X9_weightOut_65 {x1 x2 x3 x4 x5 x6 : Value} {a : Nat} {st : List Value} {h : AH} : Run M_X9_weightOut 65 [.ref a, x1, x2, x3, x4, x5, x6] st h = Run M_X9_weightOut 66 [.ref a, x1, x2, x3, x4, x5, x6] (.ref a :: st) h := R_aload_n d_X9_weightOut_65 rfl
theorem d_X9_weightOut_66 : decode (mB M_X9_weightOut) 66 = .ok (.getfield 69, 3) := by decide +kernel
theorem r_X9_weightOut_66 {x0 x1 x2 x3 x4 x5 x6 : Value} {a : Nat} {st : List Value} {h : AH} : Run M_X9_weightOut 66 [x0, x1, x2, x3, x4, x5, x6] (.ref a :: st) h = if (gF h a 9 34).isSome = true then Run M_X9_weightOut 69 [x0, x1, x2, x3, x4, x5, x6] ((gF h a 9 34).getD .null :: st) h else none := R_getfield d_X9_weightOut_66 rfl
theorem d_X9_weightOut_69 : decode (mB M_X9_weightOut) 69 = .ok (.iload 4, 2) := by decide +kernel
theorem r_X9_weightOut_69 {x0 x1 x2 x3 x5 x6 : Value} {a : Int32} {st : List Value} {h : AH} : Run M_X9_weightOut 69 [x0, x1, x2, x3, .int a, x5, x6] st h = Run M_X9_weightOut 71 [x0, x1, x2, x3, .int a, x5, x6] (.int a :: st) h := R_iload d_X9_weightOut_69 rfl
theorem d_X9_weightOut_71 : decode (mB M_X9_weightOut) 71 = .ok (.iload_n 1, 1) := by decide +kernel
theorem r_X9_weightOut_71 {x0 x2 x3 x4 x5 x6 : Value} {a : Int32} {st : List Value} {h : AH} : Run M_X9_weightOut 71 [x0, .int a, x2, x3, x4, x5, x6] st h = Run M_X9_weightOut 72 [x0, .int a, x2, x3, x4, x5, x6] (.int a :: st) h := R_iload_n d_X9_weightOut_71 rfl
theorem d_X9_weightOut_72 : decode (mB M_X9_weightOut) 72 = .ok (.iload_n 3, 1) := by decide +kernel
theorem r_X9_weightOut_72 {x0 x1 x2 x4 x5 x6 : Value} {a : Int32} {st : List Value} {h : AH} : Run M_X9_weightOut 72 [x0, x1, x2, .int a, x4, x5, x6] st h = Run M_X9_weightOut 73 [x0, x1, x2, .int a, x4, x5, x6] (.int a :: st) h := R_iload_n d_X9_weightOut_72 rfl
theorem d_X9_weightOut_73 : decode (mB M_X9_weightOut) 73 = .ok (.invokestatic 245, 3) := by decide +kernel
theorem r_X9_weightOut_73 {x0 x1 x2 x3 x4 x5 x6 : Value} {p0 : Int32} {p1 : Int32} {w0 w1 : Value} {h : AH} : Run M_X9_weightOut 73 [x0, x1, x2, x3, x4, x5, x6] (.int p1 :: .int p0 :: [w0, w1]) h = if (Call M_X9_has h [.int p0, .int p1]).isSome = true then Run M_X9_weightOut 76 [x0, x1, x2, x3, x4, x5, x6] (rL (Call M_X9_has h [.int p0, .int p1]) ++ [w0, w1]) (cH (Call M_X9_has h [.int p0, .int p1])) else none := R_stat d_X9_weightOut_73 rfl rfl rfl rfl (Nat.le_of_ble_eq_true rfl)
theorem d_X9_weightOut_76 : decode (mB M_X9_weightOut) 76 = .ok (.ifCond .eq 29, 3) := by decide +kernel
theorem r_X9_weightOut_76 {x0 x1 x2 x3 x4 x5 x6 : Value} {x : Int32} {st : List Value} {h : AH} : Run M_X9_weightOut 76 [x0, x1, x2, x3, x4, x5, x6] (.int x :: st) h = if x = nI 0 then Run M_X9_weightOut 105 [x0, x1, x2, x3, x4, x5, x6] st h else Run M_X9_weightOut 79 [x0, x1, x2, x3, x4, x5, x6] st h := R_if_eq d_X9_weightOut_76 (by decide)
theorem d_X9_weightOut_79 : decode (mB M_X9_weightOut) 79 = .ok (.aload_n 0, 1) := by decide +kernel
theorem r_X9_weightOut_79 {x1 x2 x3 x4 x5 x6 : Value} {a : Nat} {st : List Value} {h : AH} : Run M_X9_weightOut 79 [.ref a, x1, x2, x3, x4, x5, x6] st h = Run M_X9_weightOut 80 [.ref a, x1, x2, x3, x4, x5, x6] (.ref a :: st) h := R_aload_n d_X9_weightOut_79 rfl
theorem d_X9_weightOut_80 : decode (mB M_X9_weightOut) 80 = .ok (.getfield 73, 3) := by decide +kernel
theorem r_X9_weightOut_80 {x0 x1 x2 x3 x4 x5 x6 : Value} {a : Nat} {st : List Value} {h : AH} : Run M_X9_weightOut 80 [x0, x1, x2, x3, x4, x5, x6] (.ref a :: st) h = if (gF h a 9 35).isSome = true then Run M_X9_weightOut 83 [x0, x1, x2, x3, x4, x5, x6] ((gF h a 9 35).getD .null :: st) h else none := R_getfield d_X9_weightOut_80 rfl
theorem d_X9_weightOut_83 : decode (mB M_X9_weightOut) 83 = .ok (.iload 4, 2) := by decide +kernel
theorem r_X9_weightOut_83 {x0 x1 x2 x3 x5 x6 : Value} {a : Int32} {st : List Value} {h : AH} : Run M_X9_weightOut 83 [x0, x1, x2, x3, .int a, x5, x6] st h = Run M_X9_weightOut 85 [x0, x1, x2, x3, .int a, x5, x6] (.int a :: st) h := R_iload d_X9_weightOut_83 rfl
theorem d_X9_weightOut_85 : decode (mB M_X9_weightOut) 85 = .ok (.laload, 1) := by decide +kernel
theorem r_X9_weightOut_85 {x0 x1 x2 x3 x4 x5 x6 : Value} {a : Nat} {i : Int32} {st : List Value} {h : AH} : Run M_X9_weightOut 85 [x0, x1, x2, x3, x4, x5, x6] (.int i :: .ref a :: st) h = if (gJ h a i).isSome = true then Run M_X9_weightOut 86 [x0, x1, x2, x3, x4, x5, x6] (.long ((gJ h a i).getD 0) :: st) h else none := R_laload d_X9_weightOut_85
theorem d_X9_weightOut_86 : decode (mB M_X9_weightOut) 86 = .ok (.aload_n 0, 1) := by decide +kernel
theorem r_X9_weightOut_86 {x1 x2 x3 x4 x5 x6 : Value} {a : Nat} {st : List Value} {h : AH} : Run M_X9_weightOut 86 [.ref a, x1, x2, x3, x4, x5, x6] st h = Run M_X9_weightOut 87 [.ref a, x1, x2, x3, x4, x5, x6] (.ref a :: st) h := R_aload_n d_X9_weightOut_86 rfl
theorem d_X9_weightOut_87 : decode (mB M_X9_weightOut) 87 = .ok (.getfield 23, 3) := by decide +kernel
theorem r_X9_weightOut_87 {x0 x1 x2 x3 x4 x5 x6 : Value} {a : Nat} {st : List Value} {h : AH} : Run M_X9_weightOut 87 [x0, x1, x2, x3, x4, x5, x6] (.ref a :: st) h = if (gF h a 9 5).isSome = true then Run M_X9_weightOut 90 [x0, x1, x2, x3, x4, x5, x6] ((gF h a 9 5).getD .null :: st) h else none := R_getfield d_X9_weightOut_87 rfl
theorem d_X9_weightOut_90 : decode (mB M_X9_weightOut) 90 = .ok (.iload_n 3, 1) := by decide +kernel
theorem r_X9_weightOut_90 {x0 x1 x2 x4 x5 x6 : Value} {a : Int32} {st : List Value} {h : AH} : Run M_X9_weightOut 90 [x0, x1, x2, .int a, x4, x5, x6] st h = Run M_X9_weightOut 91 [x0, x1, x2, .int a, x4, x5, x6] (.int a :: st) h := R_iload_n d_X9_weightOut_90 rfl
theorem d_X9_weightOut_91 : decode (mB M_X9_weightOut) 91 = .ok (.iaload, 1) := by decide +kernel
theorem r_X9_weightOut_91 {x0 x1 x2 x3 x4 x5 x6 : Value} {a : Nat} {i : Int32} {st : List Value} {h : AH} : Run M_X9_weightOut 91 [x0, x1, x2, x3, x4, x5, x6] (.int i :: .ref a :: st) h = if (gI 0 h a i).isSome = true then Run M_X9_weightOut 92 [x0, x1, x2, x3, x4, x5, x6] (.int ((gI 0 h a i).getD 0) :: st) h else none := R_iaload d_X9_weightOut_91
theorem d_X9_weightOut_92 : decode (mB M_X9_weightOut) 92 = .ok (.i2l, 1) := by decide +kernel
theorem r_X9_weightOut_92 {x0 x1 x2 x3 x4 x5 x6 : Value} {x : Int32} {st : List Value} {h : AH} : Run M_X9_weightOut 92 [x0, x1, x2, x3, x4, x5, x6] (.int x :: st) h = Run M_X9_weightOut 93 [x0, x1, x2, x3, x4, x5, x6] (.long x.toInt64 :: st) h := R_i2l d_X9_weightOut_92
theorem d_X9_weightOut_93 : decode (mB M_X9_weightOut) 93 = .ok (.lmul, 1) := by decide +kernel
theorem r_X9_weightOut_93 {x0 x1 x2 x3 x4 x5 x6 : Value} {x y : Int64} {st : List Value} {h : AH} : Run M_X9_weightOut 93 [x0, x1, x2, x3, x4, x5, x6] (.long y :: .long x :: st) h = Run M_X9_weightOut 94 [x0, x1, x2, x3, x4, x5, x6] (.long (x * y) :: st) h := R_lmul d_X9_weightOut_93
theorem d_X9_weightOut_94 : decode (mB M_X9_weightOut) 94 = .ok (.aload_n 0, 1) := by decide +kernel
theorem r_X9_weightOut_94 {x1 x2 x3 x4 x5 x6 : Value} {a : Nat} {st : List Value} {h : AH} : Run M_X9_weightOut 94 [.ref a, x1, x2, x3, x4, x5, x6] st h = Run M_X9_weightOut 95 [.ref a, x1, x2, x3, x4, x5, x6] (.ref a :: st) h := R_aload_n d_X9_weightOut_94 rfl
theorem d_X9_weightOut_95 : decode (mB M_X9_weightOut) 95 = .ok (.getfield 29, 3) := by decide +kernel
theorem r_X9_weightOut_95 {x0 x1 x2 x3 x4 x5 x6 : Value} {a : Nat} {st : List Value} {h : AH} : Run M_X9_weightOut 95 [x0, x1, x2, x3, x4, x5, x6] (.ref a :: st) h = if (gF h a 9 7).isSome = true then Run M_X9_weightOut 98 [x0, x1, x2, x3, x4, x5, x6] ((gF h a 9 7).getD .null :: st) h else none := R_getfield d_X9_weightOut_95 rfl
theorem d_X9_weightOut_98 : decode (mB M_X9_weightOut) 98 = .ok (.iload_n 3, 1) := by decide +kernel
theorem r_X9_weightOut_98 {x0 x1 x2 x4 x5 x6 : Value} {a : Int32} {st : List Value} {h : AH} : Run M_X9_weightOut 98 [x0, x1, x2, .int a, x4, x5, x6] st h = Run M_X9_weightOut 99 [x0, x1, x2, .int a, x4, x5, x6] (.int a :: st) h := R_iload_n d_X9_weightOut_98 rfl
theorem d_X9_weightOut_99 : decode (mB M_X9_weightOut) 99 = .ok (.iaload, 1) := by decide +kernel
theorem r_X9_weightOut_99 {x0 x1 x2 x3 x4 x5 x6 : Value} {a : Nat} {i : Int32} {st : List Value} {h : AH} : Run M_X9_weightOut 99 [x0, x1, x2, x3, x4, x5, x6] (.int i :: .ref a :: st) h = if (gI 0 h a i).isSome = true then Run M_X9_weightOut 100 [x0, x1, x2, x3, x4, x5, x6] (.int ((gI 0 h a i).getD 0) :: st) h else none := R_iaload d_X9_weightOut_99
theorem d_X9_weightOut_100 : decode (mB M_X9_weightOut) 100 = .ok (.i2l, 1) := by decide +kernel
theorem r_X9_weightOut_100 {x0 x1 x2 x3 x4 x5 x6 : Value} {x : Int32} {st : List Value} {h : AH} : Run M_X9_weightOut 100 [x0, x1, x2, x3, x4, x5, x6] (.int x :: st) h = Run M_X9_weightOut 101 [x0, x1, x2, x3, x4, x5, x6] (.long x.toInt64 :: st) h := R_i2l d_X9_weightOut_100
theorem d_X9_weightOut_101 : decode (mB M_X9_weightOut) 101 = .ok (.lmul, 1) := by decide +kernel
theorem r_X9_weightOut_101 {x0 x1 x2 x3 x4 x5 x6 : Value} {x y : Int64} {st : List Value} {h : AH} : Run M_X9_weightOut 101 [x0, x1, x2, x3, x4, x5, x6] (.long y :: .long x :: st) h = Run M_X9_weightOut 102 [x0, x1, x2, x3, x4, x5, x6] (.long (x * y) :: st) h := R_lmul d_X9_weightOut_101
theorem d_X9_weightOut_102 : decode (mB M_X9_weightOut) 102 = .ok (.goto 4, 3) := by decide +kernel
theorem r_X9_weightOut_102 {x0 x1 x2 x3 x4 x5 x6 : Value} {st : List Value} {h : AH} : Run M_X9_weightOut 102 [x0, x1, x2, x3, x4, x5, x6] st h = Run M_X9_weightOut 106 [x0, x1, x2, x3, x4, x5, x6] st h := R_goto d_X9_weightOut_102 (by decide)
theorem d_X9_weightOut_105 : decode (mB M_X9_weightOut) 105 = .ok (.lconst 0, 1) := by decide +kernel
theorem r_X9_weightOut_105 {x0 x1 x2 x3 x4 x5 x6 : Value} {st : List Value} {h : AH} : Run M_X9_weightOut 105 [x0, x1, x2, x3, x4, x5, x6] st h = Run M_X9_weightOut 106 [x0, x1, x2, x3, x4, x5, x6] (.long (lN 0) :: st) h := R_lconst d_X9_weightOut_105 (by decide)
theorem d_X9_weightOut_106 : decode (mB M_X9_weightOut) 106 = .ok (.lastore, 1) := by decide +kernel
theorem r_X9_weightOut_106 {x0 x1 x2 x3 x4 x5 x6 : Value} {a : Nat} {i : Int32} {x : Int64} {st : List Value} {h : AH} : Run M_X9_weightOut 106 [x0, x1, x2, x3, x4, x5, x6] (.long x :: .int i :: .ref a :: st) h = if (pJ h a i x).isSome = true then Run M_X9_weightOut 107 [x0, x1, x2, x3, x4, x5, x6] st ((pJ h a i x).getD h) else none := R_lastore d_X9_weightOut_106
theorem d_X9_weightOut_107 : decode (mB M_X9_weightOut) 107 = .ok (.iinc 4 1, 3) := by decide +kernel
theorem r_X9_weightOut_107 {x0 x1 x2 x3 x5 x6 : Value} {a : Int32} {st : List Value} {h : AH} (hc : x3.category = 1) : Run M_X9_weightOut 107 [x0, x1, x2, x3, .int a, x5, x6] st h = Run M_X9_weightOut 110 [x0, x1, x2, x3, .int (a + (nI 1)), x5, x6] st h := R_iinc d_X9_weightOut_107 (by decide) rfl (catP_of rfl hc)
theorem d_X9_weightOut_110 : decode (mB M_X9_weightOut) 110 = .ok (.goto (-67), 3) := by decide +kernel
theorem r_X9_weightOut_110 {x0 x1 x2 x3 x4 x5 x6 : Value} {st : List Value} {h : AH} : Run M_X9_weightOut 110 [x0, x1, x2, x3, x4, x5, x6] st h = Run M_X9_weightOut 43 [x0, x1, x2, x3, x4, x5, x6] st h := R_goto d_X9_weightOut_110 (by decide)
theorem d_X9_weightOut_113 : decode (mB M_X9_weightOut) 113 = .ok (.iconst 0, 1) := by decide +kernel
theorem r_X9_weightOut_113 {x0 x1 x2 x3 x4 x5 x6 : Value} {st : List Value} {h : AH} : Run M_X9_weightOut 113 [x0, x1, x2, x3, x4, x5, x6] st h = Run M_X9_weightOut 114 [x0, x1, x2, x3, x4, x5, x6] (.int (nI 0) :: st) h := R_iconst d_X9_weightOut_113 (by decide)
theorem d_X9_weightOut_114 : decode (mB M_X9_weightOut) 114 = .ok (.istore 4, 2) := by decide +kernel
theorem r_X9_weightOut_114 {x0 x1 x2 x3 x4 x5 x6 : Value} {a : Int32} {st : List Value} {h : AH} (hc : x3.category = 1) : Run M_X9_weightOut 114 [x0, x1, x2, x3, x4, x5, x6] (.int a :: st) h = Run M_X9_weightOut 116 [x0, x1, x2, x3, .int a, x5, x6] st h := R_istore d_X9_weightOut_114 (Nat.lt_of_lt_of_le (by decide : 4 < 7) (Nat.le_refl 7)) (catP_of rfl hc)
theorem d_X9_weightOut_116 : decode (mB M_X9_weightOut) 116 = .ok (.iload 4, 2) := by decide +kernel
theorem r_X9_weightOut_116 {x0 x1 x2 x3 x5 x6 : Value} {a : Int32} {st : List Value} {h : AH} : Run M_X9_weightOut 116 [x0, x1, x2, x3, .int a, x5, x6] st h = Run M_X9_weightOut 118 [x0, x1, x2, x3, .int a, x5, x6] (.int a :: st) h := R_iload d_X9_weightOut_116 rfl
theorem d_X9_weightOut_118 : decode (mB M_X9_weightOut) 118 = .ok (.aload_n 0, 1) := by decide +kernel
theorem r_X9_weightOut_118 {x1 x2 x3 x4 x5 x6 : Value} {a : Nat} {st : List Value} {h : AH} : Run M_X9_weightOut 118 [.ref a, x1, x2, x3, x4, x5, x6] st h = Run M_X9_weightOut 119 [.ref a, x1, x2, x3, x4, x5, x6] (.ref a :: st) h := R_aload_n d_X9_weightOut_118 rfl
theorem d_X9_weightOut_119 : decode (mB M_X9_weightOut) 119 = .ok (.getfield 29, 3) := by decide +kernel
theorem r_X9_weightOut_119 {x0 x1 x2 x3 x4 x5 x6 : Value} {a : Nat} {st : List Value} {h : AH} : Run M_X9_weightOut 119 [x0, x1, x2, x3, x4, x5, x6] (.ref a :: st) h = if (gF h a 9 7).isSome = true then Run M_X9_weightOut 122 [x0, x1, x2, x3, x4, x5, x6] ((gF h a 9 7).getD .null :: st) h else none := R_getfield d_X9_weightOut_119 rfl
theorem d_X9_weightOut_122 : decode (mB M_X9_weightOut) 122 = .ok (.iload_n 3, 1) := by decide +kernel
theorem r_X9_weightOut_122 {x0 x1 x2 x4 x5 x6 : Value} {a : Int32} {st : List Value} {h : AH} : Run M_X9_weightOut 122 [x0, x1, x2, .int a, x4, x5, x6] st h = Run M_X9_weightOut 123 [x0, x1, x2, .int a, x4, x5, x6] (.int a :: st) h := R_iload_n d_X9_weightOut_122 rfl
theorem d_X9_weightOut_123 : decode (mB M_X9_weightOut) 123 = .ok (.iaload, 1) := by decide +kernel
theorem r_X9_weightOut_123 {x0 x1 x2 x3 x4 x5 x6 : Value} {a : Nat} {i : Int32} {st : List Value} {h : AH} : Run M_X9_weightOut 123 [x0, x1, x2, x3, x4, x5, x6] (.int i :: .ref a :: st) h = if (gI 0 h a i).isSome = true then Run M_X9_weightOut 124 [x0, x1, x2, x3, x4, x5, x6] (.int ((gI 0 h a i).getD 0) :: st) h else none := R_iaload d_X9_weightOut_123
theorem d_X9_weightOut_124 : decode (mB M_X9_weightOut) 124 = .ok (.if_icmp .ge 79, 3) := by decide +kernel
theorem r_X9_weightOut_124 {x0 x1 x2 x3 x4 x5 x6 : Value} {x y : Int32} {st : List Value} {h : AH} : Run M_X9_weightOut 124 [x0, x1, x2, x3, x4, x5, x6] (.int y :: .int x :: st) h = if y ≤ x then Run M_X9_weightOut 203 [x0, x1, x2, x3, x4, x5, x6] st h else Run M_X9_weightOut 127 [x0, x1, x2, x3, x4, x5, x6] st h := R_icmp_ge d_X9_weightOut_124 (by decide)
theorem d_X9_weightOut_127 : decode (mB M_X9_weightOut) 127 = .ok (.iload_n 1, 1) := by decide +kernel
theorem r_X9_weightOut_127 {x0 x2 x3 x4 x5 x6 : Value} {a : Int32} {st : List Value} {h : AH} : Run M_X9_weightOut 127 [x0, .int a, x2, x3, x4, x5, x6] st h = Run M_X9_weightOut 128 [x0, .int a, x2, x3, x4, x5, x6] (.int a :: st) h := R_iload_n d_X9_weightOut_127 rfl
theorem d_X9_weightOut_128 : decode (mB M_X9_weightOut) 128 = .ok (.iload_n 3, 1) := by decide +kernel
theorem r_X9_weightOut_128 {x0 x1 x2 x4 x5 x6 : Value} {a : Int32} {st : List Value} {h : AH} : Run M_X9_weightOut 128 [x0, x1, x2, .int a, x4, x5, x6] st h = Run M_X9_weightOut 129 [x0, x1, x2, .int a, x4, x5, x6] (.int a :: st) h := R_iload_n d_X9_weightOut_128 rfl
theorem d_X9_weightOut_129 : decode (mB M_X9_weightOut) 129 = .ok (.invokestatic 245, 3) := by decide +kernel
theorem r_X9_weightOut_129 {x0 x1 x2 x3 x4 x5 x6 : Value} {p0 : Int32} {p1 : Int32} {h : AH} : Run M_X9_weightOut 129 [x0, x1, x2, x3, x4, x5, x6] (.int p1 :: .int p0 :: []) h = if (Call M_X9_has h [.int p0, .int p1]).isSome = true then Run M_X9_weightOut 132 [x0, x1, x2, x3, x4, x5, x6] (rL (Call M_X9_has h [.int p0, .int p1]) ++ []) (cH (Call M_X9_has h [.int p0, .int p1])) else none := R_stat d_X9_weightOut_129 rfl rfl rfl rfl (Nat.le_of_ble_eq_true rfl)
theorem d_X9_weightOut_132 : decode (mB M_X9_weightOut) 132 = .ok (.ifCond .ne 71, 3) := by decide +kernel
theorem r_X9_weightOut_132 {x0 x1 x2 x3 x4 x5 x6 : Value} {x : Int32} {st : List Value} {h : AH} : Run M_X9_weightOut 132 [x0, x1, x2, x3, x4, x5, x6] (.int x :: st) h = if x = nI 0 then Run M_X9_weightOut 135 [x0, x1, x2, x3, x4, x5, x6] st h else Run M_X9_weightOut 203 [x0, x1, x2, x3, x4, x5, x6] st h := R_if_ne d_X9_weightOut_132 (by decide)
theorem d_X9_weightOut_135 : decode (mB M_X9_weightOut) 135 = .ok (.aload_n 0, 1) := by decide +kernel
theorem r_X9_weightOut_135 {x1 x2 x3 x4 x5 x6 : Value} {a : Nat} {st : List Value} {h : AH} : Run M_X9_weightOut 135 [.ref a, x1, x2, x3, x4, x5, x6] st h = Run M_X9_weightOut 136 [.ref a, x1, x2, x3, x4, x5, x6] (.ref a :: st) h := R_aload_n d_X9_weightOut_135 rfl
theorem d_X9_weightOut_136 : decode (mB M_X9_weightOut) 136 = .ok (.getfield 32, 3) := by decide +kernel
theorem r_X9_weightOut_136 {x0 x1 x2 x3 x4 x5 x6 : Value} {a : Nat} {st : List Value} {h : AH} : Run M_X9_weightOut 136 [x0, x1, x2, x3, x4, x5, x6] (.ref a :: st) h = if (gF h a 9 8).isSome = true then Run M_X9_weightOut 139 [x0, x1, x2, x3, x4, x5, x6] ((gF h a 9 8).getD .null :: st) h else none := R_getfield d_X9_weightOut_136 rfl
theorem d_X9_weightOut_139 : decode (mB M_X9_weightOut) 139 = .ok (.iconst 4, 1) := by decide +kernel
theorem r_X9_weightOut_139 {x0 x1 x2 x3 x4 x5 x6 : Value} {st : List Value} {h : AH} : Run M_X9_weightOut 139 [x0, x1, x2, x3, x4, x5, x6] st h = Run M_X9_weightOut 140 [x0, x1, x2, x3, x4, x5, x6] (.int (nI 4) :: st) h := R_iconst d_X9_weightOut_139 (by decide)
theorem d_X9_weightOut_140 : decode (mB M_X9_weightOut) 140 = .ok (.iload_n 3, 1) := by decide +kernel
theorem r_X9_weightOut_140 {x0 x1 x2 x4 x5 x6 : Value} {a : Int32} {st : List Value} {h : AH} : Run M_X9_weightOut 140 [x0, x1, x2, .int a, x4, x5, x6] st h = Run M_X9_weightOut 141 [x0, x1, x2, .int a, x4, x5, x6] (.int a :: st) h := R_iload_n d_X9_weightOut_140 rfl
theorem d_X9_weightOut_141 : decode (mB M_X9_weightOut) 141 = .ok (.imul, 1) := by decide +kernel
theorem r_X9_weightOut_141 {x0 x1 x2 x3 x4 x5 x6 : Value} {x y : Int32} {st : List Value} {h : AH} : Run M_X9_weightOut 141 [x0, x1, x2, x3, x4, x5, x6] (.int y :: .int x :: st) h = Run M_X9_weightOut 142 [x0, x1, x2, x3, x4, x5, x6] (.int (x * y) :: st) h := R_imul d_X9_weightOut_141
theorem d_X9_weightOut_142 : decode (mB M_X9_weightOut) 142 = .ok (.iload 4, 2) := by decide +kernel
theorem r_X9_weightOut_142 {x0 x1 x2 x3 x5 x6 : Value} {a : Int32} {st : List Value} {h : AH} : Run M_X9_weightOut 142 [x0, x1, x2, x3, .int a, x5, x6] st h = Run M_X9_weightOut 144 [x0, x1, x2, x3, .int a, x5, x6] (.int a :: st) h := R_iload d_X9_weightOut_142 rfl
theorem d_X9_weightOut_144 : decode (mB M_X9_weightOut) 144 = .ok (.iadd, 1) := by decide +kernel
theorem r_X9_weightOut_144 {x0 x1 x2 x3 x4 x5 x6 : Value} {x y : Int32} {st : List Value} {h : AH} : Run M_X9_weightOut 144 [x0, x1, x2, x3, x4, x5, x6] (.int y :: .int x :: st) h = Run M_X9_weightOut 145 [x0, x1, x2, x3, x4, x5, x6] (.int (x + y) :: st) h := R_iadd d_X9_weightOut_144
theorem d_X9_weightOut_145 : decode (mB M_X9_weightOut) 145 = .ok (.iaload, 1) := by decide +kernel
theorem r_X9_weightOut_145 {x0 x1 x2 x3 x4 x5 x6 : Value} {a : Nat} {i : Int32} {st : List Value} {h : AH} : Run M_X9_weightOut 145 [x0, x1, x2, x3, x4, x5, x6] (.int i :: .ref a :: st) h = if (gI 0 h a i).isSome = true then Run M_X9_weightOut 146 [x0, x1, x2, x3, x4, x5, x6] (.int ((gI 0 h a i).getD 0) :: st) h else none := R_iaload d_X9_weightOut_145
theorem d_X9_weightOut_146 : decode (mB M_X9_weightOut) 146 = .ok (.istore 5, 2) := by decide +kernel
theorem r_X9_weightOut_146 {x0 x1 x2 x3 x4 x5 x6 : Value} {a : Int32} {st : List Value} {h : AH} (hc : x4.category = 1) : Run M_X9_weightOut 146 [x0, x1, x2, x3, x4, x5, x6] (.int a :: st) h = Run M_X9_weightOut 148 [x0, x1, x2, x3, x4, .int a, x6] st h := R_istore d_X9_weightOut_146 (Nat.lt_of_lt_of_le (by decide : 5 < 7) (Nat.le_refl 7)) (catP_of rfl hc)
theorem d_X9_weightOut_148 : decode (mB M_X9_weightOut) 148 = .ok (.iload 5, 2) := by decide +kernel
theorem r_X9_weightOut_148 {x0 x1 x2 x3 x4 x6 : Value} {a : Int32} {st : List Value} {h : AH} : Run M_X9_weightOut 148 [x0, x1, x2, x3, x4, .int a, x6] st h = Run M_X9_weightOut 150 [x0, x1, x2, x3, x4, .int a, x6] (.int a :: st) h := R_iload d_X9_weightOut_148 rfl
theorem d_X9_weightOut_150 : decode (mB M_X9_weightOut) 150 = .ok (.istore 6, 2) := by decide +kernel
theorem r_X9_weightOut_150 {x0 x1 x2 x3 x4 x5 x6 : Value} {a : Int32} {st : List Value} {h : AH} (hc : x5.category = 1) : Run M_X9_weightOut 150 [x0, x1, x2, x3, x4, x5, x6] (.int a :: st) h = Run M_X9_weightOut 152 [x0, x1, x2, x3, x4, x5, .int a] st h := R_istore d_X9_weightOut_150 (Nat.lt_of_lt_of_le (by decide : 6 < 7) (Nat.le_refl 7)) (catP_of rfl hc)
theorem d_X9_weightOut_152 : decode (mB M_X9_weightOut) 152 = .ok (.iload 6, 2) := by decide +kernel
theorem r_X9_weightOut_152 {x0 x1 x2 x3 x4 x5 : Value} {a : Int32} {st : List Value} {h : AH} : Run M_X9_weightOut 152 [x0, x1, x2, x3, x4, x5, .int a] st h = Run M_X9_weightOut 154 [x0, x1, x2, x3, x4, x5, .int a] (.int a :: st) h := R_iload d_X9_weightOut_152 rfl
theorem d_X9_weightOut_154 : decode (mB M_X9_weightOut) 154 = .ok (.sipush 420, 3) := by decide +kernel
theorem r_X9_weightOut_154 {x0 x1 x2 x3 x4 x5 x6 : Value} {st : List Value} {h : AH} : Run M_X9_weightOut 154 [x0, x1, x2, x3, x4, x5, x6] st h = Run M_X9_weightOut 157 [x0, x1, x2, x3, x4, x5, x6] (.int (nI 420) :: st) h := R_sipush d_X9_weightOut_154 (by decide)
theorem d_X9_weightOut_157 : decode (mB M_X9_weightOut) 157 = .ok (.if_icmp .gt 40, 3) := by decide +kernel
theorem r_X9_weightOut_157 {x0 x1 x2 x3 x4 x5 x6 : Value} {x y : Int32} {st : List Value} {h : AH} : Run M_X9_weightOut 157 [x0, x1, x2, x3, x4, x5, x6] (.int y :: .int x :: st) h = if y < x then Run M_X9_weightOut 197 [x0, x1, x2, x3, x4, x5, x6] st h else Run M_X9_weightOut 160 [x0, x1, x2, x3, x4, x5, x6] st h := R_icmp_gt d_X9_weightOut_157 (by decide)
theorem d_X9_weightOut_160 : decode (mB M_X9_weightOut) 160 = .ok (.aload_n 0, 1) := by decide +kernel
theorem r_X9_weightOut_160 {x1 x2 x3 x4 x5 x6 : Value} {a : Nat} {st : List Value} {h : AH} : Run M_X9_weightOut 160 [.ref a, x1, x2, x3, x4, x5, x6] st h = Run M_X9_weightOut 161 [.ref a, x1, x2, x3, x4, x5, x6] (.ref a :: st) h := R_aload_n d_X9_weightOut_160 rfl
theorem d_X9_weightOut_161 : decode (mB M_X9_weightOut) 161 = .ok (.getfield 69, 3) := by decide +kernel
theorem r_X9_weightOut_161 {x0 x1 x2 x3 x4 x5 x6 : Value} {a : Nat} {st : List Value} {h : AH} : Run M_X9_weightOut 161 [x0, x1, x2, x3, x4, x5, x6] (.ref a :: st) h = if (gF h a 9 34).isSome = true then Run M_X9_weightOut 164 [x0, x1, x2, x3, x4, x5, x6] ((gF h a 9 34).getD .null :: st) h else none := R_getfield d_X9_weightOut_161 rfl
theorem d_X9_weightOut_164 : decode (mB M_X9_weightOut) 164 = .ok (.iload 6, 2) := by decide +kernel
theorem r_X9_weightOut_164 {x0 x1 x2 x3 x4 x5 : Value} {a : Int32} {st : List Value} {h : AH} : Run M_X9_weightOut 164 [x0, x1, x2, x3, x4, x5, .int a] st h = Run M_X9_weightOut 166 [x0, x1, x2, x3, x4, x5, .int a] (.int a :: st) h := R_iload d_X9_weightOut_164 rfl
theorem d_X9_weightOut_166 : decode (mB M_X9_weightOut) 166 = .ok (.dup2, 1) := by decide +kernel
theorem r_X9_weightOut_166 {x0 x1 x2 x3 x4 x5 x6 : Value} {x : Nat} {y : Int32} {st : List Value} {h : AH} : Run M_X9_weightOut 166 [x0, x1, x2, x3, x4, x5, x6] (.int y :: .ref x :: st) h = Run M_X9_weightOut 167 [x0, x1, x2, x3, x4, x5, x6] (.int y :: .ref x :: .int y :: .ref x :: st) h := R_dup2 d_X9_weightOut_166
theorem d_X9_weightOut_167 : decode (mB M_X9_weightOut) 167 = .ok (.laload, 1) := by decide +kernel
theorem r_X9_weightOut_167 {x0 x1 x2 x3 x4 x5 x6 : Value} {a : Nat} {i : Int32} {st : List Value} {h : AH} : Run M_X9_weightOut 167 [x0, x1, x2, x3, x4, x5, x6] (.int i :: .ref a :: st) h = if (gJ h a i).isSome = true then Run M_X9_weightOut 168 [x0, x1, x2, x3, x4, x5, x6] (.long ((gJ h a i).getD 0) :: st) h else none := R_laload d_X9_weightOut_167
theorem d_X9_weightOut_168 : decode (mB M_X9_weightOut) 168 = .ok (.aload_n 0, 1) := by decide +kernel
theorem r_X9_weightOut_168 {x1 x2 x3 x4 x5 x6 : Value} {a : Nat} {st : List Value} {h : AH} : Run M_X9_weightOut 168 [.ref a, x1, x2, x3, x4, x5, x6] st h = Run M_X9_weightOut 169 [.ref a, x1, x2, x3, x4, x5, x6] (.ref a :: st) h := R_aload_n d_X9_weightOut_168 rfl
theorem d_X9_weightOut_169 : decode (mB M_X9_weightOut) 169 = .ok (.getfield 73, 3) := by decide +kernel
theorem r_X9_weightOut_169 {x0 x1 x2 x3 x4 x5 x6 : Value} {a : Nat} {st : List Value} {h : AH} : Run M_X9_weightOut 169 [x0, x1, x2, x3, x4, x5, x6] (.ref a :: st) h = if (gF h a 9 35).isSome = true then Run M_X9_weightOut 172 [x0, x1, x2, x3, x4, x5, x6] ((gF h a 9 35).getD .null :: st) h else none := R_getfield d_X9_weightOut_169 rfl
theorem d_X9_weightOut_172 : decode (mB M_X9_weightOut) 172 = .ok (.iload 6, 2) := by decide +kernel
theorem r_X9_weightOut_172 {x0 x1 x2 x3 x4 x5 : Value} {a : Int32} {st : List Value} {h : AH} : Run M_X9_weightOut 172 [x0, x1, x2, x3, x4, x5, .int a] st h = Run M_X9_weightOut 174 [x0, x1, x2, x3, x4, x5, .int a] (.int a :: st) h := R_iload d_X9_weightOut_172 rfl
theorem d_X9_weightOut_174 : decode (mB M_X9_weightOut) 174 = .ok (.iload 5, 2) := by decide +kernel
theorem r_X9_weightOut_174 {x0 x1 x2 x3 x4 x6 : Value} {a : Int32} {st : List Value} {h : AH} : Run M_X9_weightOut 174 [x0, x1, x2, x3, x4, .int a, x6] st h = Run M_X9_weightOut 176 [x0, x1, x2, x3, x4, .int a, x6] (.int a :: st) h := R_iload d_X9_weightOut_174 rfl
theorem d_X9_weightOut_176 : decode (mB M_X9_weightOut) 176 = .ok (.isub, 1) := by decide +kernel
theorem r_X9_weightOut_176 {x0 x1 x2 x3 x4 x5 x6 : Value} {x y : Int32} {st : List Value} {h : AH} : Run M_X9_weightOut 176 [x0, x1, x2, x3, x4, x5, x6] (.int y :: .int x :: st) h = Run M_X9_weightOut 177 [x0, x1, x2, x3, x4, x5, x6] (.int (x - y) :: st) h := R_isub d_X9_weightOut_176
theorem d_X9_weightOut_177 : decode (mB M_X9_weightOut) 177 = .ok (.laload, 1) := by decide +kernel
theorem r_X9_weightOut_177 {x0 x1 x2 x3 x4 x5 x6 : Value} {a : Nat} {i : Int32} {st : List Value} {h : AH} : Run M_X9_weightOut 177 [x0, x1, x2, x3, x4, x5, x6] (.int i :: .ref a :: st) h = if (gJ h a i).isSome = true then Run M_X9_weightOut 178 [x0, x1, x2, x3, x4, x5, x6] (.long ((gJ h a i).getD 0) :: st) h else none := R_laload d_X9_weightOut_177
theorem d_X9_weightOut_178 : decode (mB M_X9_weightOut) 178 = .ok (.bipush 8, 2) := by decide +kernel
theorem r_X9_weightOut_178 {x0 x1 x2 x3 x4 x5 x6 : Value} {st : List Value} {h : AH} : Run M_X9_weightOut 178 [x0, x1, x2, x3, x4, x5, x6] st h = Run M_X9_weightOut 180 [x0, x1, x2, x3, x4, x5, x6] (.int (nI 8) :: st) h := R_bipush d_X9_weightOut_178 (by decide)
theorem d_X9_weightOut_180 : decode (mB M_X9_weightOut) 180 = .ok (.aload_n 0, 1) := by decide +kernel
theorem r_X9_weightOut_180 {x1 x2 x3 x4 x5 x6 : Value} {a : Nat} {st : List Value} {h : AH} : Run M_X9_weightOut 180 [.ref a, x1, x2, x3, x4, x5, x6] st h = Run M_X9_weightOut 181 [.ref a, x1, x2, x3, x4, x5, x6] (.ref a :: st) h := R_aload_n d_X9_weightOut_180 rfl
theorem d_X9_weightOut_181 : decode (mB M_X9_weightOut) 181 = .ok (.getfield 23, 3) := by decide +kernel
theorem r_X9_weightOut_181 {x0 x1 x2 x3 x4 x5 x6 : Value} {a : Nat} {st : List Value} {h : AH} : Run M_X9_weightOut 181 [x0, x1, x2, x3, x4, x5, x6] (.ref a :: st) h = if (gF h a 9 5).isSome = true then Run M_X9_weightOut 184 [x0, x1, x2, x3, x4, x5, x6] ((gF h a 9 5).getD .null :: st) h else none := R_getfield d_X9_weightOut_181 rfl
theorem d_X9_weightOut_184 : decode (mB M_X9_weightOut) 184 = .ok (.iload_n 3, 1) := by decide +kernel
theorem r_X9_weightOut_184 {x0 x1 x2 x4 x5 x6 : Value} {a : Int32} {st : List Value} {h : AH} : Run M_X9_weightOut 184 [x0, x1, x2, .int a, x4, x5, x6] st h = Run M_X9_weightOut 185 [x0, x1, x2, .int a, x4, x5, x6] (.int a :: st) h := R_iload_n d_X9_weightOut_184 rfl
theorem d_X9_weightOut_185 : decode (mB M_X9_weightOut) 185 = .ok (.iaload, 1) := by decide +kernel
theorem r_X9_weightOut_185 {x0 x1 x2 x3 x4 x5 x6 : Value} {a : Nat} {i : Int32} {st : List Value} {h : AH} : Run M_X9_weightOut 185 [x0, x1, x2, x3, x4, x5, x6] (.int i :: .ref a :: st) h = if (gI 0 h a i).isSome = true then Run M_X9_weightOut 186 [x0, x1, x2, x3, x4, x5, x6] (.int ((gI 0 h a i).getD 0) :: st) h else none := R_iaload d_X9_weightOut_185
theorem d_X9_weightOut_186 : decode (mB M_X9_weightOut) 186 = .ok (.isub, 1) := by decide +kernel
theorem r_X9_weightOut_186 {x0 x1 x2 x3 x4 x5 x6 : Value} {x y : Int32} {st : List Value} {h : AH} : Run M_X9_weightOut 186 [x0, x1, x2, x3, x4, x5, x6] (.int y :: .int x :: st) h = Run M_X9_weightOut 187 [x0, x1, x2, x3, x4, x5, x6] (.int (x - y) :: st) h := R_isub d_X9_weightOut_186
theorem d_X9_weightOut_187 : decode (mB M_X9_weightOut) 187 = .ok (.i2l, 1) := by decide +kernel
theorem r_X9_weightOut_187 {x0 x1 x2 x3 x4 x5 x6 : Value} {x : Int32} {st : List Value} {h : AH} : Run M_X9_weightOut 187 [x0, x1, x2, x3, x4, x5, x6] (.int x :: st) h = Run M_X9_weightOut 188 [x0, x1, x2, x3, x4, x5, x6] (.long x.toInt64 :: st) h := R_i2l d_X9_weightOut_187
theorem d_X9_weightOut_188 : decode (mB M_X9_weightOut) 188 = .ok (.lmul, 1) := by decide +kernel
theorem r_X9_weightOut_188 {x0 x1 x2 x3 x4 x5 x6 : Value} {x y : Int64} {st : List Value} {h : AH} : Run M_X9_weightOut 188 [x0, x1, x2, x3, x4, x5, x6] (.long y :: .long x :: st) h = Run M_X9_weightOut 189 [x0, x1, x2, x3, x4, x5, x6] (.long (x * y) :: st) h := R_lmul d_X9_weightOut_188
theorem d_X9_weightOut_189 : decode (mB M_X9_weightOut) 189 = .ok (.ladd, 1) := by decide +kernel
theorem r_X9_weightOut_189 {x0 x1 x2 x3 x4 x5 x6 : Value} {x y : Int64} {st : List Value} {h : AH} : Run M_X9_weightOut 189 [x0, x1, x2, x3, x4, x5, x6] (.long y :: .long x :: st) h = Run M_X9_weightOut 190 [x0, x1, x2, x3, x4, x5, x6] (.long (x + y) :: st) h := R_ladd d_X9_weightOut_189
theorem d_X9_weightOut_190 : decode (mB M_X9_weightOut) 190 = .ok (.lastore, 1) := by decide +kernel
theorem r_X9_weightOut_190 {x0 x1 x2 x3 x4 x5 x6 : Value} {a : Nat} {i : Int32} {x : Int64} {st : List Value} {h : AH} : Run M_X9_weightOut 190 [x0, x1, x2, x3, x4, x5, x6] (.long x :: .int i :: .ref a :: st) h = if (pJ h a i x).isSome = true then Run M_X9_weightOut 191 [x0, x1, x2, x3, x4, x5, x6] st ((pJ h a i x).getD h) else none := R_lastore d_X9_weightOut_190
theorem d_X9_weightOut_191 : decode (mB M_X9_weightOut) 191 = .ok (.iinc 6 1, 3) := by decide +kernel
theorem r_X9_weightOut_191 {x0 x1 x2 x3 x4 x5 : Value} {a : Int32} {st : List Value} {h : AH} (hc : x5.category = 1) : Run M_X9_weightOut 191 [x0, x1, x2, x3, x4, x5, .int a] st h = Run M_X9_weightOut 194 [x0, x1, x2, x3, x4, x5, .int (a + (nI 1))] st h := R_iinc d_X9_weightOut_191 (by decide) rfl (catP_of rfl hc)
theorem d_X9_weightOut_194 : decode (mB M_X9_weightOut) 194 = .ok (.goto (-42), 3) := by decide +kernel
theorem r_X9_weightOut_194 {x0 x1 x2 x3 x4 x5 x6 : Value} {st : List Value} {h : AH} : Run M_X9_weightOut 194 [x0, x1, x2, x3, x4, x5, x6] st h = Run M_X9_weightOut 152 [x0, x1, x2, x3, x4, x5, x6] st h := R_goto d_X9_weightOut_194 (by decide)
theorem d_X9_weightOut_197 : decode (mB M_X9_weightOut) 197 = .ok (.iinc 4 1, 3) := by decide +kernel
theorem r_X9_weightOut_197 {x0 x1 x2 x3 x5 x6 : Value} {a : Int32} {st : List Value} {h : AH} (hc : x3.category = 1) : Run M_X9_weightOut 197 [x0, x1, x2, x3, .int a, x5, x6] st h = Run M_X9_weightOut 200 [x0, x1, x2, x3, .int (a + (nI 1)), x5, x6] st h := R_iinc d_X9_weightOut_197 (by decide) rfl (catP_of rfl hc)
theorem d_X9_weightOut_200 : decode (mB M_X9_weightOut) 200 = .ok (.goto (-84), 3) := by decide +kernel
theorem r_X9_weightOut_200 {x0 x1 x2 x3 x4 x5 x6 : Value} {st : List Value} {h : AH} : Run M_X9_weightOut 200 [x0, x1, x2, x3, x4, x5, x6] st h = Run M_X9_weightOut 116 [x0, x1, x2, x3, x4, x5, x6] st h := R_goto d_X9_weightOut_200 (by decide)
theorem d_X9_weightOut_203 : decode (mB M_X9_weightOut) 203 = .ok (.iinc 3 1, 3) := by decide +kernel
theorem r_X9_weightOut_203 {x0 x1 x2 x4 x5 x6 : Value} {a : Int32} {st : List Value} {h : AH} (hc : x2.category = 1) : Run M_X9_weightOut 203 [x0, x1, x2, .int a, x4, x5, x6] st h = Run M_X9_weightOut 206 [x0, x1, x2, .int (a + (nI 1)), x4, x5, x6] st h := R_iinc d_X9_weightOut_203 (by decide) rfl (catP_of rfl hc)
theorem d_X9_weightOut_206 : decode (mB M_X9_weightOut) 206 = .ok (.goto (-174), 3) := by decide +kernel
theorem r_X9_weightOut_206 {x0 x1 x2 x3 x4 x5 x6 : Value} {st : List Value} {h : AH} : Run M_X9_weightOut 206 [x0, x1, x2, x3, x4, x5, x6] st h = Run M_X9_weightOut 32 [x0, x1, x2, x3, x4, x5, x6] st h := R_goto d_X9_weightOut_206 (by decide)
theorem d_X9_weightOut_209 : decode (mB M_X9_weightOut) 209 = .ok (.aload_n 0, 1) := by decide +kernel
theorem r_X9_weightOut_209 {x1 x2 x3 x4 x5 x6 : Value} {a : Nat} {st : List Value} {h : AH} : Run M_X9_weightOut 209 [.ref a, x1, x2, x3, x4, x5, x6] st h = Run M_X9_weightOut 210 [.ref a, x1, x2, x3, x4, x5, x6] (.ref a :: st) h := R_aload_n d_X9_weightOut_209 rfl
theorem d_X9_weightOut_210 : decode (mB M_X9_weightOut) 210 = .ok (.getfield 69, 3) := by decide +kernel
theorem r_X9_weightOut_210 {x0 x1 x2 x3 x4 x5 x6 : Value} {a : Nat} {st : List Value} {h : AH} : Run M_X9_weightOut 210 [x0, x1, x2, x3, x4, x5, x6] (.ref a :: st) h = if (gF h a 9 34).isSome = true then Run M_X9_weightOut 213 [x0, x1, x2, x3, x4, x5, x6] ((gF h a 9 34).getD .null :: st) h else none := R_getfield d_X9_weightOut_210 rfl
theorem d_X9_weightOut_213 : decode (mB M_X9_weightOut) 213 = .ok (.iload_n 2, 1) := by decide +kernel
theorem r_X9_weightOut_213 {x0 x1 x3 x4 x5 x6 : Value} {a : Int32} {st : List Value} {h : AH} : Run M_X9_weightOut 213 [x0, x1, .int a, x3, x4, x5, x6] st h = Run M_X9_weightOut 214 [x0, x1, .int a, x3, x4, x5, x6] (.int a :: st) h := R_iload_n d_X9_weightOut_213 rfl
theorem d_X9_weightOut_214 : decode (mB M_X9_weightOut) 214 = .ok (.laload, 1) := by decide +kernel
theorem r_X9_weightOut_214 {x0 x1 x2 x3 x4 x5 x6 : Value} {a : Nat} {i : Int32} {st : List Value} {h : AH} : Run M_X9_weightOut 214 [x0, x1, x2, x3, x4, x5, x6] (.int i :: .ref a :: st) h = if (gJ h a i).isSome = true then Run M_X9_weightOut 215 [x0, x1, x2, x3, x4, x5, x6] (.long ((gJ h a i).getD 0) :: st) h else none := R_laload d_X9_weightOut_214
theorem d_X9_weightOut_215 : decode (mB M_X9_weightOut) 215 = .ok (.lreturn, 1) := by decide +kernel
theorem r_X9_weightOut_215 {x0 x1 x2 x3 x4 x5 x6 : Value} {v : Int64} {h : AH} : Run M_X9_weightOut 215 [x0, x1, x2, x3, x4, x5, x6] [.long v] h = some (h, some (.long v)) := R_lreturn d_X9_weightOut_215 rfl
theorem d_X9_out_0 : decode (mB M_X9_out) 0 = .ok (.iload_n 1, 1) := by decide +kernel
theorem r_X9_out_0 {x0 x2 x3 x4 x5 x6 x7 x8 x9 x10 : Value} {a : Int32} {st : List Value} {h : AH} : Run M_X9_out 0 [x0, .int a, x2, x3, x4, x5, x6, x7, x8, x9, x10] st h = Run M_X9_out 1 [x0, .int a, x2, x3, x4, x5, x6, x7, x8, x9, x10] (.int a :: st) h := R_iload_n d_X9_out_0 rfl
theorem d_X9_out_1 : decode (mB M_X9_out) 1 = .ok (.invokestatic 213, 3) := by decide +kernel
theorem r_X9_out_1 {x0 x1 x2 x3 x4 x5 x6 x7 x8 x9 x10 : Value} {p0 : Int32} {h : AH} : Run M_X9_out 1 [x0, x1, x2, x3, x4, x5, x6, x7, x8, x9, x10] (.int p0 :: []) h = if (Call M_X9_isTenth h [.int p0]).isSome = true then Run M_X9_out 4 [x0, x1, x2, x3, x4, x5, x6, x7, x8, x9, x10] (rL (Call M_X9_isTenth h [.int p0]) ++ []) (cH (Call M_X9_isTenth h [.int p0])) else none := R_stat d_X9_out_1 rfl rfl rfl rfl (Nat.le_of_ble_eq_true rfl)
theorem d_X9_out_4 : decode (mB M_X9_out) 4 = .ok (.ifCond .eq 12, 3) := by decide +kernel
theorem r_X9_out_4 {x0 x1 x2 x3 x4 x5 x6 x7 x8 x9 x10 : Value} {x : Int32} {st : List Value} {h : AH} : Run M_X9_out 4 [x0, x1, x2, x3, x4, x5, x6, x7, x8, x9, x10] (.int x :: st) h = if x = nI 0 then Run M_X9_out 16 [x0, x1, x2, x3, x4, x5, x6, x7, x8, x9, x10] st h else Run M_X9_out 7 [x0, x1, x2, x3, x4, x5, x6, x7, x8, x9, x10] st h := R_if_eq d_X9_out_4 (by decide)
theorem d_X9_out_7 : decode (mB M_X9_out) 7 = .ok (.iload_n 2, 1) := by decide +kernel
theorem r_X9_out_7 {x0 x1 x3 x4 x5 x6 x7 x8 x9 x10 : Value} {a : Int32} {st : List Value} {h : AH} : Run M_X9_out 7 [x0, x1, .int a, x3, x4, x5, x6, x7, x8, x9, x10] st h = Run M_X9_out 8 [x0, x1, .int a, x3, x4, x5, x6, x7, x8, x9, x10] (.int a :: st) h := R_iload_n d_X9_out_7 rfl
theorem d_X9_out_8 : decode (mB M_X9_out) 8 = .ok (.iconst 0, 1) := by decide +kernel
theorem r_X9_out_8 {x0 x1 x2 x3 x4 x5 x6 x7 x8 x9 x10 : Value} {st : List Value} {h : AH} : Run M_X9_out 8 [x0, x1, x2, x3, x4, x5, x6, x7, x8, x9, x10] st h = Run M_X9_out 9 [x0, x1, x2, x3, x4, x5, x6, x7, x8, x9, x10] (.int (nI 0) :: st) h := R_iconst d_X9_out_8 (by decide)
theorem d_X9_out_9 : decode (mB M_X9_out) 9 = .ok (.iconst 2, 1) := by decide +kernel
theorem r_X9_out_9 {x0 x1 x2 x3 x4 x5 x6 x7 x8 x9 x10 : Value} {st : List Value} {h : AH} : Run M_X9_out 9 [x0, x1, x2, x3, x4, x5, x6, x7, x8, x9, x10] st h = Run M_X9_out 10 [x0, x1, x2, x3, x4, x5, x6, x7, x8, x9, x10] (.int (nI 2) :: st) h := R_iconst d_X9_out_9 (by decide)
theorem d_X9_out_10 : decode (mB M_X9_out) 10 = .ok (.invokestatic 85, 3) := by decide +kernel
theorem r_X9_out_10 {x0 x1 x2 x3 x4 x5 x6 x7 x8 x9 x10 : Value} {p0 : Int32} {p1 : Int32} {p2 : Int32} {h : AH} : Run M_X9_out 10 [x0, x1, x2, x3, x4, x5, x6, x7, x8, x9, x10] (.int p2 :: .int p1 :: .int p0 :: []) h = if (Call M_X9_in h [.int p0, .int p1, .int p2]).isSome = true then Run M_X9_out 13 [x0, x1, x2, x3, x4, x5, x6, x7, x8, x9, x10] (rL (Call M_X9_in h [.int p0, .int p1, .int p2]) ++ []) (cH (Call M_X9_in h [.int p0, .int p1, .int p2])) else none := R_stat d_X9_out_10 rfl rfl rfl rfl (Nat.le_of_ble_eq_true rfl)
theorem d_X9_out_13 : decode (mB M_X9_out) 13 = .ok (.ifCond .ne 6, 3) := by decide +kernel
theorem r_X9_out_13 {x0 x1 x2 x3 x4 x5 x6 x7 x8 x9 x10 : Value} {x : Int32} {st : List Value} {h : AH} : Run M_X9_out 13 [x0, x1, x2, x3, x4, x5, x6, x7, x8, x9, x10] (.int x :: st) h = if x = nI 0 then Run M_X9_out 16 [x0, x1, x2, x3, x4, x5, x6, x7, x8, x9, x10] st h else Run M_X9_out 19 [x0, x1, x2, x3, x4, x5, x6, x7, x8, x9, x10] st h := R_if_ne d_X9_out_13 (by decide)
theorem d_X9_out_16 : decode (mB M_X9_out) 16 = .ok (.ldc 92, 2) := by decide +kernel
theorem r_X9_out_16 {x0 x1 x2 x3 x4 x5 x6 x7 x8 x9 x10 : Value} {st : List Value} {h : AH} : Run M_X9_out 16 [x0, x1, x2, x3, x4, x5, x6, x7, x8, x9, x10] st h = Run M_X9_out 18 [x0, x1, x2, x3, x4, x5, x6, x7, x8, x9, x10] (.int (-1000000002) :: st) h := R_ldc d_X9_out_16 (by decide)
theorem d_X9_out_18 : decode (mB M_X9_out) 18 = .ok (.ireturn, 1) := by decide +kernel
theorem r_X9_out_18 {x0 x1 x2 x3 x4 x5 x6 x7 x8 x9 x10 : Value} {v : Int32} {h : AH} : Run M_X9_out 18 [x0, x1, x2, x3, x4, x5, x6, x7, x8, x9, x10] [.int v] h = some (h, some (.int v)) := R_ireturn d_X9_out_18 rfl rfl
theorem d_X9_out_19 : decode (mB M_X9_out) 19 = .ok (.iconst 0, 1) := by decide +kernel
theorem r_X9_out_19 {x0 x1 x2 x3 x4 x5 x6 x7 x8 x9 x10 : Value} {st : List Value} {h : AH} : Run M_X9_out 19 [x0, x1, x2, x3, x4, x5, x6, x7, x8, x9, x10] st h = Run M_X9_out 20 [x0, x1, x2, x3, x4, x5, x6, x7, x8, x9, x10] (.int (nI 0) :: st) h := R_iconst d_X9_out_19 (by decide)
theorem d_X9_out_20 : decode (mB M_X9_out) 20 = .ok (.istore_n 3, 1) := by decide +kernel
theorem r_X9_out_20 {x0 x1 x2 x3 x4 x5 x6 x7 x8 x9 x10 : Value} {a : Int32} {st : List Value} {h : AH} (hc : x2.category = 1) : Run M_X9_out 20 [x0, x1, x2, x3, x4, x5, x6, x7, x8, x9, x10] (.int a :: st) h = Run M_X9_out 21 [x0, x1, x2, .int a, x4, x5, x6, x7, x8, x9, x10] st h := R_istore_n d_X9_out_20 (Nat.lt_of_lt_of_le (by decide : 3 < 11) (Nat.le_refl 11)) (catP_of rfl hc)
theorem d_X9_out_21 : decode (mB M_X9_out) 21 = .ok (.iconst 0, 1) := by decide +kernel
theorem r_X9_out_21 {x0 x1 x2 x3 x4 x5 x6 x7 x8 x9 x10 : Value} {st : List Value} {h : AH} : Run M_X9_out 21 [x0, x1, x2, x3, x4, x5, x6, x7, x8, x9, x10] st h = Run M_X9_out 22 [x0, x1, x2, x3, x4, x5, x6, x7, x8, x9, x10] (.int (nI 0) :: st) h := R_iconst d_X9_out_21 (by decide)
theorem d_X9_out_22 : decode (mB M_X9_out) 22 = .ok (.istore 4, 2) := by decide +kernel
theorem r_X9_out_22 {x0 x1 x2 x3 x4 x5 x6 x7 x8 x9 x10 : Value} {a : Int32} {st : List Value} {h : AH} (hc : x3.category = 1) : Run M_X9_out 22 [x0, x1, x2, x3, x4, x5, x6, x7, x8, x9, x10] (.int a :: st) h = Run M_X9_out 24 [x0, x1, x2, x3, .int a, x5, x6, x7, x8, x9, x10] st h := R_istore d_X9_out_22 (Nat.lt_of_lt_of_le (by decide : 4 < 11) (Nat.le_refl 11)) (catP_of rfl hc)
theorem d_X9_out_24 : decode (mB M_X9_out) 24 = .ok (.iconst (-1), 1) := by decide +kernel
theorem r_X9_out_24 {x0 x1 x2 x3 x4 x5 x6 x7 x8 x9 x10 : Value} {st : List Value} {h : AH} : Run M_X9_out 24 [x0, x1, x2, x3, x4, x5, x6, x7, x8, x9, x10] st h = Run M_X9_out 25 [x0, x1, x2, x3, x4, x5, x6, x7, x8, x9, x10] (.int (-1) :: st) h := R_iconst d_X9_out_24 (by decide)
theorem d_X9_out_25 : decode (mB M_X9_out) 25 = .ok (.istore 5, 2) := by decide +kernel
theorem r_X9_out_25 {x0 x1 x2 x3 x4 x5 x6 x7 x8 x9 x10 : Value} {a : Int32} {st : List Value} {h : AH} (hc : x4.category = 1) : Run M_X9_out 25 [x0, x1, x2, x3, x4, x5, x6, x7, x8, x9, x10] (.int a :: st) h = Run M_X9_out 27 [x0, x1, x2, x3, x4, .int a, x6, x7, x8, x9, x10] st h := R_istore d_X9_out_25 (Nat.lt_of_lt_of_le (by decide : 5 < 11) (Nat.le_refl 11)) (catP_of rfl hc)
theorem d_X9_out_27 : decode (mB M_X9_out) 27 = .ok (.lconst 0, 1) := by decide +kernel
theorem r_X9_out_27 {x0 x1 x2 x3 x4 x5 x6 x7 x8 x9 x10 : Value} {st : List Value} {h : AH} : Run M_X9_out 27 [x0, x1, x2, x3, x4, x5, x6, x7, x8, x9, x10] st h = Run M_X9_out 28 [x0, x1, x2, x3, x4, x5, x6, x7, x8, x9, x10] (.long (lN 0) :: st) h := R_lconst d_X9_out_27 (by decide)
theorem d_X9_out_28 : decode (mB M_X9_out) 28 = .ok (.lstore 6, 2) := by decide +kernel
theorem r_X9_out_28 {x0 x1 x2 x3 x4 x5 x6 x7 x8 x9 x10 : Value} {a : Int64} {st : List Value} {h : AH} (hc : x5.category = 1) : Run M_X9_out 28 [x0, x1, x2, x3, x4, x5, x6, x7, x8, x9, x10] (.long a :: st) h = Run M_X9_out 30 [x0, x1, x2, x3, x4, x5, .long a, .null, x8, x9, x10] st h := R_lstore d_X9_out_28 (Nat.lt_of_lt_of_le (by decide : 7 < 11) (Nat.le_refl 11)) (catP_of rfl hc)
theorem d_X9_out_30 : decode (mB M_X9_out) 30 = .ok (.iconst 0, 1) := by decide +kernel
theorem r_X9_out_30 {x0 x1 x2 x3 x4 x5 x6 x7 x8 x9 x10 : Value} {st : List Value} {h : AH} : Run M_X9_out 30 [x0, x1, x2, x3, x4, x5, x6, x7, x8, x9, x10] st h = Run M_X9_out 31 [x0, x1, x2, x3, x4, x5, x6, x7, x8, x9, x10] (.int (nI 0) :: st) h := R_iconst d_X9_out_30 (by decide)
theorem d_X9_out_31 : decode (mB M_X9_out) 31 = .ok (.istore 8, 2) := by decide +kernel
theorem r_X9_out_31 {x0 x1 x2 x3 x4 x5 x6 x7 x8 x9 x10 : Value} {a : Int32} {st : List Value} {h : AH} (hc : x7.category = 1) : Run M_X9_out 31 [x0, x1, x2, x3, x4, x5, x6, x7, x8, x9, x10] (.int a :: st) h = Run M_X9_out 33 [x0, x1, x2, x3, x4, x5, x6, x7, .int a, x9, x10] st h := R_istore d_X9_out_31 (Nat.lt_of_lt_of_le (by decide : 8 < 11) (Nat.le_refl 11)) (catP_of rfl hc)
theorem d_X9_out_33 : decode (mB M_X9_out) 33 = .ok (.iload 8, 2) := by decide +kernel
theorem r_X9_out_33 {x0 x1 x2 x3 x4 x5 x6 x7 x9 x10 : Value} {a : Int32} {st : List Value} {h : AH} : Run M_X9_out 33 [x0, x1, x2, x3, x4, x5, x6, x7, .int a, x9, x10] st h = Run M_X9_out 35 [x0, x1, x2, x3, x4, x5, x6, x7, .int a, x9, x10] (.int a :: st) h := R_iload d_X9_out_33 rfl
theorem d_X9_out_35 : decode (mB M_X9_out) 35 = .ok (.iconst 1, 1) := by decide +kernel
theorem r_X9_out_35 {x0 x1 x2 x3 x4 x5 x6 x7 x8 x9 x10 : Value} {st : List Value} {h : AH} : Run M_X9_out 35 [x0, x1, x2, x3, x4, x5, x6, x7, x8, x9, x10] st h = Run M_X9_out 36 [x0, x1, x2, x3, x4, x5, x6, x7, x8, x9, x10] (.int (nI 1) :: st) h := R_iconst d_X9_out_35 (by decide)
theorem d_X9_out_36 : decode (mB M_X9_out) 36 = .ok (.aload_n 0, 1) := by decide +kernel
theorem r_X9_out_36 {x1 x2 x3 x4 x5 x6 x7 x8 x9 x10 : Value} {a : Nat} {st : List Value} {h : AH} : Run M_X9_out 36 [.ref a, x1, x2, x3, x4, x5, x6, x7, x8, x9, x10] st h = Run M_X9_out 37 [.ref a, x1, x2, x3, x4, x5, x6, x7, x8, x9, x10] (.ref a :: st) h := R_aload_n d_X9_out_36 rfl
theorem d_X9_out_37 : decode (mB M_X9_out) 37 = .ok (.getfield 82, 3) := by decide +kernel
theorem r_X9_out_37 {x0 x1 x2 x3 x4 x5 x6 x7 x8 x9 x10 : Value} {a : Nat} {st : List Value} {h : AH} : Run M_X9_out 37 [x0, x1, x2, x3, x4, x5, x6, x7, x8, x9, x10] (.ref a :: st) h = if (gF h a 9 3).isSome = true then Run M_X9_out 40 [x0, x1, x2, x3, x4, x5, x6, x7, x8, x9, x10] ((gF h a 9 3).getD .null :: st) h else none := R_getfield d_X9_out_37 rfl
theorem d_X9_out_40 : decode (mB M_X9_out) 40 = .ok (.ishl, 1) := by decide +kernel
theorem r_X9_out_40 {x0 x1 x2 x3 x4 x5 x6 x7 x8 x9 x10 : Value} {x y : Int32} {st : List Value} {h : AH} : Run M_X9_out 40 [x0, x1, x2, x3, x4, x5, x6, x7, x8, x9, x10] (.int y :: .int x :: st) h = Run M_X9_out 41 [x0, x1, x2, x3, x4, x5, x6, x7, x8, x9, x10] (.int (x <<< (y &&& 31)) :: st) h := R_ishl d_X9_out_40
theorem d_X9_out_41 : decode (mB M_X9_out) 41 = .ok (.if_icmp .ge 91, 3) := by decide +kernel
theorem r_X9_out_41 {x0 x1 x2 x3 x4 x5 x6 x7 x8 x9 x10 : Value} {x y : Int32} {st : List Value} {h : AH} : Run M_X9_out 41 [x0, x1, x2, x3, x4, x5, x6, x7, x8, x9, x10] (.int y :: .int x :: st) h = if y ≤ x then Run M_X9_out 132 [x0, x1, x2, x3, x4, x5, x6, x7, x8, x9, x10] st h else Run M_X9_out 44 [x0, x1, x2, x3, x4, x5, x6, x7, x8, x9, x10] st h := R_icmp_ge d_X9_out_41 (by decide)
theorem d_X9_out_44 : decode (mB M_X9_out) 44 = .ok (.aload_n 0, 1) := by decide +kernel
theorem r_X9_out_44 {x1 x2 x3 x4 x5 x6 x7 x8 x9 x10 : Value} {a : Nat} {st : List Value} {h : AH} : Run M_X9_out 44 [.ref a, x1, x2, x3, x4, x5, x6, x7, x8, x9, x10] st h = Run M_X9_out 45 [.ref a, x1, x2, x3, x4, x5, x6, x7, x8, x9, x10] (.ref a :: st) h := R_aload_n d_X9_out_44 rfl
theorem d_X9_out_45 : decode (mB M_X9_out) 45 = .ok (.iload 8, 2) := by decide +kernel
theorem r_X9_out_45 {x0 x1 x2 x3 x4 x5 x6 x7 x9 x10 : Value} {a : Int32} {st : List Value} {h : AH} : Run M_X9_out 45 [x0, x1, x2, x3, x4, x5, x6, x7, .int a, x9, x10] st h = Run M_X9_out 47 [x0, x1, x2, x3, x4, x5, x6, x7, .int a, x9, x10] (.int a :: st) h := R_iload d_X9_out_45 rfl
theorem d_X9_out_47 : decode (mB M_X9_out) 47 = .ok (.invokevirtual 260, 3) := by decide +kernel
theorem r_X9_out_47 {x0 x1 x2 x3 x4 x5 x6 x7 x8 x9 x10 : Value} {p0 : Int32} {a : Nat} {h : AH} : Run M_X9_out 47 [x0, x1, x2, x3, x4, x5, x6, x7, x8, x9, x10] (.int p0 :: .ref a :: []) h = if refO h 9 (some (.ref a)) = true then (if (Call M_X9_mayBeOut h [.ref a, .int p0]).isSome = true then Run M_X9_out 50 [x0, x1, x2, x3, x4, x5, x6, x7, x8, x9, x10] (rL (Call M_X9_mayBeOut h [.ref a, .int p0]) ++ []) (cH (Call M_X9_mayBeOut h [.ref a, .int p0])) else none) else none := R_virt d_X9_out_47 rfl rfl rfl rfl rfl (Nat.le_of_ble_eq_true rfl)
theorem d_X9_out_50 : decode (mB M_X9_out) 50 = .ok (.ifCond .eq 13, 3) := by decide +kernel
theorem r_X9_out_50 {x0 x1 x2 x3 x4 x5 x6 x7 x8 x9 x10 : Value} {x : Int32} {st : List Value} {h : AH} : Run M_X9_out 50 [x0, x1, x2, x3, x4, x5, x6, x7, x8, x9, x10] (.int x :: st) h = if x = nI 0 then Run M_X9_out 63 [x0, x1, x2, x3, x4, x5, x6, x7, x8, x9, x10] st h else Run M_X9_out 53 [x0, x1, x2, x3, x4, x5, x6, x7, x8, x9, x10] st h := R_if_eq d_X9_out_50 (by decide)
theorem d_X9_out_53 : decode (mB M_X9_out) 53 = .ok (.aload_n 0, 1) := by decide +kernel
theorem r_X9_out_53 {x1 x2 x3 x4 x5 x6 x7 x8 x9 x10 : Value} {a : Nat} {st : List Value} {h : AH} : Run M_X9_out 53 [.ref a, x1, x2, x3, x4, x5, x6, x7, x8, x9, x10] st h = Run M_X9_out 54 [.ref a, x1, x2, x3, x4, x5, x6, x7, x8, x9, x10] (.ref a :: st) h := R_aload_n d_X9_out_53 rfl
theorem d_X9_out_54 : decode (mB M_X9_out) 54 = .ok (.iload 8, 2) := by decide +kernel
theorem r_X9_out_54 {x0 x1 x2 x3 x4 x5 x6 x7 x9 x10 : Value} {a : Int32} {st : List Value} {h : AH} : Run M_X9_out 54 [x0, x1, x2, x3, x4, x5, x6, x7, .int a, x9, x10] st h = Run M_X9_out 56 [x0, x1, x2, x3, x4, x5, x6, x7, .int a, x9, x10] (.int a :: st) h := R_iload d_X9_out_54 rfl
theorem d_X9_out_56 : decode (mB M_X9_out) 56 = .ok (.iload_n 1, 1) := by decide +kernel
theorem r_X9_out_56 {x0 x2 x3 x4 x5 x6 x7 x8 x9 x10 : Value} {a : Int32} {st : List Value} {h : AH} : Run M_X9_out 56 [x0, .int a, x2, x3, x4, x5, x6, x7, x8, x9, x10] st h = Run M_X9_out 57 [x0, .int a, x2, x3, x4, x5, x6, x7, x8, x9, x10] (.int a :: st) h := R_iload_n d_X9_out_56 rfl
theorem d_X9_out_57 : decode (mB M_X9_out) 57 = .ok (.invokevirtual 263, 3) := by decide +kernel
theorem r_X9_out_57 {x0 x1 x2 x3 x4 x5 x6 x7 x8 x9 x10 : Value} {p0 : Int32} {p1 : Int32} {a : Nat} {h : AH} : Run M_X9_out 57 [x0, x1, x2, x3, x4, x5, x6, x7, x8, x9, x10] (.int p1 :: .int p0 :: .ref a :: []) h = if refO h 9 (some (.ref a)) = true then (if (Call M_X9_weightOut h [.ref a, .int p0, .int p1]).isSome = true then Run M_X9_out 60 [x0, x1, x2, x3, x4, x5, x6, x7, x8, x9, x10] (rL (Call M_X9_weightOut h [.ref a, .int p0, .int p1]) ++ []) (cH (Call M_X9_weightOut h [.ref a, .int p0, .int p1])) else none) else none := R_virt d_X9_out_57 rfl rfl rfl rfl rfl (Nat.le_of_ble_eq_true rfl)
theorem d_X9_out_60 : decode (mB M_X9_out) 60 = .ok (.goto 4, 3) := by decide +kernel
theorem r_X9_out_60 {x0 x1 x2 x3 x4 x5 x6 x7 x8 x9 x10 : Value} {st : List Value} {h : AH} : Run M_X9_out 60 [x0, x1, x2, x3, x4, x5, x6, x7, x8, x9, x10] st h = Run M_X9_out 64 [x0, x1, x2, x3, x4, x5, x6, x7, x8, x9, x10] st h := R_goto d_X9_out_60 (by decide)
theorem d_X9_out_63 : decode (mB M_X9_out) 63 = .ok (.lconst 0, 1) := by decide +kernel
theorem r_X9_out_63 {x0 x1 x2 x3 x4 x5 x6 x7 x8 x9 x10 : Value} {st : List Value} {h : AH} : Run M_X9_out 63 [x0, x1, x2, x3, x4, x5, x6, x7, x8, x9, x10] st h = Run M_X9_out 64 [x0, x1, x2, x3, x4, x5, x6, x7, x8, x9, x10] (.long (lN 0) :: st) h := R_lconst d_X9_out_63 (by decide)
theorem d_X9_out_64 : decode (mB M_X9_out) 64 = .ok (.lstore 9, 2) := by decide +kernel
theorem r_X9_out_64 {x0 x1 x2 x3 x4 x5 x6 x7 x8 x9 x10 : Value} {a : Int64} {st : List Value} {h : AH} (hc : x8.category = 1) : Run M_X9_out 64 [x0, x1, x2, x3, x4, x5, x6, x7, x8, x9, x10] (.long a :: st) h = Run M_X9_out 66 [x0, x1, x2, x3, x4, x5, x6, x7, x8, .long a, .null] st h := R_lstore d_X9_out_64 (Nat.lt_of_lt_of_le (by decide : 10 < 11) (Nat.le_refl 11)) (catP_of rfl hc)
theorem d_X9_out_66 : decode (mB M_X9_out) 66 = .ok (.lload 9, 2) := by decide +kernel
theorem r_X9_out_66 {x0 x1 x2 x3 x4 x5 x6 x7 x8 x10 : Value} {a : Int64} {st : List Value} {h : AH} : Run M_X9_out 66 [x0, x1, x2, x3, x4, x5, x6, x7, x8, .long a, x10] st h = Run M_X9_out 68 [x0, x1, x2, x3, x4, x5, x6, x7, x8, .long a, x10] (.long a :: st) h := R_lload d_X9_out_66 rfl
theorem d_X9_out_68 : decode (mB M_X9_out) 68 = .ok (.lconst 0, 1) := by decide +kernel
theorem r_X9_out_68 {x0 x1 x2 x3 x4 x5 x6 x7 x8 x9 x10 : Value} {st : List Value} {h : AH} : Run M_X9_out 68 [x0, x1, x2, x3, x4, x5, x6, x7, x8, x9, x10] st h = Run M_X9_out 69 [x0, x1, x2, x3, x4, x5, x6, x7, x8, x9, x10] (.long (lN 0) :: st) h := R_lconst d_X9_out_68 (by decide)
theorem d_X9_out_69 : decode (mB M_X9_out) 69 = .ok (.lcmp, 1) := by decide +kernel
theorem r_X9_out_69 {x0 x1 x2 x3 x4 x5 x6 x7 x8 x9 x10 : Value} {x y : Int64} {st : List Value} {h : AH} : Run M_X9_out 69 [x0, x1, x2, x3, x4, x5, x6, x7, x8, x9, x10] (.long y :: .long x :: st) h = Run M_X9_out 70 [x0, x1, x2, x3, x4, x5, x6, x7, x8, x9, x10] (.int (lg_cmp x y) :: st) h := R_lcmp d_X9_out_69
theorem d_X9_out_70 : decode (mB M_X9_out) 70 = .ok (.ifCond .le 56, 3) := by decide +kernel
theorem r_X9_out_70 {x0 x1 x2 x3 x4 x5 x6 x7 x8 x9 x10 : Value} {x : Int32} {st : List Value} {h : AH} : Run M_X9_out 70 [x0, x1, x2, x3, x4, x5, x6, x7, x8, x9, x10] (.int x :: st) h = if x ≤ nI 0 then Run M_X9_out 126 [x0, x1, x2, x3, x4, x5, x6, x7, x8, x9, x10] st h else Run M_X9_out 73 [x0, x1, x2, x3, x4, x5, x6, x7, x8, x9, x10] st h := R_if_le d_X9_out_70 (by decide)
theorem d_X9_out_73 : decode (mB M_X9_out) 73 = .ok (.iload_n 3, 1) := by decide +kernel
theorem r_X9_out_73 {x0 x1 x2 x4 x5 x6 x7 x8 x9 x10 : Value} {a : Int32} {st : List Value} {h : AH} : Run M_X9_out 73 [x0, x1, x2, .int a, x4, x5, x6, x7, x8, x9, x10] st h = Run M_X9_out 74 [x0, x1, x2, .int a, x4, x5, x6, x7, x8, x9, x10] (.int a :: st) h := R_iload_n d_X9_out_73 rfl
theorem d_X9_out_74 : decode (mB M_X9_out) 74 = .ok (.ifCond .ne 8, 3) := by decide +kernel
theorem r_X9_out_74 {x0 x1 x2 x3 x4 x5 x6 x7 x8 x9 x10 : Value} {x : Int32} {st : List Value} {h : AH} : Run M_X9_out 74 [x0, x1, x2, x3, x4, x5, x6, x7, x8, x9, x10] (.int x :: st) h = if x = nI 0 then Run M_X9_out 77 [x0, x1, x2, x3, x4, x5, x6, x7, x8, x9, x10] st h else Run M_X9_out 82 [x0, x1, x2, x3, x4, x5, x6, x7, x8, x9, x10] st h := R_if_ne d_X9_out_74 (by decide)
theorem d_X9_out_77 : decode (mB M_X9_out) 77 = .ok (.iload 8, 2) := by decide +kernel
theorem r_X9_out_77 {x0 x1 x2 x3 x4 x5 x6 x7 x9 x10 : Value} {a : Int32} {st : List Value} {h : AH} : Run M_X9_out 77 [x0, x1, x2, x3, x4, x5, x6, x7, .int a, x9, x10] st h = Run M_X9_out 79 [x0, x1, x2, x3, x4, x5, x6, x7, .int a, x9, x10] (.int a :: st) h := R_iload d_X9_out_77 rfl
theorem d_X9_out_79 : decode (mB M_X9_out) 79 = .ok (.goto 8, 3) := by decide +kernel
theorem r_X9_out_79 {x0 x1 x2 x3 x4 x5 x6 x7 x8 x9 x10 : Value} {st : List Value} {h : AH} : Run M_X9_out 79 [x0, x1, x2, x3, x4, x5, x6, x7, x8, x9, x10] st h = Run M_X9_out 87 [x0, x1, x2, x3, x4, x5, x6, x7, x8, x9, x10] st h := R_goto d_X9_out_79 (by decide)
theorem d_X9_out_82 : decode (mB M_X9_out) 82 = .ok (.iload 4, 2) := by decide +kernel
theorem r_X9_out_82 {x0 x1 x2 x3 x5 x6 x7 x8 x9 x10 : Value} {a : Int32} {st : List Value} {h : AH} : Run M_X9_out 82 [x0, x1, x2, x3, .int a, x5, x6, x7, x8, x9, x10] st h = Run M_X9_out 84 [x0, x1, x2, x3, .int a, x5, x6, x7, x8, x9, x10] (.int a :: st) h := R_iload d_X9_out_82 rfl
theorem d_X9_out_84 : decode (mB M_X9_out) 84 = .ok (.iload 8, 2) := by decide +kernel
theorem r_X9_out_84 {x0 x1 x2 x3 x4 x5 x6 x7 x9 x10 : Value} {a : Int32} {st : List Value} {h : AH} : Run M_X9_out 84 [x0, x1, x2, x3, x4, x5, x6, x7, .int a, x9, x10] st h = Run M_X9_out 86 [x0, x1, x2, x3, x4, x5, x6, x7, .int a, x9, x10] (.int a :: st) h := R_iload d_X9_out_84 rfl
theorem d_X9_out_86 : decode (mB M_X9_out) 86 = .ok (.iand, 1) := by decide +kernel
theorem r_X9_out_86 {x0 x1 x2 x3 x4 x5 x6 x7 x8 x9 x10 : Value} {x y : Int32} {st : List Value} {h : AH} : Run M_X9_out 86 [x0, x1, x2, x3, x4, x5, x6, x7, x8, x9, x10] (.int y :: .int x :: st) h = Run M_X9_out 87 [x0, x1, x2, x3, x4, x5, x6, x7, x8, x9, x10] (.int (x &&& y) :: st) h := R_iand d_X9_out_86
theorem d_X9_out_87 : decode (mB M_X9_out) 87 = .ok (.istore 4, 2) := by decide +kernel
theorem r_X9_out_87 {x0 x1 x2 x3 x4 x5 x6 x7 x8 x9 x10 : Value} {a : Int32} {st : List Value} {h : AH} (hc : x3.category = 1) : Run M_X9_out 87 [x0, x1, x2, x3, x4, x5, x6, x7, x8, x9, x10] (.int a :: st) h = Run M_X9_out 89 [x0, x1, x2, x3, .int a, x5, x6, x7, x8, x9, x10] st h := R_istore d_X9_out_87 (Nat.lt_of_lt_of_le (by decide : 4 < 11) (Nat.le_refl 11)) (catP_of rfl hc)
theorem d_X9_out_89 : decode (mB M_X9_out) 89 = .ok (.iinc 3 1, 3) := by decide +kernel
theorem r_X9_out_89 {x0 x1 x2 x4 x5 x6 x7 x8 x9 x10 : Value} {a : Int32} {st : List Value} {h : AH} (hc : x2.category = 1) : Run M_X9_out 89 [x0, x1, x2, .int a, x4, x5, x6, x7, x8, x9, x10] st h = Run M_X9_out 92 [x0, x1, x2, .int (a + (nI 1)), x4, x5, x6, x7, x8, x9, x10] st h := R_iinc d_X9_out_89 (by decide) rfl (catP_of rfl hc)
theorem d_X9_out_92 : decode (mB M_X9_out) 92 = .ok (.lload 9, 2) := by decide +kernel
theorem r_X9_out_92 {x0 x1 x2 x3 x4 x5 x6 x7 x8 x10 : Value} {a : Int64} {st : List Value} {h : AH} : Run M_X9_out 92 [x0, x1, x2, x3, x4, x5, x6, x7, x8, .long a, x10] st h = Run M_X9_out 94 [x0, x1, x2, x3, x4, x5, x6, x7, x8, .long a, x10] (.long a :: st) h := R_lload d_X9_out_92 rfl
theorem d_X9_out_94 : decode (mB M_X9_out) 94 = .ok (.lload 6, 2) := by decide +kernel
theorem r_X9_out_94 {x0 x1 x2 x3 x4 x5 x7 x8 x9 x10 : Value} {a : Int64} {st : List Value} {h : AH} : Run M_X9_out 94 [x0, x1, x2, x3, x4, x5, .long a, x7, x8, x9, x10] st h = Run M_X9_out 96 [x0, x1, x2, x3, x4, x5, .long a, x7, x8, x9, x10] (.long a :: st) h := R_lload d_X9_out_94 rfl
theorem d_X9_out_96 : decode (mB M_X9_out) 96 = .ok (.lcmp, 1) := by decide +kernel
theorem r_X9_out_96 {x0 x1 x2 x3 x4 x5 x6 x7 x8 x9 x10 : Value} {x y : Int64} {st : List Value} {h : AH} : Run M_X9_out 96 [x0, x1, x2, x3, x4, x5, x6, x7, x8, x9, x10] (.long y :: .long x :: st) h = Run M_X9_out 97 [x0, x1, x2, x3, x4, x5, x6, x7, x8, x9, x10] (.int (lg_cmp x y) :: st) h := R_lcmp d_X9_out_96
theorem d_X9_out_97 : decode (mB M_X9_out) 97 = .ok (.ifCond .le 8, 3) := by decide +kernel
theorem r_X9_out_97 {x0 x1 x2 x3 x4 x5 x6 x7 x8 x9 x10 : Value} {x : Int32} {st : List Value} {h : AH} : Run M_X9_out 97 [x0, x1, x2, x3, x4, x5, x6, x7, x8, x9, x10] (.int x :: st) h = if x ≤ nI 0 then Run M_X9_out 105 [x0, x1, x2, x3, x4, x5, x6, x7, x8, x9, x10] st h else Run M_X9_out 100 [x0, x1, x2, x3, x4, x5, x6, x7, x8, x9, x10] st h := R_if_le d_X9_out_97 (by decide)
theorem d_X9_out_100 : decode (mB M_X9_out) 100 = .ok (.iload 8, 2) := by decide +kernel
theorem r_X9_out_100 {x0 x1 x2 x3 x4 x5 x6 x7 x9 x10 : Value} {a : Int32} {st : List Value} {h : AH} : Run M_X9_out 100 [x0, x1, x2, x3, x4, x5, x6, x7, .int a, x9, x10] st h = Run M_X9_out 102 [x0, x1, x2, x3, x4, x5, x6, x7, .int a, x9, x10] (.int a :: st) h := R_iload d_X9_out_100 rfl
theorem d_X9_out_102 : decode (mB M_X9_out) 102 = .ok (.goto 5, 3) := by decide +kernel
theorem r_X9_out_102 {x0 x1 x2 x3 x4 x5 x6 x7 x8 x9 x10 : Value} {st : List Value} {h : AH} : Run M_X9_out 102 [x0, x1, x2, x3, x4, x5, x6, x7, x8, x9, x10] st h = Run M_X9_out 107 [x0, x1, x2, x3, x4, x5, x6, x7, x8, x9, x10] st h := R_goto d_X9_out_102 (by decide)
theorem d_X9_out_105 : decode (mB M_X9_out) 105 = .ok (.iload 5, 2) := by decide +kernel
theorem r_X9_out_105 {x0 x1 x2 x3 x4 x6 x7 x8 x9 x10 : Value} {a : Int32} {st : List Value} {h : AH} : Run M_X9_out 105 [x0, x1, x2, x3, x4, .int a, x6, x7, x8, x9, x10] st h = Run M_X9_out 107 [x0, x1, x2, x3, x4, .int a, x6, x7, x8, x9, x10] (.int a :: st) h := R_iload d_X9_out_105 rfl
theorem d_X9_out_107 : decode (mB M_X9_out) 107 = .ok (.istore 5, 2) := by decide +kernel
theorem r_X9_out_107 {x0 x1 x2 x3 x4 x5 x6 x7 x8 x9 x10 : Value} {a : Int32} {st : List Value} {h : AH} (hc : x4.category = 1) : Run M_X9_out 107 [x0, x1, x2, x3, x4, x5, x6, x7, x8, x9, x10] (.int a :: st) h = Run M_X9_out 109 [x0, x1, x2, x3, x4, .int a, x6, x7, x8, x9, x10] st h := R_istore d_X9_out_107 (Nat.lt_of_lt_of_le (by decide : 5 < 11) (Nat.le_refl 11)) (catP_of rfl hc)
theorem d_X9_out_109 : decode (mB M_X9_out) 109 = .ok (.lload 9, 2) := by decide +kernel
theorem r_X9_out_109 {x0 x1 x2 x3 x4 x5 x6 x7 x8 x10 : Value} {a : Int64} {st : List Value} {h : AH} : Run M_X9_out 109 [x0, x1, x2, x3, x4, x5, x6, x7, x8, .long a, x10] st h = Run M_X9_out 111 [x0, x1, x2, x3, x4, x5, x6, x7, x8, .long a, x10] (.long a :: st) h := R_lload d_X9_out_109 rfl
theorem d_X9_out_111 : decode (mB M_X9_out) 111 = .ok (.lload 6, 2) := by decide +kernel
theorem r_X9_out_111 {x0 x1 x2 x3 x4 x5 x7 x8 x9 x10 : Value} {a : Int64} {st : List Value} {h : AH} : Run M_X9_out 111 [x0, x1, x2, x3, x4, x5, .long a, x7, x8, x9, x10] st h = Run M_X9_out 113 [x0, x1, x2, x3, x4, x5, .long a, x7, x8, x9, x10] (.long a :: st) h := R_lload d_X9_out_111 rfl
theorem d_X9_out_113 : decode (mB M_X9_out) 113 = .ok (.lcmp, 1) := by decide +kernel
theorem r_X9_out_113 {x0 x1 x2 x3 x4 x5 x6 x7 x8 x9 x10 : Value} {x y : Int64} {st : List Value} {h : AH} : Run M_X9_out 113 [x0, x1, x2, x3, x4, x5, x6, x7, x8, x9, x10] (.long y :: .long x :: st) h = Run M_X9_out 114 [x0, x1, x2, x3, x4, x5, x6, x7, x8, x9, x10] (.int (lg_cmp x y) :: st) h := R_lcmp d_X9_out_113
theorem d_X9_out_114 : decode (mB M_X9_out) 114 = .ok (.ifCond .le 8, 3) := by decide +kernel
theorem r_X9_out_114 {x0 x1 x2 x3 x4 x5 x6 x7 x8 x9 x10 : Value} {x : Int32} {st : List Value} {h : AH} : Run M_X9_out 114 [x0, x1, x2, x3, x4, x5, x6, x7, x8, x9, x10] (.int x :: st) h = if x ≤ nI 0 then Run M_X9_out 122 [x0, x1, x2, x3, x4, x5, x6, x7, x8, x9, x10] st h else Run M_X9_out 117 [x0, x1, x2, x3, x4, x5, x6, x7, x8, x9, x10] st h := R_if_le d_X9_out_114 (by decide)
theorem d_X9_out_117 : decode (mB M_X9_out) 117 = .ok (.lload 9, 2) := by decide +kernel
theorem r_X9_out_117 {x0 x1 x2 x3 x4 x5 x6 x7 x8 x10 : Value} {a : Int64} {st : List Value} {h : AH} : Run M_X9_out 117 [x0, x1, x2, x3, x4, x5, x6, x7, x8, .long a, x10] st h = Run M_X9_out 119 [x0, x1, x2, x3, x4, x5, x6, x7, x8, .long a, x10] (.long a :: st) h := R_lload d_X9_out_117 rfl
theorem d_X9_out_119 : decode (mB M_X9_out) 119 = .ok (.goto 5, 3) := by decide +kernel
theorem r_X9_out_119 {x0 x1 x2 x3 x4 x5 x6 x7 x8 x9 x10 : Value} {st : List Value} {h : AH} : Run M_X9_out 119 [x0, x1, x2, x3, x4, x5, x6, x7, x8, x9, x10] st h = Run M_X9_out 124 [x0, x1, x2, x3, x4, x5, x6, x7, x8, x9, x10] st h := R_goto d_X9_out_119 (by decide)
theorem d_X9_out_122 : decode (mB M_X9_out) 122 = .ok (.lload 6, 2) := by decide +kernel
theorem r_X9_out_122 {x0 x1 x2 x3 x4 x5 x7 x8 x9 x10 : Value} {a : Int64} {st : List Value} {h : AH} : Run M_X9_out 122 [x0, x1, x2, x3, x4, x5, .long a, x7, x8, x9, x10] st h = Run M_X9_out 124 [x0, x1, x2, x3, x4, x5, .long a, x7, x8, x9, x10] (.long a :: st) h := R_lload d_X9_out_122 rfl
theorem d_X9_out_124 : decode (mB M_X9_out) 124 = .ok (.lstore 6, 2) := by decide +kernel
theorem r_X9_out_124 {x0 x1 x2 x3 x4 x5 x6 x7 x8 x9 x10 : Value} {a : Int64} {st : List Value} {h : AH} (hc : x5.category = 1) : Run M_X9_out 124 [x0, x1, x2, x3, x4, x5, x6, x7, x8, x9, x10] (.long a :: st) h = Run M_X9_out 126 [x0, x1, x2, x3, x4, x5, .long a, .null, x8, x9, x10] st h := R_lstore d_X9_out_124 (Nat.lt_of_lt_of_le (by decide : 7 < 11) (Nat.le_refl 11)) (catP_of rfl hc)
theorem d_X9_out_126 : decode (mB M_X9_out) 126 = .ok (.iinc 8 1, 3) := by decide +kernel
theorem r_X9_out_126 {x0 x1 x2 x3 x4 x5 x6 x7 x9 x10 : Value} {a : Int32} {st : List Value} {h : AH} (hc : x7.category = 1) : Run M_X9_out 126 [x0, x1, x2, x3, x4, x5, x6, x7, .int a, x9, x10] st h = Run M_X9_out 129 [x0, x1, x2, x3, x4, x5, x6, x7, .int (a + (nI 1)), x9, x10] st h := R_iinc d_X9_out_126 (by decide) rfl (catP_of rfl hc)
theorem d_X9_out_129 : decode (mB M_X9_out) 129 = .ok (.goto (-96), 3) := by decide +kernel
theorem r_X9_out_129 {x0 x1 x2 x3 x4 x5 x6 x7 x8 x9 x10 : Value} {st : List Value} {h : AH} : Run M_X9_out 129 [x0, x1, x2, x3, x4, x5, x6, x7, x8, x9, x10] st h = Run M_X9_out 33 [x0, x1, x2, x3, x4, x5, x6, x7, x8, x9, x10] st h := R_goto d_X9_out_129 (by decide)
theorem d_X9_out_132 : decode (mB M_X9_out) 132 = .ok (.iload_n 2, 1) := by decide +kernel
theorem r_X9_out_132 {x0 x1 x3 x4 x5 x6 x7 x8 x9 x10 : Value} {a : Int32} {st : List Value} {h : AH} : Run M_X9_out 132 [x0, x1, .int a, x3, x4, x5, x6, x7, x8, x9, x10] st h = Run M_X9_out 133 [x0, x1, .int a, x3, x4, x5, x6, x7, x8, x9, x10] (.int a :: st) h := R_iload_n d_X9_out_132 rfl
theorem d_X9_out_133 : decode (mB M_X9_out) 133 = .ok (.ifCond .ne 7, 3) := by decide +kernel
theorem r_X9_out_133 {x0 x1 x2 x3 x4 x5 x6 x7 x8 x9 x10 : Value} {x : Int32} {st : List Value} {h : AH} : Run M_X9_out 133 [x0, x1, x2, x3, x4, x5, x6, x7, x8, x9, x10] (.int x :: st) h = if x = nI 0 then Run M_X9_out 136 [x0, x1, x2, x3, x4, x5, x6, x7, x8, x9, x10] st h else Run M_X9_out 140 [x0, x1, x2, x3, x4, x5, x6, x7, x8, x9, x10] st h := R_if_ne d_X9_out_133 (by decide)
theorem d_X9_out_136 : decode (mB M_X9_out) 136 = .ok (.iload_n 3, 1) := by decide +kernel
theorem r_X9_out_136 {x0 x1 x2 x4 x5 x6 x7 x8 x9 x10 : Value} {a : Int32} {st : List Value} {h : AH} : Run M_X9_out 136 [x0, x1, x2, .int a, x4, x5, x6, x7, x8, x9, x10] st h = Run M_X9_out 137 [x0, x1, x2, .int a, x4, x5, x6, x7, x8, x9, x10] (.int a :: st) h := R_iload_n d_X9_out_136 rfl
theorem d_X9_out_137 : decode (mB M_X9_out) 137 = .ok (.goto 15, 3) := by decide +kernel
theorem r_X9_out_137 {x0 x1 x2 x3 x4 x5 x6 x7 x8 x9 x10 : Value} {st : List Value} {h : AH} : Run M_X9_out 137 [x0, x1, x2, x3, x4, x5, x6, x7, x8, x9, x10] st h = Run M_X9_out 152 [x0, x1, x2, x3, x4, x5, x6, x7, x8, x9, x10] st h := R_goto d_X9_out_137 (by decide)
theorem d_X9_out_140 : decode (mB M_X9_out) 140 = .ok (.iload_n 2, 1) := by decide +kernel
theorem r_X9_out_140 {x0 x1 x3 x4 x5 x6 x7 x8 x9 x10 : Value} {a : Int32} {st : List Value} {h : AH} : Run M_X9_out 140 [x0, x1, .int a, x3, x4, x5, x6, x7, x8, x9, x10] st h = Run M_X9_out 141 [x0, x1, .int a, x3, x4, x5, x6, x7, x8, x9, x10] (.int a :: st) h := R_iload_n d_X9_out_140 rfl
theorem d_X9_out_141 : decode (mB M_X9_out) 141 = .ok (.iconst 1, 1) := by decide +kernel
theorem r_X9_out_141 {x0 x1 x2 x3 x4 x5 x6 x7 x8 x9 x10 : Value} {st : List Value} {h : AH} : Run M_X9_out 141 [x0, x1, x2, x3, x4, x5, x6, x7, x8, x9, x10] st h = Run M_X9_out 142 [x0, x1, x2, x3, x4, x5, x6, x7, x8, x9, x10] (.int (nI 1) :: st) h := R_iconst d_X9_out_141 (by decide)
theorem d_X9_out_142 : decode (mB M_X9_out) 142 = .ok (.if_icmp .ne 8, 3) := by decide +kernel
theorem r_X9_out_142 {x0 x1 x2 x3 x4 x5 x6 x7 x8 x9 x10 : Value} {x y : Int32} {st : List Value} {h : AH} : Run M_X9_out 142 [x0, x1, x2, x3, x4, x5, x6, x7, x8, x9, x10] (.int y :: .int x :: st) h = if x = y then Run M_X9_out 145 [x0, x1, x2, x3, x4, x5, x6, x7, x8, x9, x10] st h else Run M_X9_out 150 [x0, x1, x2, x3, x4, x5, x6, x7, x8, x9, x10] st h := R_icmp_ne d_X9_out_142 (by decide)
theorem d_X9_out_145 : decode (mB M_X9_out) 145 = .ok (.iload 4, 2) := by decide +kernel
theorem r_X9_out_145 {x0 x1 x2 x3 x5 x6 x7 x8 x9 x10 : Value} {a : Int32} {st : List Value} {h : AH} : Run M_X9_out 145 [x0, x1, x2, x3, .int a, x5, x6, x7, x8, x9, x10] st h = Run M_X9_out 147 [x0, x1, x2, x3, .int a, x5, x6, x7, x8, x9, x10] (.int a :: st) h := R_iload d_X9_out_145 rfl
theorem d_X9_out_147 : decode (mB M_X9_out) 147 = .ok (.goto 5, 3) := by decide +kernel
theorem r_X9_out_147 {x0 x1 x2 x3 x4 x5 x6 x7 x8 x9 x10 : Value} {st : List Value} {h : AH} : Run M_X9_out 147 [x0, x1, x2, x3, x4, x5, x6, x7, x8, x9, x10] st h = Run M_X9_out 152 [x0, x1, x2, x3, x4, x5, x6, x7, x8, x9, x10] st h := R_goto d_X9_out_147 (by decide)
theorem d_X9_out_150 : decode (mB M_X9_out) 150 = .ok (.iload 5, 2) := by decide +kernel
theorem r_X9_out_150 {x0 x1 x2 x3 x4 x6 x7 x8 x9 x10 : Value} {a : Int32} {st : List Value} {h : AH} : Run M_X9_out 150 [x0, x1, x2, x3, x4, .int a, x6, x7, x8, x9, x10] st h = Run M_X9_out 152 [x0, x1, x2, x3, x4, .int a, x6, x7, x8, x9, x10] (.int a :: st) h := R_iload d_X9_out_150 rfl
theorem d_X9_out_152 : decode (mB M_X9_out) 152 = .ok (.ireturn, 1) := by decide +kernel
theorem r_X9_out_152 {x0 x1 x2 x3 x4 x5 x6 x7 x8 x9 x10 : Value} {v : Int32} {h : AH} : Run M_X9_out 152 [x0, x1, x2, x3, x4, x5, x6, x7, x8, x9, x10] [.int v] h = some (h, some (.int v)) := R_ireturn d_X9_out_152 rfl rfl
theorem d_X9_enter_0 : decode (mB M_X9_enter) 0 = .ok (.aload_n 0, 1) := by decide +kernel
theorem r_X9_enter_0 {x1 x2 : Value} {a : Nat} {st : List Value} {h : AH} : Run M_X9_enter 0 [.ref a, x1, x2] st h = Run M_X9_enter 1 [.ref a, x1, x2] (.ref a :: st) h := R_aload_n d_X9_enter_0 rfl
theorem d_X9_enter_1 : decode (mB M_X9_enter) 1 = .ok (.iload_n 1, 1) := by decide +kernel
theorem r_X9_enter_1 {x0 x2 : Value} {a : Int32} {st : List Value} {h : AH} : Run M_X9_enter 1 [x0, .int a, x2] st h = Run M_X9_enter 2 [x0, .int a, x2] (.int a :: st) h := R_iload_n d_X9_enter_1 rfl
theorem d_X9_enter_2 : decode (mB M_X9_enter) 2 = .ok (.invokevirtual 196, 3) := by decide +kernel
theorem r_X9_enter_2 {x0 x1 x2 : Value} {p0 : Int32} {a : Nat} {h : AH} : Run M_X9_enter 2 [x0, x1, x2] (.int p0 :: .ref a :: []) h = if refO h 9 (some (.ref a)) = true then (if (Call M_X9_isPlayer h [.ref a, .int p0]).isSome = true then Run M_X9_enter 5 [x0, x1, x2] (rL (Call M_X9_isPlayer h [.ref a, .int p0]) ++ []) (cH (Call M_X9_isPlayer h [.ref a, .int p0])) else none) else none := R_virt d_X9_enter_2 rfl rfl rfl rfl rfl (Nat.le_of_ble_eq_true rfl)
theorem d_X9_enter_5 : decode (mB M_X9_enter) 5 = .ok (.ifCond .ne 6, 3) := by decide +kernel
theorem r_X9_enter_5 {x0 x1 x2 : Value} {x : Int32} {st : List Value} {h : AH} : Run M_X9_enter 5 [x0, x1, x2] (.int x :: st) h = if x = nI 0 then Run M_X9_enter 8 [x0, x1, x2] st h else Run M_X9_enter 11 [x0, x1, x2] st h := R_if_ne d_X9_enter_5 (by decide)
theorem d_X9_enter_8 : decode (mB M_X9_enter) 8 = .ok (.ldc 195, 2) := by decide +kernel
theorem r_X9_enter_8 {x0 x1 x2 : Value} {st : List Value} {h : AH} : Run M_X9_enter 8 [x0, x1, x2] st h = Run M_X9_enter 10 [x0, x1, x2] (.int (-1000000001) :: st) h := R_ldc d_X9_enter_8 (by decide)
theorem d_X9_enter_10 : decode (mB M_X9_enter) 10 = .ok (.ireturn, 1) := by decide +kernel
theorem r_X9_enter_10 {x0 x1 x2 : Value} {v : Int32} {h : AH} : Run M_X9_enter 10 [x0, x1, x2] [.int v] h = some (h, some (.int v)) := R_ireturn d_X9_enter_10 rfl rfl
theorem d_X9_enter_11 : decode (mB M_X9_enter) 11 = .ok (.iload_n 2, 1) := by decide +kernel
theorem r_X9_enter_11 {x0 x1 : Value} {a : Int32} {st : List Value} {h : AH} : Run M_X9_enter 11 [x0, x1, .int a] st h = Run M_X9_enter 12 [x0, x1, .int a] (.int a :: st) h := R_iload_n d_X9_enter_11 rfl
theorem d_X9_enter_12 : decode (mB M_X9_enter) 12 = .ok (.iconst 0, 1) := by decide +kernel
theorem r_X9_enter_12 {x0 x1 x2 : Value} {st : List Value} {h : AH} : Run M_X9_enter 12 [x0, x1, x2] st h = Run M_X9_enter 13 [x0, x1, x2] (.int (nI 0) :: st) h := R_iconst d_X9_enter_12 (by decide)
theorem d_X9_enter_13 : decode (mB M_X9_enter) 13 = .ok (.sipush 999, 3) := by decide +kernel
theorem r_X9_enter_13 {x0 x1 x2 : Value} {st : List Value} {h : AH} : Run M_X9_enter 13 [x0, x1, x2] st h = Run M_X9_enter 16 [x0, x1, x2] (.int (nI 999) :: st) h := R_sipush d_X9_enter_13 (by decide)
theorem d_X9_enter_16 : decode (mB M_X9_enter) 16 = .ok (.invokestatic 85, 3) := by decide +kernel
theorem r_X9_enter_16 {x0 x1 x2 : Value} {p0 : Int32} {p1 : Int32} {p2 : Int32} {h : AH} : Run M_X9_enter 16 [x0, x1, x2] (.int p2 :: .int p1 :: .int p0 :: []) h = if (Call M_X9_in h [.int p0, .int p1, .int p2]).isSome = true then Run M_X9_enter 19 [x0, x1, x2] (rL (Call M_X9_in h [.int p0, .int p1, .int p2]) ++ []) (cH (Call M_X9_in h [.int p0, .int p1, .int p2])) else none := R_stat d_X9_enter_16 rfl rfl rfl rfl (Nat.le_of_ble_eq_true rfl)
theorem d_X9_enter_19 : decode (mB M_X9_enter) 19 = .ok (.ifCond .ne 6, 3) := by decide +kernel
theorem r_X9_enter_19 {x0 x1 x2 : Value} {x : Int32} {st : List Value} {h : AH} : Run M_X9_enter 19 [x0, x1, x2] (.int x :: st) h = if x = nI 0 then Run M_X9_enter 22 [x0, x1, x2] st h else Run M_X9_enter 25 [x0, x1, x2] st h := R_if_ne d_X9_enter_19 (by decide)
theorem d_X9_enter_22 : decode (mB M_X9_enter) 22 = .ok (.ldc 92, 2) := by decide +kernel
theorem r_X9_enter_22 {x0 x1 x2 : Value} {st : List Value} {h : AH} : Run M_X9_enter 22 [x0, x1, x2] st h = Run M_X9_enter 24 [x0, x1, x2] (.int (-1000000002) :: st) h := R_ldc d_X9_enter_22 (by decide)
theorem d_X9_enter_24 : decode (mB M_X9_enter) 24 = .ok (.ireturn, 1) := by decide +kernel
theorem r_X9_enter_24 {x0 x1 x2 : Value} {v : Int32} {h : AH} : Run M_X9_enter 24 [x0, x1, x2] [.int v] h = some (h, some (.int v)) := R_ireturn d_X9_enter_24 rfl rfl
theorem d_X9_enter_25 : decode (mB M_X9_enter) 25 = .ok (.aload_n 0, 1) := by decide +kernel
theorem r_X9_enter_25 {x1 x2 : Value} {a : Nat} {st : List Value} {h : AH} : Run M_X9_enter 25 [.ref a, x1, x2] st h = Run M_X9_enter 26 [.ref a, x1, x2] (.ref a :: st) h := R_aload_n d_X9_enter_25 rfl
theorem d_X9_enter_26 : decode (mB M_X9_enter) 26 = .ok (.getfield 185, 3) := by decide +kernel
theorem r_X9_enter_26 {x0 x1 x2 : Value} {a : Nat} {st : List Value} {h : AH} : Run M_X9_enter 26 [x0, x1, x2] (.ref a :: st) h = if (gF h a 9 36).isSome = true then Run M_X9_enter 29 [x0, x1, x2] ((gF h a 9 36).getD .null :: st) h else none := R_getfield d_X9_enter_26 rfl
theorem d_X9_enter_29 : decode (mB M_X9_enter) 29 = .ok (.bipush 12, 2) := by decide +kernel
theorem r_X9_enter_29 {x0 x1 x2 : Value} {st : List Value} {h : AH} : Run M_X9_enter 29 [x0, x1, x2] st h = Run M_X9_enter 31 [x0, x1, x2] (.int (nI 12) :: st) h := R_bipush d_X9_enter_29 (by decide)
theorem d_X9_enter_31 : decode (mB M_X9_enter) 31 = .ok (.if_icmp .ne 6, 3) := by decide +kernel
theorem r_X9_enter_31 {x0 x1 x2 : Value} {x y : Int32} {st : List Value} {h : AH} : Run M_X9_enter 31 [x0, x1, x2] (.int y :: .int x :: st) h = if x = y then Run M_X9_enter 34 [x0, x1, x2] st h else Run M_X9_enter 37 [x0, x1, x2] st h := R_icmp_ne d_X9_enter_31 (by decide)
theorem d_X9_enter_34 : decode (mB M_X9_enter) 34 = .ok (.ldc 96, 2) := by decide +kernel
theorem r_X9_enter_34 {x0 x1 x2 : Value} {st : List Value} {h : AH} : Run M_X9_enter 34 [x0, x1, x2] st h = Run M_X9_enter 36 [x0, x1, x2] (.int (-1000000004) :: st) h := R_ldc d_X9_enter_34 (by decide)
theorem d_X9_enter_36 : decode (mB M_X9_enter) 36 = .ok (.ireturn, 1) := by decide +kernel
theorem r_X9_enter_36 {x0 x1 x2 : Value} {v : Int32} {h : AH} : Run M_X9_enter 36 [x0, x1, x2] [.int v] h = some (h, some (.int v)) := R_ireturn d_X9_enter_36 rfl rfl
theorem d_X9_enter_37 : decode (mB M_X9_enter) 37 = .ok (.aload_n 0, 1) := by decide +kernel
theorem r_X9_enter_37 {x1 x2 : Value} {a : Nat} {st : List Value} {h : AH} : Run M_X9_enter 37 [.ref a, x1, x2] st h = Run M_X9_enter 38 [.ref a, x1, x2] (.ref a :: st) h := R_aload_n d_X9_enter_37 rfl
theorem d_X9_enter_38 : decode (mB M_X9_enter) 38 = .ok (.getfield 76, 3) := by decide +kernel
theorem r_X9_enter_38 {x0 x1 x2 : Value} {a : Nat} {st : List Value} {h : AH} : Run M_X9_enter 38 [x0, x1, x2] (.ref a :: st) h = if (gF h a 9 37).isSome = true then Run M_X9_enter 41 [x0, x1, x2] ((gF h a 9 37).getD .null :: st) h else none := R_getfield d_X9_enter_38 rfl
theorem d_X9_enter_41 : decode (mB M_X9_enter) 41 = .ok (.iconst 2, 1) := by decide +kernel
theorem r_X9_enter_41 {x0 x1 x2 : Value} {st : List Value} {h : AH} : Run M_X9_enter 41 [x0, x1, x2] st h = Run M_X9_enter 42 [x0, x1, x2] (.int (nI 2) :: st) h := R_iconst d_X9_enter_41 (by decide)
theorem d_X9_enter_42 : decode (mB M_X9_enter) 42 = .ok (.aload_n 0, 1) := by decide +kernel
theorem r_X9_enter_42 {x1 x2 : Value} {a : Nat} {st : List Value} {h : AH} : Run M_X9_enter 42 [.ref a, x1, x2] st h = Run M_X9_enter 43 [.ref a, x1, x2] (.ref a :: st) h := R_aload_n d_X9_enter_42 rfl
theorem d_X9_enter_43 : decode (mB M_X9_enter) 43 = .ok (.getfield 185, 3) := by decide +kernel
theorem r_X9_enter_43 {x0 x1 x2 : Value} {a : Nat} {st : List Value} {h : AH} : Run M_X9_enter 43 [x0, x1, x2] (.ref a :: st) h = if (gF h a 9 36).isSome = true then Run M_X9_enter 46 [x0, x1, x2] ((gF h a 9 36).getD .null :: st) h else none := R_getfield d_X9_enter_43 rfl
theorem d_X9_enter_46 : decode (mB M_X9_enter) 46 = .ok (.imul, 1) := by decide +kernel
theorem r_X9_enter_46 {x0 x1 x2 : Value} {x y : Int32} {st : List Value} {h : AH} : Run M_X9_enter 46 [x0, x1, x2] (.int y :: .int x :: st) h = Run M_X9_enter 47 [x0, x1, x2] (.int (x * y) :: st) h := R_imul d_X9_enter_46
theorem d_X9_enter_47 : decode (mB M_X9_enter) 47 = .ok (.iload_n 1, 1) := by decide +kernel
theorem r_X9_enter_47 {x0 x2 : Value} {a : Int32} {st : List Value} {h : AH} : Run M_X9_enter 47 [x0, .int a, x2] st h = Run M_X9_enter 48 [x0, .int a, x2] (.int a :: st) h := R_iload_n d_X9_enter_47 rfl
theorem d_X9_enter_48 : decode (mB M_X9_enter) 48 = .ok (.iastore, 1) := by decide +kernel
theorem r_X9_enter_48 {x0 x1 x2 : Value} {a : Nat} {i x : Int32} {st : List Value} {h : AH} : Run M_X9_enter 48 [x0, x1, x2] (.int x :: .int i :: .ref a :: st) h = if (pI 0 h a i x).isSome = true then Run M_X9_enter 49 [x0, x1, x2] st ((pI 0 h a i x).getD h) else none := R_iastore d_X9_enter_48
theorem d_X9_enter_49 : decode (mB M_X9_enter) 49 = .ok (.aload_n 0, 1) := by decide +kernel
theorem r_X9_enter_49 {x1 x2 : Value} {a : Nat} {st : List Value} {h : AH} : Run M_X9_enter 49 [.ref a, x1, x2] st h = Run M_X9_enter 50 [.ref a, x1, x2] (.ref a :: st) h := R_aload_n d_X9_enter_49 rfl
theorem d_X9_enter_50 : decode (mB M_X9_enter) 50 = .ok (.getfield 76, 3) := by decide +kernel
theorem r_X9_enter_50 {x0 x1 x2 : Value} {a : Nat} {st : List Value} {h : AH} : Run M_X9_enter 50 [x0, x1, x2] (.ref a :: st) h = if (gF h a 9 37).isSome = true then Run M_X9_enter 53 [x0, x1, x2] ((gF h a 9 37).getD .null :: st) h else none := R_getfield d_X9_enter_50 rfl
theorem d_X9_enter_53 : decode (mB M_X9_enter) 53 = .ok (.iconst 2, 1) := by decide +kernel
theorem r_X9_enter_53 {x0 x1 x2 : Value} {st : List Value} {h : AH} : Run M_X9_enter 53 [x0, x1, x2] st h = Run M_X9_enter 54 [x0, x1, x2] (.int (nI 2) :: st) h := R_iconst d_X9_enter_53 (by decide)
theorem d_X9_enter_54 : decode (mB M_X9_enter) 54 = .ok (.aload_n 0, 1) := by decide +kernel
theorem r_X9_enter_54 {x1 x2 : Value} {a : Nat} {st : List Value} {h : AH} : Run M_X9_enter 54 [.ref a, x1, x2] st h = Run M_X9_enter 55 [.ref a, x1, x2] (.ref a :: st) h := R_aload_n d_X9_enter_54 rfl
theorem d_X9_enter_55 : decode (mB M_X9_enter) 55 = .ok (.getfield 185, 3) := by decide +kernel
theorem r_X9_enter_55 {x0 x1 x2 : Value} {a : Nat} {st : List Value} {h : AH} : Run M_X9_enter 55 [x0, x1, x2] (.ref a :: st) h = if (gF h a 9 36).isSome = true then Run M_X9_enter 58 [x0, x1, x2] ((gF h a 9 36).getD .null :: st) h else none := R_getfield d_X9_enter_55 rfl
theorem d_X9_enter_58 : decode (mB M_X9_enter) 58 = .ok (.imul, 1) := by decide +kernel
theorem r_X9_enter_58 {x0 x1 x2 : Value} {x y : Int32} {st : List Value} {h : AH} : Run M_X9_enter 58 [x0, x1, x2] (.int y :: .int x :: st) h = Run M_X9_enter 59 [x0, x1, x2] (.int (x * y) :: st) h := R_imul d_X9_enter_58
theorem d_X9_enter_59 : decode (mB M_X9_enter) 59 = .ok (.iconst 1, 1) := by decide +kernel
theorem r_X9_enter_59 {x0 x1 x2 : Value} {st : List Value} {h : AH} : Run M_X9_enter 59 [x0, x1, x2] st h = Run M_X9_enter 60 [x0, x1, x2] (.int (nI 1) :: st) h := R_iconst d_X9_enter_59 (by decide)
theorem d_X9_enter_60 : decode (mB M_X9_enter) 60 = .ok (.iadd, 1) := by decide +kernel
theorem r_X9_enter_60 {x0 x1 x2 : Value} {x y : Int32} {st : List Value} {h : AH} : Run M_X9_enter 60 [x0, x1, x2] (.int y :: .int x :: st) h = Run M_X9_enter 61 [x0, x1, x2] (.int (x + y) :: st) h := R_iadd d_X9_enter_60
theorem d_X9_enter_61 : decode (mB M_X9_enter) 61 = .ok (.iload_n 2, 1) := by decide +kernel
theorem r_X9_enter_61 {x0 x1 : Value} {a : Int32} {st : List Value} {h : AH} : Run M_X9_enter 61 [x0, x1, .int a] st h = Run M_X9_enter 62 [x0, x1, .int a] (.int a :: st) h := R_iload_n d_X9_enter_61 rfl
theorem d_X9_enter_62 : decode (mB M_X9_enter) 62 = .ok (.iastore, 1) := by decide +kernel
theorem r_X9_enter_62 {x0 x1 x2 : Value} {a : Nat} {i x : Int32} {st : List Value} {h : AH} : Run M_X9_enter 62 [x0, x1, x2] (.int x :: .int i :: .ref a :: st) h = if (pI 0 h a i x).isSome = true then Run M_X9_enter 63 [x0, x1, x2] st ((pI 0 h a i x).getD h) else none := R_iastore d_X9_enter_62
theorem d_X9_enter_63 : decode (mB M_X9_enter) 63 = .ok (.aload_n 0, 1) := by decide +kernel
theorem r_X9_enter_63 {x1 x2 : Value} {a : Nat} {st : List Value} {h : AH} : Run M_X9_enter 63 [.ref a, x1, x2] st h = Run M_X9_enter 64 [.ref a, x1, x2] (.ref a :: st) h := R_aload_n d_X9_enter_63 rfl
theorem d_X9_enter_64 : decode (mB M_X9_enter) 64 = .ok (.dup, 1) := by decide +kernel
theorem r_X9_enter_64 {x0 x1 x2 : Value} {x : Nat} {st : List Value} {h : AH} : Run M_X9_enter 64 [x0, x1, x2] (.ref x :: st) h = Run M_X9_enter 65 [x0, x1, x2] (.ref x :: .ref x :: st) h := R_dupr d_X9_enter_64
theorem d_X9_enter_65 : decode (mB M_X9_enter) 65 = .ok (.getfield 185, 3) := by decide +kernel
theorem r_X9_enter_65 {x0 x1 x2 : Value} {a : Nat} {st : List Value} {h : AH} : Run M_X9_enter 65 [x0, x1, x2] (.ref a :: st) h = if (gF h a 9 36).isSome = true then Run M_X9_enter 68 [x0, x1, x2] ((gF h a 9 36).getD .null :: st) h else none := R_getfield d_X9_enter_65 rfl
theorem d_X9_enter_68 : decode (mB M_X9_enter) 68 = .ok (.iconst 1, 1) := by decide +kernel
theorem r_X9_enter_68 {x0 x1 x2 : Value} {st : List Value} {h : AH} : Run M_X9_enter 68 [x0, x1, x2] st h = Run M_X9_enter 69 [x0, x1, x2] (.int (nI 1) :: st) h := R_iconst d_X9_enter_68 (by decide)
theorem d_X9_enter_69 : decode (mB M_X9_enter) 69 = .ok (.iadd, 1) := by decide +kernel
theorem r_X9_enter_69 {x0 x1 x2 : Value} {x y : Int32} {st : List Value} {h : AH} : Run M_X9_enter 69 [x0, x1, x2] (.int y :: .int x :: st) h = Run M_X9_enter 70 [x0, x1, x2] (.int (x + y) :: st) h := R_iadd d_X9_enter_69
theorem d_X9_enter_70 : decode (mB M_X9_enter) 70 = .ok (.putfield 185, 3) := by decide +kernel
theorem r_X9_enter_70 {x0 x1 x2 : Value} {v : Int32} {a : Nat} {st : List Value} {h : AH} : Run M_X9_enter 70 [x0, x1, x2] (.int v :: .ref a :: st) h = if (pF h a 9 36 (.int v)).isSome = true then Run M_X9_enter 73 [x0, x1, x2] st ((pF h a 9 36 (.int v)).getD h) else none := R_putfield d_X9_enter_70 rfl (okP_int rfl rfl)
theorem d_X9_enter_73 : decode (mB M_X9_enter) 73 = .ok (.aload_n 0, 1) := by decide +kernel
theorem r_X9_enter_73 {x1 x2 : Value} {a : Nat} {st : List Value} {h : AH} : Run M_X9_enter 73 [.ref a, x1, x2] st h = Run M_X9_enter 74 [.ref a, x1, x2] (.ref a :: st) h := R_aload_n d_X9_enter_73 rfl
theorem d_X9_enter_74 : decode (mB M_X9_enter) 74 = .ok (.getfield 185, 3) := by decide +kernel
theorem r_X9_enter_74 {x0 x1 x2 : Value} {a : Nat} {st : List Value} {h : AH} : Run M_X9_enter 74 [x0, x1, x2] (.ref a :: st) h = if (gF h a 9 36).isSome = true then Run M_X9_enter 77 [x0, x1, x2] ((gF h a 9 36).getD .null :: st) h else none := R_getfield d_X9_enter_74 rfl
theorem d_X9_enter_77 : decode (mB M_X9_enter) 77 = .ok (.ireturn, 1) := by decide +kernel
theorem r_X9_enter_77 {x0 x1 x2 : Value} {v : Int32} {h : AH} : Run M_X9_enter 77 [x0, x1, x2] [.int v] h = some (h, some (.int v)) := R_ireturn d_X9_enter_77 rfl rfl
theorem d_X9_firstIn_0 : decode (mB M_X9_firstIn) 0 = .ok (.iload_n 1, 1) := by decide +kernel
theorem r_X9_firstIn_0 {x0 x2 x3 x4 : Value} {a : Int32} {st : List Value} {h : AH} : Run M_X9_firstIn 0 [x0, .int a, x2, x3, x4] st h = Run M_X9_firstIn 1 [x0, .int a, x2, x3, x4] (.int a :: st) h := R_iload_n d_X9_firstIn_0 rfl
theorem d_X9_firstIn_1 : decode (mB M_X9_firstIn) 1 = .ok (.iconst 0, 1) := by decide +kernel
theorem r_X9_firstIn_1 {x0 x1 x2 x3 x4 : Value} {st : List Value} {h : AH} : Run M_X9_firstIn 1 [x0, x1, x2, x3, x4] st h = Run M_X9_firstIn 2 [x0, x1, x2, x3, x4] (.int (nI 0) :: st) h := R_iconst d_X9_firstIn_1 (by decide)
theorem d_X9_firstIn_2 : decode (mB M_X9_firstIn) 2 = .ok (.iconst 1, 1) := by decide +kernel
theorem r_X9_firstIn_2 {x0 x1 x2 x3 x4 : Value} {st : List Value} {h : AH} : Run M_X9_firstIn 2 [x0, x1, x2, x3, x4] st h = Run M_X9_firstIn 3 [x0, x1, x2, x3, x4] (.int (nI 1) :: st) h := R_iconst d_X9_firstIn_2 (by decide)
theorem d_X9_firstIn_3 : decode (mB M_X9_firstIn) 3 = .ok (.invokestatic 85, 3) := by decide +kernel
theorem r_X9_firstIn_3 {x0 x1 x2 x3 x4 : Value} {p0 : Int32} {p1 : Int32} {p2 : Int32} {h : AH} : Run M_X9_firstIn 3 [x0, x1, x2, x3, x4] (.int p2 :: .int p1 :: .int p0 :: []) h = if (Call M_X9_in h [.int p0, .int p1, .int p2]).isSome = true then Run M_X9_firstIn 6 [x0, x1, x2, x3, x4] (rL (Call M_X9_in h [.int p0, .int p1, .int p2]) ++ []) (cH (Call M_X9_in h [.int p0, .int p1, .int p2])) else none := R_stat d_X9_firstIn_3 rfl rfl rfl rfl (Nat.le_of_ble_eq_true rfl)
theorem d_X9_firstIn_6 : decode (mB M_X9_firstIn) 6 = .ok (.ifCond .ne 6, 3) := by decide +kernel
theorem r_X9_firstIn_6 {x0 x1 x2 x3 x4 : Value} {x : Int32} {st : List Value} {h : AH} : Run M_X9_firstIn 6 [x0, x1, x2, x3, x4] (.int x :: st) h = if x = nI 0 then Run M_X9_firstIn 9 [x0, x1, x2, x3, x4] st h else Run M_X9_firstIn 12 [x0, x1, x2, x3, x4] st h := R_if_ne d_X9_firstIn_6 (by decide)
theorem d_X9_firstIn_9 : decode (mB M_X9_firstIn) 9 = .ok (.ldc 92, 2) := by decide +kernel
theorem r_X9_firstIn_9 {x0 x1 x2 x3 x4 : Value} {st : List Value} {h : AH} : Run M_X9_firstIn 9 [x0, x1, x2, x3, x4] st h = Run M_X9_firstIn 11 [x0, x1, x2, x3, x4] (.int (-1000000002) :: st) h := R_ldc d_X9_firstIn_9 (by decide)
theorem d_X9_firstIn_11 : decode (mB M_X9_firstIn) 11 = .ok (.ireturn, 1) := by decide +kernel
theorem r_X9_firstIn_11 {x0 x1 x2 x3 x4 : Value} {v : Int32} {h : AH} : Run M_X9_firstIn 11 [x0, x1, x2, x3, x4] [.int v] h = some (h, some (.int v)) := R_ireturn d_X9_firstIn_11 rfl rfl
theorem d_X9_firstIn_12 : decode (mB M_X9_firstIn) 12 = .ok (.iconst (-1), 1) := by decide +kernel
theorem r_X9_firstIn_12 {x0 x1 x2 x3 x4 : Value} {st : List Value} {h : AH} : Run M_X9_firstIn 12 [x0, x1, x2, x3, x4] st h = Run M_X9_firstIn 13 [x0, x1, x2, x3, x4] (.int (-1) :: st) h := R_iconst d_X9_firstIn_12 (by decide)
theorem d_X9_firstIn_13 : decode (mB M_X9_firstIn) 13 = .ok (.istore_n 2, 1) := by decide +kernel
theorem r_X9_firstIn_13 {x0 x1 x2 x3 x4 : Value} {a : Int32} {st : List Value} {h : AH} (hc : x1.category = 1) : Run M_X9_firstIn 13 [x0, x1, x2, x3, x4] (.int a :: st) h = Run M_X9_firstIn 14 [x0, x1, .int a, x3, x4] st h := R_istore_n d_X9_firstIn_13 (Nat.lt_of_lt_of_le (by decide : 2 < 5) (Nat.le_refl 5)) (catP_of rfl hc)
theorem d_X9_firstIn_14 : decode (mB M_X9_firstIn) 14 = .ok (.iconst 0, 1) := by decide +kernel
theorem r_X9_firstIn_14 {x0 x1 x2 x3 x4 : Value} {st : List Value} {h : AH} : Run M_X9_firstIn 14 [x0, x1, x2, x3, x4] st h = Run M_X9_firstIn 15 [x0, x1, x2, x3, x4] (.int (nI 0) :: st) h := R_iconst d_X9_firstIn_14 (by decide)
theorem d_X9_firstIn_15 : decode (mB M_X9_firstIn) 15 = .ok (.istore_n 3, 1) := by decide +kernel
theorem r_X9_firstIn_15 {x0 x1 x2 x3 x4 : Value} {a : Int32} {st : List Value} {h : AH} (hc : x2.category = 1) : Run M_X9_firstIn 15 [x0, x1, x2, x3, x4] (.int a :: st) h = Run M_X9_firstIn 16 [x0, x1, x2, .int a, x4] st h := R_istore_n d_X9_firstIn_15 (Nat.lt_of_lt_of_le (by decide : 3 < 5) (Nat.le_refl 5)) (catP_of rfl hc)
theorem d_X9_firstIn_16 : decode (mB M_X9_firstIn) 16 = .ok (.iload_n 3, 1) := by decide +kernel
theorem r_X9_firstIn_16 {x0 x1 x2 x4 : Value} {a : Int32} {st : List Value} {h : AH} : Run M_X9_firstIn 16 [x0, x1, x2, .int a, x4] st h = Run M_X9_firstIn 17 [x0, x1, x2, .int a, x4] (.int a :: st) h := R_iload_n d_X9_firstIn_16 rfl
theorem d_X9_firstIn_17 : decode (mB M_X9_firstIn) 17 = .ok (.aload_n 0, 1) := by decide +kernel
theorem r_X9_firstIn_17 {x1 x2 x3 x4 : Value} {a : Nat} {st : List Value} {h : AH} : Run M_X9_firstIn 17 [.ref a, x1, x2, x3, x4] st h = Run M_X9_firstIn 18 [.ref a, x1, x2, x3, x4] (.ref a :: st) h := R_aload_n d_X9_firstIn_17 rfl
theorem d_X9_firstIn_18 : decode (mB M_X9_firstIn) 18 = .ok (.getfield 185, 3) := by decide +kernel
theorem r_X9_firstIn_18 {x0 x1 x2 x3 x4 : Value} {a : Nat} {st : List Value} {h : AH} : Run M_X9_firstIn 18 [x0, x1, x2, x3, x4] (.ref a :: st) h = if (gF h a 9 36).isSome = true then Run M_X9_firstIn 21 [x0, x1, x2, x3, x4] ((gF h a 9 36).getD .null :: st) h else none := R_getfield d_X9_firstIn_18 rfl
theorem d_X9_firstIn_21 : decode (mB M_X9_firstIn) 21 = .ok (.if_icmp .ge 51, 3) := by decide +kernel
theorem r_X9_firstIn_21 {x0 x1 x2 x3 x4 : Value} {x y : Int32} {st : List Value} {h : AH} : Run M_X9_firstIn 21 [x0, x1, x2, x3, x4] (.int y :: .int x :: st) h = if y ≤ x then Run M_X9_firstIn 72 [x0, x1, x2, x3, x4] st h else Run M_X9_firstIn 24 [x0, x1, x2, x3, x4] st h := R_icmp_ge d_X9_firstIn_21 (by decide)
theorem d_X9_firstIn_24 : decode (mB M_X9_firstIn) 24 = .ok (.bipush 10, 2) := by decide +kernel
theorem r_X9_firstIn_24 {x0 x1 x2 x3 x4 : Value} {st : List Value} {h : AH} : Run M_X9_firstIn 24 [x0, x1, x2, x3, x4] st h = Run M_X9_firstIn 26 [x0, x1, x2, x3, x4] (.int (nI 10) :: st) h := R_bipush d_X9_firstIn_24 (by decide)
theorem d_X9_firstIn_26 : decode (mB M_X9_firstIn) 26 = .ok (.aload_n 0, 1) := by decide +kernel
theorem r_X9_firstIn_26 {x1 x2 x3 x4 : Value} {a : Nat} {st : List Value} {h : AH} : Run M_X9_firstIn 26 [.ref a, x1, x2, x3, x4] st h = Run M_X9_firstIn 27 [.ref a, x1, x2, x3, x4] (.ref a :: st) h := R_aload_n d_X9_firstIn_26 rfl
theorem d_X9_firstIn_27 : decode (mB M_X9_firstIn) 27 = .ok (.getfield 76, 3) := by decide +kernel
theorem r_X9_firstIn_27 {x0 x1 x2 x3 x4 : Value} {a : Nat} {st : List Value} {h : AH} : Run M_X9_firstIn 27 [x0, x1, x2, x3, x4] (.ref a :: st) h = if (gF h a 9 37).isSome = true then Run M_X9_firstIn 30 [x0, x1, x2, x3, x4] ((gF h a 9 37).getD .null :: st) h else none := R_getfield d_X9_firstIn_27 rfl
theorem d_X9_firstIn_30 : decode (mB M_X9_firstIn) 30 = .ok (.iconst 2, 1) := by decide +kernel
theorem r_X9_firstIn_30 {x0 x1 x2 x3 x4 : Value} {st : List Value} {h : AH} : Run M_X9_firstIn 30 [x0, x1, x2, x3, x4] st h = Run M_X9_firstIn 31 [x0, x1, x2, x3, x4] (.int (nI 2) :: st) h := R_iconst d_X9_firstIn_30 (by decide)
theorem d_X9_firstIn_31 : decode (mB M_X9_firstIn) 31 = .ok (.iload_n 3, 1) := by decide +kernel
theorem r_X9_firstIn_31 {x0 x1 x2 x4 : Value} {a : Int32} {st : List Value} {h : AH} : Run M_X9_firstIn 31 [x0, x1, x2, .int a, x4] st h = Run M_X9_firstIn 32 [x0, x1, x2, .int a, x4] (.int a :: st) h := R_iload_n d_X9_firstIn_31 rfl
theorem d_X9_firstIn_32 : decode (mB M_X9_firstIn) 32 = .ok (.imul, 1) := by decide +kernel
theorem r_X9_firstIn_32 {x0 x1 x2 x3 x4 : Value} {x y : Int32} {st : List Value} {h : AH} : Run M_X9_firstIn 32 [x0, x1, x2, x3, x4] (.int y :: .int x :: st) h = Run M_X9_firstIn 33 [x0, x1, x2, x3, x4] (.int (x * y) :: st) h := R_imul d_X9_firstIn_32
theorem d_X9_firstIn_33 : decode (mB M_X9_firstIn) 33 = .ok (.iconst 1, 1) := by decide +kernel
theorem r_X9_firstIn_33 {x0 x1 x2 x3 x4 : Value} {st : List Value} {h : AH} : Run M_X9_firstIn 33 [x0, x1, x2, x3, x4] st h = Run M_X9_firstIn 34 [x0, x1, x2, x3, x4] (.int (nI 1) :: st) h := R_iconst d_X9_firstIn_33 (by decide)
theorem d_X9_firstIn_34 : decode (mB M_X9_firstIn) 34 = .ok (.iadd, 1) := by decide +kernel
theorem r_X9_firstIn_34 {x0 x1 x2 x3 x4 : Value} {x y : Int32} {st : List Value} {h : AH} : Run M_X9_firstIn 34 [x0, x1, x2, x3, x4] (.int y :: .int x :: st) h = Run M_X9_firstIn 35 [x0, x1, x2, x3, x4] (.int (x + y) :: st) h := R_iadd d_X9_firstIn_34
theorem d_X9_firstIn_35 : decode (mB M_X9_firstIn) 35 = .ok (.iaload, 1) := by decide +kernel
theorem r_X9_firstIn_35 {x0 x1 x2 x3 x4 : Value} {a : Nat} {i : Int32} {st : List Value} {h : AH} : Run M_X9_firstIn 35 [x0, x1, x2, x3, x4] (.int i :: .ref a :: st) h = if (gI 0 h a i).isSome = true then Run M_X9_firstIn 36 [x0, x1, x2, x3, x4] (.int ((gI 0 h a i).getD 0) :: st) h else none := R_iaload d_X9_firstIn_35
theorem d_X9_firstIn_36 : decode (mB M_X9_firstIn) 36 = .ok (.imul, 1) := by decide +kernel
theorem r_X9_firstIn_36 {x0 x1 x2 x3 x4 : Value} {x y : Int32} {st : List Value} {h : AH} : Run M_X9_firstIn 36 [x0, x1, x2, x3, x4] (.int y :: .int x :: st) h = Run M_X9_firstIn 37 [x0, x1, x2, x3, x4] (.int (x * y) :: st) h := R_imul d_X9_firstIn_36
theorem d_X9_firstIn_37 : decode (mB M_X9_firstIn) 37 = .ok (.aload_n 0, 1) := by decide +kernel
theorem r_X9_firstIn_37 {x1 x2 x3 x4 : Value} {a : Nat} {st : List Value} {h : AH} : Run M_X9_firstIn 37 [.ref a, x1, x2, x3, x4] st h = Run M_X9_firstIn 38 [.ref a, x1, x2, x3, x4] (.ref a :: st) h := R_aload_n d_X9_firstIn_37 rfl
theorem d_X9_firstIn_38 : decode (mB M_X9_firstIn) 38 = .ok (.getfield 76, 3) := by decide +kernel
theorem r_X9_firstIn_38 {x0 x1 x2 x3 x4 : Value} {a : Nat} {st : List Value} {h : AH} : Run M_X9_firstIn 38 [x0, x1, x2, x3, x4] (.ref a :: st) h = if (gF h a 9 37).isSome = true then Run M_X9_firstIn 41 [x0, x1, x2, x3, x4] ((gF h a 9 37).getD .null :: st) h else none := R_getfield d_X9_firstIn_38 rfl
theorem d_X9_firstIn_41 : decode (mB M_X9_firstIn) 41 = .ok (.iconst 2, 1) := by decide +kernel
theorem r_X9_firstIn_41 {x0 x1 x2 x3 x4 : Value} {st : List Value} {h : AH} : Run M_X9_firstIn 41 [x0, x1, x2, x3, x4] st h = Run M_X9_firstIn 42 [x0, x1, x2, x3, x4] (.int (nI 2) :: st) h := R_iconst d_X9_firstIn_41 (by decide)
theorem d_X9_firstIn_42 : decode (mB M_X9_firstIn) 42 = .ok (.iload_n 3, 1) := by decide +kernel
theorem r_X9_firstIn_42 {x0 x1 x2 x4 : Value} {a : Int32} {st : List Value} {h : AH} : Run M_X9_firstIn 42 [x0, x1, x2, .int a, x4] st h = Run M_X9_firstIn 43 [x0, x1, x2, .int a, x4] (.int a :: st) h := R_iload_n d_X9_firstIn_42 rfl
theorem d_X9_firstIn_43 : decode (mB M_X9_firstIn) 43 = .ok (.imul, 1) := by decide +kernel
theorem r_X9_firstIn_43 {x0 x1 x2 x3 x4 : Value} {x y : Int32} {st : List Value} {h : AH} : Run M_X9_firstIn 43 [x0, x1, x2, x3, x4] (.int y :: .int x :: st) h = Run M_X9_firstIn 44 [x0, x1, x2, x3, x4] (.int (x * y) :: st) h := R_imul d_X9_firstIn_43
theorem d_X9_firstIn_44 : decode (mB M_X9_firstIn) 44 = .ok (.iaload, 1) := by decide +kernel
theorem r_X9_firstIn_44 {x0 x1 x2 x3 x4 : Value} {a : Nat} {i : Int32} {st : List Value} {h : AH} : Run M_X9_firstIn 44 [x0, x1, x2, x3, x4] (.int i :: .ref a :: st) h = if (gI 0 h a i).isSome = true then Run M_X9_firstIn 45 [x0, x1, x2, x3, x4] (.int ((gI 0 h a i).getD 0) :: st) h else none := R_iaload d_X9_firstIn_44
theorem d_X9_firstIn_45 : decode (mB M_X9_firstIn) 45 = .ok (.iadd, 1) := by decide +kernel
theorem r_X9_firstIn_45 {x0 x1 x2 x3 x4 : Value} {x y : Int32} {st : List Value} {h : AH} : Run M_X9_firstIn 45 [x0, x1, x2, x3, x4] (.int y :: .int x :: st) h = Run M_X9_firstIn 46 [x0, x1, x2, x3, x4] (.int (x + y) :: st) h := R_iadd d_X9_firstIn_45
theorem d_X9_firstIn_46 : decode (mB M_X9_firstIn) 46 = .ok (.istore 4, 2) := by decide +kernel
theorem r_X9_firstIn_46 {x0 x1 x2 x3 x4 : Value} {a : Int32} {st : List Value} {h : AH} (hc : x3.category = 1) : Run M_X9_firstIn 46 [x0, x1, x2, x3, x4] (.int a :: st) h = Run M_X9_firstIn 48 [x0, x1, x2, x3, .int a] st h := R_istore d_X9_firstIn_46 (Nat.lt_of_lt_of_le (by decide : 4 < 5) (Nat.le_refl 5)) (catP_of rfl hc)
theorem d_X9_firstIn_48 : decode (mB M_X9_firstIn) 48 = .ok (.iload_n 2, 1) := by decide +kernel
theorem r_X9_firstIn_48 {x0 x1 x3 x4 : Value} {a : Int32} {st : List Value} {h : AH} : Run M_X9_firstIn 48 [x0, x1, .int a, x3, x4] st h = Run M_X9_firstIn 49 [x0, x1, .int a, x3, x4] (.int a :: st) h := R_iload_n d_X9_firstIn_48 rfl
theorem d_X9_firstIn_49 : decode (mB M_X9_firstIn) 49 = .ok (.iconst (-1), 1) := by decide +kernel
theorem r_X9_firstIn_49 {x0 x1 x2 x3 x4 : Value} {st : List Value} {h : AH} : Run M_X9_firstIn 49 [x0, x1, x2, x3, x4] st h = Run M_X9_firstIn 50 [x0, x1, x2, x3, x4] (.int (-1) :: st) h := R_iconst d_X9_firstIn_49 (by decide)
theorem d_X9_firstIn_50 : decode (mB M_X9_firstIn) 50 = .ok (.if_icmp .eq 9, 3) := by decide +kernel
theorem r_X9_firstIn_50 {x0 x1 x2 x3 x4 : Value} {x y : Int32} {st : List Value} {h : AH} : Run M_X9_firstIn 50 [x0, x1, x2, x3, x4] (.int y :: .int x :: st) h = if x = y then Run M_X9_firstIn 59 [x0, x1, x2, x3, x4] st h else Run M_X9_firstIn 53 [x0, x1, x2, x3, x4] st h := R_icmp_eq d_X9_firstIn_50 (by decide)
theorem d_X9_firstIn_53 : decode (mB M_X9_firstIn) 53 = .ok (.iload 4, 2) := by decide +kernel
theorem r_X9_firstIn_53 {x0 x1 x2 x3 : Value} {a : Int32} {st : List Value} {h : AH} : Run M_X9_firstIn 53 [x0, x1, x2, x3, .int a] st h = Run M_X9_firstIn 55 [x0, x1, x2, x3, .int a] (.int a :: st) h := R_iload d_X9_firstIn_53 rfl
theorem d_X9_firstIn_55 : decode (mB M_X9_firstIn) 55 = .ok (.iload_n 2, 1) := by decide +kernel
theorem r_X9_firstIn_55 {x0 x1 x3 x4 : Value} {a : Int32} {st : List Value} {h : AH} : Run M_X9_firstIn 55 [x0, x1, .int a, x3, x4] st h = Run M_X9_firstIn 56 [x0, x1, .int a, x3, x4] (.int a :: st) h := R_iload_n d_X9_firstIn_55 rfl
theorem d_X9_firstIn_56 : decode (mB M_X9_firstIn) 56 = .ok (.if_icmp .ge 8, 3) := by decide +kernel
theorem r_X9_firstIn_56 {x0 x1 x2 x3 x4 : Value} {x y : Int32} {st : List Value} {h : AH} : Run M_X9_firstIn 56 [x0, x1, x2, x3, x4] (.int y :: .int x :: st) h = if y ≤ x then Run M_X9_firstIn 64 [x0, x1, x2, x3, x4] st h else Run M_X9_firstIn 59 [x0, x1, x2, x3, x4] st h := R_icmp_ge d_X9_firstIn_56 (by decide)
theorem d_X9_firstIn_59 : decode (mB M_X9_firstIn) 59 = .ok (.iload 4, 2) := by decide +kernel
theorem r_X9_firstIn_59 {x0 x1 x2 x3 : Value} {a : Int32} {st : List Value} {h : AH} : Run M_X9_firstIn 59 [x0, x1, x2, x3, .int a] st h = Run M_X9_firstIn 61 [x0, x1, x2, x3, .int a] (.int a :: st) h := R_iload d_X9_firstIn_59 rfl
theorem d_X9_firstIn_61 : decode (mB M_X9_firstIn) 61 = .ok (.goto 4, 3) := by decide +kernel
theorem r_X9_firstIn_61 {x0 x1 x2 x3 x4 : Value} {st : List Value} {h : AH} : Run M_X9_firstIn 61 [x0, x1, x2, x3, x4] st h = Run M_X9_firstIn 65 [x0, x1, x2, x3, x4] st h := R_goto d_X9_firstIn_61 (by decide)
theorem d_X9_firstIn_64 : decode (mB M_X9_firstIn) 64 = .ok (.iload_n 2, 1) := by decide +kernel
theorem r_X9_firstIn_64 {x0 x1 x3 x4 : Value} {a : Int32} {st : List Value} {h : AH} : Run M_X9_firstIn 64 [x0, x1, .int a, x3, x4] st h = Run M_X9_firstIn 65 [x0, x1, .int a, x3, x4] (.int a :: st) h := R_iload_n d_X9_firstIn_64 rfl
theorem d_X9_firstIn_65 : decode (mB M_X9_firstIn) 65 = .ok (.istore_n 2, 1) := by decide +kernel
theorem r_X9_firstIn_65 {x0 x1 x2 x3 x4 : Value} {a : Int32} {st : List Value} {h : AH} (hc : x1.category = 1) : Run M_X9_firstIn 65 [x0, x1, x2, x3, x4] (.int a :: st) h = Run M_X9_firstIn 66 [x0, x1, .int a, x3, x4] st h := R_istore_n d_X9_firstIn_65 (Nat.lt_of_lt_of_le (by decide : 2 < 5) (Nat.le_refl 5)) (catP_of rfl hc)
theorem d_X9_firstIn_66 : decode (mB M_X9_firstIn) 66 = .ok (.iinc 3 1, 3) := by decide +kernel
theorem r_X9_firstIn_66 {x0 x1 x2 x4 : Value} {a : Int32} {st : List Value} {h : AH} (hc : x2.category = 1) : Run M_X9_firstIn 66 [x0, x1, x2, .int a, x4] st h = Run M_X9_firstIn 69 [x0, x1, x2, .int (a + (nI 1)), x4] st h := R_iinc d_X9_firstIn_66 (by decide) rfl (catP_of rfl hc)
theorem d_X9_firstIn_69 : decode (mB M_X9_firstIn) 69 = .ok (.goto (-53), 3) := by decide +kernel
theorem r_X9_firstIn_69 {x0 x1 x2 x3 x4 : Value} {st : List Value} {h : AH} : Run M_X9_firstIn 69 [x0, x1, x2, x3, x4] st h = Run M_X9_firstIn 16 [x0, x1, x2, x3, x4] st h := R_goto d_X9_firstIn_69 (by decide)
theorem d_X9_firstIn_72 : decode (mB M_X9_firstIn) 72 = .ok (.iload_n 2, 1) := by decide +kernel
theorem r_X9_firstIn_72 {x0 x1 x3 x4 : Value} {a : Int32} {st : List Value} {h : AH} : Run M_X9_firstIn 72 [x0, x1, .int a, x3, x4] st h = Run M_X9_firstIn 73 [x0, x1, .int a, x3, x4] (.int a :: st) h := R_iload_n d_X9_firstIn_72 rfl
theorem d_X9_firstIn_73 : decode (mB M_X9_firstIn) 73 = .ok (.iconst (-1), 1) := by decide +kernel
theorem r_X9_firstIn_73 {x0 x1 x2 x3 x4 : Value} {st : List Value} {h : AH} : Run M_X9_firstIn 73 [x0, x1, x2, x3, x4] st h = Run M_X9_firstIn 74 [x0, x1, x2, x3, x4] (.int (-1) :: st) h := R_iconst d_X9_firstIn_73 (by decide)
theorem d_X9_firstIn_74 : decode (mB M_X9_firstIn) 74 = .ok (.if_icmp .ne 7, 3) := by decide +kernel
theorem r_X9_firstIn_74 {x0 x1 x2 x3 x4 : Value} {x y : Int32} {st : List Value} {h : AH} : Run M_X9_firstIn 74 [x0, x1, x2, x3, x4] (.int y :: .int x :: st) h = if x = y then Run M_X9_firstIn 77 [x0, x1, x2, x3, x4] st h else Run M_X9_firstIn 81 [x0, x1, x2, x3, x4] st h := R_icmp_ne d_X9_firstIn_74 (by decide)
theorem d_X9_firstIn_77 : decode (mB M_X9_firstIn) 77 = .ok (.iconst (-1), 1) := by decide +kernel
theorem r_X9_firstIn_77 {x0 x1 x2 x3 x4 : Value} {st : List Value} {h : AH} : Run M_X9_firstIn 77 [x0, x1, x2, x3, x4] st h = Run M_X9_firstIn 78 [x0, x1, x2, x3, x4] (.int (-1) :: st) h := R_iconst d_X9_firstIn_77 (by decide)
theorem d_X9_firstIn_78 : decode (mB M_X9_firstIn) 78 = .ok (.goto 18, 3) := by decide +kernel
theorem r_X9_firstIn_78 {x0 x1 x2 x3 x4 : Value} {st : List Value} {h : AH} : Run M_X9_firstIn 78 [x0, x1, x2, x3, x4] st h = Run M_X9_firstIn 96 [x0, x1, x2, x3, x4] st h := R_goto d_X9_firstIn_78 (by decide)
theorem d_X9_firstIn_81 : decode (mB M_X9_firstIn) 81 = .ok (.iload_n 1, 1) := by decide +kernel
theorem r_X9_firstIn_81 {x0 x2 x3 x4 : Value} {a : Int32} {st : List Value} {h : AH} : Run M_X9_firstIn 81 [x0, .int a, x2, x3, x4] st h = Run M_X9_firstIn 82 [x0, .int a, x2, x3, x4] (.int a :: st) h := R_iload_n d_X9_firstIn_81 rfl
theorem d_X9_firstIn_82 : decode (mB M_X9_firstIn) 82 = .ok (.ifCond .ne 10, 3) := by decide +kernel
theorem r_X9_firstIn_82 {x0 x1 x2 x3 x4 : Value} {x : Int32} {st : List Value} {h : AH} : Run M_X9_firstIn 82 [x0, x1, x2, x3, x4] (.int x :: st) h = if x = nI 0 then Run M_X9_firstIn 85 [x0, x1, x2, x3, x4] st h else Run M_X9_firstIn 92 [x0, x1, x2, x3, x4] st h := R_if_ne d_X9_firstIn_82 (by decide)
theorem d_X9_firstIn_85 : decode (mB M_X9_firstIn) 85 = .ok (.iload_n 2, 1) := by decide +kernel
theorem r_X9_firstIn_85 {x0 x1 x3 x4 : Value} {a : Int32} {st : List Value} {h : AH} : Run M_X9_firstIn 85 [x0, x1, .int a, x3, x4] st h = Run M_X9_firstIn 86 [x0, x1, .int a, x3, x4] (.int a :: st) h := R_iload_n d_X9_firstIn_85 rfl
theorem d_X9_firstIn_86 : decode (mB M_X9_firstIn) 86 = .ok (.bipush 10, 2) := by decide +kernel
theorem r_X9_firstIn_86 {x0 x1 x2 x3 x4 : Value} {st : List Value} {h : AH} : Run M_X9_firstIn 86 [x0, x1, x2, x3, x4] st h = Run M_X9_firstIn 88 [x0, x1, x2, x3, x4] (.int (nI 10) :: st) h := R_bipush d_X9_firstIn_86 (by decide)
theorem d_X9_firstIn_88 : decode (mB M_X9_firstIn) 88 = .ok (.irem, 1) := by decide +kernel
theorem r_X9_firstIn_88 {x0 x1 x2 x3 x4 : Value} {x y : Int32} {st : List Value} {h : AH} (hy : ¬ y = 0) : Run M_X9_firstIn 88 [x0, x1, x2, x3, x4] (.int y :: .int x :: st) h = Run M_X9_firstIn 89 [x0, x1, x2, x3, x4] (.int (x - x / y * y) :: st) h := R_irem d_X9_firstIn_88 hy
theorem d_X9_firstIn_89 : decode (mB M_X9_firstIn) 89 = .ok (.goto 7, 3) := by decide +kernel
theorem r_X9_firstIn_89 {x0 x1 x2 x3 x4 : Value} {st : List Value} {h : AH} : Run M_X9_firstIn 89 [x0, x1, x2, x3, x4] st h = Run M_X9_firstIn 96 [x0, x1, x2, x3, x4] st h := R_goto d_X9_firstIn_89 (by decide)
theorem d_X9_firstIn_92 : decode (mB M_X9_firstIn) 92 = .ok (.iload_n 2, 1) := by decide +kernel
theorem r_X9_firstIn_92 {x0 x1 x3 x4 : Value} {a : Int32} {st : List Value} {h : AH} : Run M_X9_firstIn 92 [x0, x1, .int a, x3, x4] st h = Run M_X9_firstIn 93 [x0, x1, .int a, x3, x4] (.int a :: st) h := R_iload_n d_X9_firstIn_92 rfl
theorem d_X9_firstIn_93 : decode (mB M_X9_firstIn) 93 = .ok (.bipush 10, 2) := by decide +kernel
theorem r_X9_firstIn_93 {x0 x1 x2 x3 x4 : Value} {st : List Value} {h : AH} : Run M_X9_firstIn 93 [x0, x1, x2, x3, x4] st h = Run M_X9_firstIn 95 [x0, x1, x2, x3, x4] (.int (nI 10) :: st) h := R_bipush d_X9_firstIn_93 (by decide)
theorem d_X9_firstIn_95 : decode (mB M_X9_firstIn) 95 = .ok (.idiv, 1) := by decide +kernel
theorem r_X9_firstIn_95 {x0 x1 x2 x3 x4 : Value} {x y : Int32} {st : List Value} {h : AH} (hy : ¬ y = 0) : Run M_X9_firstIn 95 [x0, x1, x2, x3, x4] (.int y :: .int x :: st) h = Run M_X9_firstIn 96 [x0, x1, x2, x3, x4] (.int (x / y) :: st) h := R_idiv d_X9_firstIn_95 hy
theorem d_X9_firstIn_96 : decode (mB M_X9_firstIn) 96 = .ok (.ireturn, 1) := by decide +kernel
theorem r_X9_firstIn_96 {x0 x1 x2 x3 x4 : Value} {v : Int32} {h : AH} : Run M_X9_firstIn 96 [x0, x1, x2, x3, x4] [.int v] h = some (h, some (.int v)) := R_ireturn d_X9_firstIn_96 rfl rfl
theorem d_X9_ahead_0 : decode (mB M_X9_ahead) 0 = .ok (.iload_n 1, 1) := by decide +kernel
theorem r_X9_ahead_0 {x0 x2 x3 : Value} {a : Int32} {st : List Value} {h : AH} : Run M_X9_ahead 0 [x0, .int a, x2, x3] st h = Run M_X9_ahead 1 [x0, .int a, x2, x3] (.int a :: st) h := R_iload_n d_X9_ahead_0 rfl
theorem d_X9_ahead_1 : decode (mB M_X9_ahead) 1 = .ok (.iconst 0, 1) := by decide +kernel
theorem r_X9_ahead_1 {x0 x1 x2 x3 : Value} {st : List Value} {h : AH} : Run M_X9_ahead 1 [x0, x1, x2, x3] st h = Run M_X9_ahead 2 [x0, x1, x2, x3] (.int (nI 0) :: st) h := R_iconst d_X9_ahead_1 (by decide)
theorem d_X9_ahead_2 : decode (mB M_X9_ahead) 2 = .ok (.sipush 999, 3) := by decide +kernel
theorem r_X9_ahead_2 {x0 x1 x2 x3 : Value} {st : List Value} {h : AH} : Run M_X9_ahead 2 [x0, x1, x2, x3] st h = Run M_X9_ahead 5 [x0, x1, x2, x3] (.int (nI 999) :: st) h := R_sipush d_X9_ahead_2 (by decide)
theorem d_X9_ahead_5 : decode (mB M_X9_ahead) 5 = .ok (.invokestatic 85, 3) := by decide +kernel
theorem r_X9_ahead_5 {x0 x1 x2 x3 : Value} {p0 : Int32} {p1 : Int32} {p2 : Int32} {h : AH} : Run M_X9_ahead 5 [x0, x1, x2, x3] (.int p2 :: .int p1 :: .int p0 :: []) h = if (Call M_X9_in h [.int p0, .int p1, .int p2]).isSome = true then Run M_X9_ahead 8 [x0, x1, x2, x3] (rL (Call M_X9_in h [.int p0, .int p1, .int p2]) ++ []) (cH (Call M_X9_in h [.int p0, .int p1, .int p2])) else none := R_stat d_X9_ahead_5 rfl rfl rfl rfl (Nat.le_of_ble_eq_true rfl)
theorem d_X9_ahead_8 : decode (mB M_X9_ahead) 8 = .ok (.ifCond .ne 6, 3) := by decide +kernel
theorem r_X9_ahead_8 {x0 x1 x2 x3 : Value} {x : Int32} {st : List Value} {h : AH} : Run M_X9_ahead 8 [x0, x1, x2, x3] (.int x :: st) h = if x = nI 0 then Run M_X9_ahead 11 [x0, x1, x2, x3] st h else Run M_X9_ahead 14 [x0, x1, x2, x3] st h := R_if_ne d_X9_ahead_8 (by decide)
theorem d_X9_ahead_11 : decode (mB M_X9_ahead) 11 = .ok (.ldc 92, 2) := by decide +kernel
theorem r_X9_ahead_11 {x0 x1 x2 x3 : Value} {st : List Value} {h : AH} : Run M_X9_ahead 11 [x0, x1, x2, x3] st h = Run M_X9_ahead 13 [x0, x1, x2, x3] (.int (-1000000002) :: st) h := R_ldc d_X9_ahead_11 (by decide)
theorem d_X9_ahead_13 : decode (mB M_X9_ahead) 13 = .ok (.ireturn, 1) := by decide +kernel
theorem r_X9_ahead_13 {x0 x1 x2 x3 : Value} {v : Int32} {h : AH} : Run M_X9_ahead 13 [x0, x1, x2, x3] [.int v] h = some (h, some (.int v)) := R_ireturn d_X9_ahead_13 rfl rfl
theorem d_X9_ahead_14 : decode (mB M_X9_ahead) 14 = .ok (.iconst 0, 1) := by decide +kernel
theorem r_X9_ahead_14 {x0 x1 x2 x3 : Value} {st : List Value} {h : AH} : Run M_X9_ahead 14 [x0, x1, x2, x3] st h = Run M_X9_ahead 15 [x0, x1, x2, x3] (.int (nI 0) :: st) h := R_iconst d_X9_ahead_14 (by decide)
theorem d_X9_ahead_15 : decode (mB M_X9_ahead) 15 = .ok (.istore_n 2, 1) := by decide +kernel
theorem r_X9_ahead_15 {x0 x1 x2 x3 : Value} {a : Int32} {st : List Value} {h : AH} (hc : x1.category = 1) : Run M_X9_ahead 15 [x0, x1, x2, x3] (.int a :: st) h = Run M_X9_ahead 16 [x0, x1, .int a, x3] st h := R_istore_n d_X9_ahead_15 (Nat.lt_of_lt_of_le (by decide : 2 < 4) (Nat.le_refl 4)) (catP_of rfl hc)
theorem d_X9_ahead_16 : decode (mB M_X9_ahead) 16 = .ok (.iconst 0, 1) := by decide +kernel
theorem r_X9_ahead_16 {x0 x1 x2 x3 : Value} {st : List Value} {h : AH} : Run M_X9_ahead 16 [x0, x1, x2, x3] st h = Run M_X9_ahead 17 [x0, x1, x2, x3] (.int (nI 0) :: st) h := R_iconst d_X9_ahead_16 (by decide)
theorem d_X9_ahead_17 : decode (mB M_X9_ahead) 17 = .ok (.istore_n 3, 1) := by decide +kernel
theorem r_X9_ahead_17 {x0 x1 x2 x3 : Value} {a : Int32} {st : List Value} {h : AH} (hc : x2.category = 1) : Run M_X9_ahead 17 [x0, x1, x2, x3] (.int a :: st) h = Run M_X9_ahead 18 [x0, x1, x2, .int a] st h := R_istore_n d_X9_ahead_17 (Nat.lt_of_lt_of_le (by decide : 3 < 4) (Nat.le_refl 4)) (catP_of rfl hc)
theorem d_X9_ahead_18 : decode (mB M_X9_ahead) 18 = .ok (.iload_n 3, 1) := by decide +kernel
theorem r_X9_ahead_18 {x0 x1 x2 : Value} {a : Int32} {st : List Value} {h : AH} : Run M_X9_ahead 18 [x0, x1, x2, .int a] st h = Run M_X9_ahead 19 [x0, x1, x2, .int a] (.int a :: st) h := R_iload_n d_X9_ahead_18 rfl
theorem d_X9_ahead_19 : decode (mB M_X9_ahead) 19 = .ok (.aload_n 0, 1) := by decide +kernel
theorem r_X9_ahead_19 {x1 x2 x3 : Value} {a : Nat} {st : List Value} {h : AH} : Run M_X9_ahead 19 [.ref a, x1, x2, x3] st h = Run M_X9_ahead 20 [.ref a, x1, x2, x3] (.ref a :: st) h := R_aload_n d_X9_ahead_19 rfl
theorem d_X9_ahead_20 : decode (mB M_X9_ahead) 20 = .ok (.getfield 185, 3) := by decide +kernel
theorem r_X9_ahead_20 {x0 x1 x2 x3 : Value} {a : Nat} {st : List Value} {h : AH} : Run M_X9_ahead 20 [x0, x1, x2, x3] (.ref a :: st) h = if (gF h a 9 36).isSome = true then Run M_X9_ahead 23 [x0, x1, x2, x3] ((gF h a 9 36).getD .null :: st) h else none := R_getfield d_X9_ahead_20 rfl
theorem d_X9_ahead_23 : decode (mB M_X9_ahead) 23 = .ok (.if_icmp .ge 31, 3) := by decide +kernel
theorem r_X9_ahead_23 {x0 x1 x2 x3 : Value} {x y : Int32} {st : List Value} {h : AH} : Run M_X9_ahead 23 [x0, x1, x2, x3] (.int y :: .int x :: st) h = if y ≤ x then Run M_X9_ahead 54 [x0, x1, x2, x3] st h else Run M_X9_ahead 26 [x0, x1, x2, x3] st h := R_icmp_ge d_X9_ahead_23 (by decide)
theorem d_X9_ahead_26 : decode (mB M_X9_ahead) 26 = .ok (.iload_n 2, 1) := by decide +kernel
theorem r_X9_ahead_26 {x0 x1 x3 : Value} {a : Int32} {st : List Value} {h : AH} : Run M_X9_ahead 26 [x0, x1, .int a, x3] st h = Run M_X9_ahead 27 [x0, x1, .int a, x3] (.int a :: st) h := R_iload_n d_X9_ahead_26 rfl
theorem d_X9_ahead_27 : decode (mB M_X9_ahead) 27 = .ok (.aload_n 0, 1) := by decide +kernel
theorem r_X9_ahead_27 {x1 x2 x3 : Value} {a : Nat} {st : List Value} {h : AH} : Run M_X9_ahead 27 [.ref a, x1, x2, x3] st h = Run M_X9_ahead 28 [.ref a, x1, x2, x3] (.ref a :: st) h := R_aload_n d_X9_ahead_27 rfl
theorem d_X9_ahead_28 : decode (mB M_X9_ahead) 28 = .ok (.getfield 76, 3) := by decide +kernel
theorem r_X9_ahead_28 {x0 x1 x2 x3 : Value} {a : Nat} {st : List Value} {h : AH} : Run M_X9_ahead 28 [x0, x1, x2, x3] (.ref a :: st) h = if (gF h a 9 37).isSome = true then Run M_X9_ahead 31 [x0, x1, x2, x3] ((gF h a 9 37).getD .null :: st) h else none := R_getfield d_X9_ahead_28 rfl
theorem d_X9_ahead_31 : decode (mB M_X9_ahead) 31 = .ok (.iconst 2, 1) := by decide +kernel
theorem r_X9_ahead_31 {x0 x1 x2 x3 : Value} {st : List Value} {h : AH} : Run M_X9_ahead 31 [x0, x1, x2, x3] st h = Run M_X9_ahead 32 [x0, x1, x2, x3] (.int (nI 2) :: st) h := R_iconst d_X9_ahead_31 (by decide)
theorem d_X9_ahead_32 : decode (mB M_X9_ahead) 32 = .ok (.iload_n 3, 1) := by decide +kernel
theorem r_X9_ahead_32 {x0 x1 x2 : Value} {a : Int32} {st : List Value} {h : AH} : Run M_X9_ahead 32 [x0, x1, x2, .int a] st h = Run M_X9_ahead 33 [x0, x1, x2, .int a] (.int a :: st) h := R_iload_n d_X9_ahead_32 rfl
theorem d_X9_ahead_33 : decode (mB M_X9_ahead) 33 = .ok (.imul, 1) := by decide +kernel
theorem r_X9_ahead_33 {x0 x1 x2 x3 : Value} {x y : Int32} {st : List Value} {h : AH} : Run M_X9_ahead 33 [x0, x1, x2, x3] (.int y :: .int x :: st) h = Run M_X9_ahead 34 [x0, x1, x2, x3] (.int (x * y) :: st) h := R_imul d_X9_ahead_33
theorem d_X9_ahead_34 : decode (mB M_X9_ahead) 34 = .ok (.iconst 1, 1) := by decide +kernel
theorem r_X9_ahead_34 {x0 x1 x2 x3 : Value} {st : List Value} {h : AH} : Run M_X9_ahead 34 [x0, x1, x2, x3] st h = Run M_X9_ahead 35 [x0, x1, x2, x3] (.int (nI 1) :: st) h := R_iconst d_X9_ahead_34 (by decide)
theorem d_X9_ahead_35 : decode (mB M_X9_ahead) 35 = .ok (.iadd, 1) := by decide +kernel
theorem r_X9_ahead_35 {x0 x1 x2 x3 : Value} {x y : Int32} {st : List Value} {h : AH} : Run M_X9_ahead 35 [x0, x1, x2, x3] (.int y :: .int x :: st) h = Run M_X9_ahead 36 [x0, x1, x2, x3] (.int (x + y) :: st) h := R_iadd d_X9_ahead_35
theorem d_X9_ahead_36 : decode (mB M_X9_ahead) 36 = .ok (.iaload, 1) := by decide +kernel
theorem r_X9_ahead_36 {x0 x1 x2 x3 : Value} {a : Nat} {i : Int32} {st : List Value} {h : AH} : Run M_X9_ahead 36 [x0, x1, x2, x3] (.int i :: .ref a :: st) h = if (gI 0 h a i).isSome = true then Run M_X9_ahead 37 [x0, x1, x2, x3] (.int ((gI 0 h a i).getD 0) :: st) h else none := R_iaload d_X9_ahead_36
theorem d_X9_ahead_37 : decode (mB M_X9_ahead) 37 = .ok (.iload_n 1, 1) := by decide +kernel
theorem r_X9_ahead_37 {x0 x2 x3 : Value} {a : Int32} {st : List Value} {h : AH} : Run M_X9_ahead 37 [x0, .int a, x2, x3] st h = Run M_X9_ahead 38 [x0, .int a, x2, x3] (.int a :: st) h := R_iload_n d_X9_ahead_37 rfl
theorem d_X9_ahead_38 : decode (mB M_X9_ahead) 38 = .ok (.if_icmp .ge 7, 3) := by decide +kernel
theorem r_X9_ahead_38 {x0 x1 x2 x3 : Value} {x y : Int32} {st : List Value} {h : AH} : Run M_X9_ahead 38 [x0, x1, x2, x3] (.int y :: .int x :: st) h = if y ≤ x then Run M_X9_ahead 45 [x0, x1, x2, x3] st h else Run M_X9_ahead 41 [x0, x1, x2, x3] st h := R_icmp_ge d_X9_ahead_38 (by decide)
theorem d_X9_ahead_41 : decode (mB M_X9_ahead) 41 = .ok (.iconst 1, 1) := by decide +kernel
theorem r_X9_ahead_41 {x0 x1 x2 x3 : Value} {st : List Value} {h : AH} : Run M_X9_ahead 41 [x0, x1, x2, x3] st h = Run M_X9_ahead 42 [x0, x1, x2, x3] (.int (nI 1) :: st) h := R_iconst d_X9_ahead_41 (by decide)
theorem d_X9_ahead_42 : decode (mB M_X9_ahead) 42 = .ok (.goto 4, 3) := by decide +kernel
theorem r_X9_ahead_42 {x0 x1 x2 x3 : Value} {st : List Value} {h : AH} : Run M_X9_ahead 42 [x0, x1, x2, x3] st h = Run M_X9_ahead 46 [x0, x1, x2, x3] st h := R_goto d_X9_ahead_42 (by decide)
theorem d_X9_ahead_45 : decode (mB M_X9_ahead) 45 = .ok (.iconst 0, 1) := by decide +kernel
theorem r_X9_ahead_45 {x0 x1 x2 x3 : Value} {st : List Value} {h : AH} : Run M_X9_ahead 45 [x0, x1, x2, x3] st h = Run M_X9_ahead 46 [x0, x1, x2, x3] (.int (nI 0) :: st) h := R_iconst d_X9_ahead_45 (by decide)
theorem d_X9_ahead_46 : decode (mB M_X9_ahead) 46 = .ok (.iadd, 1) := by decide +kernel
theorem r_X9_ahead_46 {x0 x1 x2 x3 : Value} {x y : Int32} {st : List Value} {h : AH} : Run M_X9_ahead 46 [x0, x1, x2, x3] (.int y :: .int x :: st) h = Run M_X9_ahead 47 [x0, x1, x2, x3] (.int (x + y) :: st) h := R_iadd d_X9_ahead_46
theorem d_X9_ahead_47 : decode (mB M_X9_ahead) 47 = .ok (.istore_n 2, 1) := by decide +kernel
theorem r_X9_ahead_47 {x0 x1 x2 x3 : Value} {a : Int32} {st : List Value} {h : AH} (hc : x1.category = 1) : Run M_X9_ahead 47 [x0, x1, x2, x3] (.int a :: st) h = Run M_X9_ahead 48 [x0, x1, .int a, x3] st h := R_istore_n d_X9_ahead_47 (Nat.lt_of_lt_of_le (by decide : 2 < 4) (Nat.le_refl 4)) (catP_of rfl hc)
theorem d_X9_ahead_48 : decode (mB M_X9_ahead) 48 = .ok (.iinc 3 1, 3) := by decide +kernel
theorem r_X9_ahead_48 {x0 x1 x2 : Value} {a : Int32} {st : List Value} {h : AH} (hc : x2.category = 1) : Run M_X9_ahead 48 [x0, x1, x2, .int a] st h = Run M_X9_ahead 51 [x0, x1, x2, .int (a + (nI 1))] st h := R_iinc d_X9_ahead_48 (by decide) rfl (catP_of rfl hc)
theorem d_X9_ahead_51 : decode (mB M_X9_ahead) 51 = .ok (.goto (-33), 3) := by decide +kernel
theorem r_X9_ahead_51 {x0 x1 x2 x3 : Value} {st : List Value} {h : AH} : Run M_X9_ahead 51 [x0, x1, x2, x3] st h = Run M_X9_ahead 18 [x0, x1, x2, x3] st h := R_goto d_X9_ahead_51 (by decide)
theorem d_X9_ahead_54 : decode (mB M_X9_ahead) 54 = .ok (.iload_n 2, 1) := by decide +kernel
theorem r_X9_ahead_54 {x0 x1 x3 : Value} {a : Int32} {st : List Value} {h : AH} : Run M_X9_ahead 54 [x0, x1, .int a, x3] st h = Run M_X9_ahead 55 [x0, x1, .int a, x3] (.int a :: st) h := R_iload_n d_X9_ahead_54 rfl
theorem d_X9_ahead_55 : decode (mB M_X9_ahead) 55 = .ok (.ireturn, 1) := by decide +kernel
theorem r_X9_ahead_55 {x0 x1 x2 x3 : Value} {v : Int32} {h : AH} : Run M_X9_ahead 55 [x0, x1, x2, x3] [.int v] h = some (h, some (.int v)) := R_ireturn d_X9_ahead_55 rfl rfl
theorem d_X9_write_0 : decode (mB M_X9_write) 0 = .ok (.aload_n 0, 1) := by decide +kernel
theorem r_X9_write_0 {x1 x2 : Value} {a : Nat} {st : List Value} {h : AH} : Run M_X9_write 0 [.ref a, x1, x2] st h = Run M_X9_write 1 [.ref a, x1, x2] (.ref a :: st) h := R_aload_n d_X9_write_0 rfl
theorem d_X9_write_1 : decode (mB M_X9_write) 1 = .ok (.iload_n 1, 1) := by decide +kernel
theorem r_X9_write_1 {x0 x2 : Value} {a : Int32} {st : List Value} {h : AH} : Run M_X9_write 1 [x0, .int a, x2] st h = Run M_X9_write 2 [x0, .int a, x2] (.int a :: st) h := R_iload_n d_X9_write_1 rfl
theorem d_X9_write_2 : decode (mB M_X9_write) 2 = .ok (.invokevirtual 191, 3) := by decide +kernel
theorem r_X9_write_2 {x0 x1 x2 : Value} {p0 : Int32} {a : Nat} {h : AH} : Run M_X9_write 2 [x0, x1, x2] (.int p0 :: .ref a :: []) h = if refO h 9 (some (.ref a)) = true then (if (Call M_X9_isPart h [.ref a, .int p0]).isSome = true then Run M_X9_write 5 [x0, x1, x2] (rL (Call M_X9_isPart h [.ref a, .int p0]) ++ []) (cH (Call M_X9_isPart h [.ref a, .int p0])) else none) else none := R_virt d_X9_write_2 rfl rfl rfl rfl rfl (Nat.le_of_ble_eq_true rfl)
theorem d_X9_write_5 : decode (mB M_X9_write) 5 = .ok (.ifCond .ne 6, 3) := by decide +kernel
theorem r_X9_write_5 {x0 x1 x2 : Value} {x : Int32} {st : List Value} {h : AH} : Run M_X9_write 5 [x0, x1, x2] (.int x :: st) h = if x = nI 0 then Run M_X9_write 8 [x0, x1, x2] st h else Run M_X9_write 11 [x0, x1, x2] st h := R_if_ne d_X9_write_5 (by decide)
theorem d_X9_write_8 : decode (mB M_X9_write) 8 = .ok (.ldc 195, 2) := by decide +kernel
theorem r_X9_write_8 {x0 x1 x2 : Value} {st : List Value} {h : AH} : Run M_X9_write 8 [x0, x1, x2] st h = Run M_X9_write 10 [x0, x1, x2] (.int (-1000000001) :: st) h := R_ldc d_X9_write_8 (by decide)
theorem d_X9_write_10 : decode (mB M_X9_write) 10 = .ok (.ireturn, 1) := by decide +kernel
theorem r_X9_write_10 {x0 x1 x2 : Value} {v : Int32} {h : AH} : Run M_X9_write 10 [x0, x1, x2] [.int v] h = some (h, some (.int v)) := R_ireturn d_X9_write_10 rfl rfl
theorem d_X9_write_11 : decode (mB M_X9_write) 11 = .ok (.iload_n 2, 1) := by decide +kernel
theorem r_X9_write_11 {x0 x1 : Value} {a : Int32} {st : List Value} {h : AH} : Run M_X9_write 11 [x0, x1, .int a] st h = Run M_X9_write 12 [x0, x1, .int a] (.int a :: st) h := R_iload_n d_X9_write_11 rfl
theorem d_X9_write_12 : decode (mB M_X9_write) 12 = .ok (.iconst 0, 1) := by decide +kernel
theorem r_X9_write_12 {x0 x1 x2 : Value} {st : List Value} {h : AH} : Run M_X9_write 12 [x0, x1, x2] st h = Run M_X9_write 13 [x0, x1, x2] (.int (nI 0) :: st) h := R_iconst d_X9_write_12 (by decide)
theorem d_X9_write_13 : decode (mB M_X9_write) 13 = .ok (.bipush 60, 2) := by decide +kernel
theorem r_X9_write_13 {x0 x1 x2 : Value} {st : List Value} {h : AH} : Run M_X9_write 13 [x0, x1, x2] st h = Run M_X9_write 15 [x0, x1, x2] (.int (nI 60) :: st) h := R_bipush d_X9_write_13 (by decide)
theorem d_X9_write_15 : decode (mB M_X9_write) 15 = .ok (.invokestatic 85, 3) := by decide +kernel
theorem r_X9_write_15 {x0 x1 x2 : Value} {p0 : Int32} {p1 : Int32} {p2 : Int32} {h : AH} : Run M_X9_write 15 [x0, x1, x2] (.int p2 :: .int p1 :: .int p0 :: []) h = if (Call M_X9_in h [.int p0, .int p1, .int p2]).isSome = true then Run M_X9_write 18 [x0, x1, x2] (rL (Call M_X9_in h [.int p0, .int p1, .int p2]) ++ []) (cH (Call M_X9_in h [.int p0, .int p1, .int p2])) else none := R_stat d_X9_write_15 rfl rfl rfl rfl (Nat.le_of_ble_eq_true rfl)
theorem d_X9_write_18 : decode (mB M_X9_write) 18 = .ok (.ifCond .ne 6, 3) := by decide +kernel
theorem r_X9_write_18 {x0 x1 x2 : Value} {x : Int32} {st : List Value} {h : AH} : Run M_X9_write 18 [x0, x1, x2] (.int x :: st) h = if x = nI 0 then Run M_X9_write 21 [x0, x1, x2] st h else Run M_X9_write 24 [x0, x1, x2] st h := R_if_ne d_X9_write_18 (by decide)
theorem d_X9_write_21 : decode (mB M_X9_write) 21 = .ok (.ldc 92, 2) := by decide +kernel
theorem r_X9_write_21 {x0 x1 x2 : Value} {st : List Value} {h : AH} : Run M_X9_write 21 [x0, x1, x2] st h = Run M_X9_write 23 [x0, x1, x2] (.int (-1000000002) :: st) h := R_ldc d_X9_write_21 (by decide)
theorem d_X9_write_23 : decode (mB M_X9_write) 23 = .ok (.ireturn, 1) := by decide +kernel
theorem r_X9_write_23 {x0 x1 x2 : Value} {v : Int32} {h : AH} : Run M_X9_write 23 [x0, x1, x2] [.int v] h = some (h, some (.int v)) := R_ireturn d_X9_write_23 rfl rfl
theorem d_X9_write_24 : decode (mB M_X9_write) 24 = .ok (.aload_n 0, 1) := by decide +kernel
theorem r_X9_write_24 {x1 x2 : Value} {a : Nat} {st : List Value} {h : AH} : Run M_X9_write 24 [.ref a, x1, x2] st h = Run M_X9_write 25 [.ref a, x1, x2] (.ref a :: st) h := R_aload_n d_X9_write_24 rfl
theorem d_X9_write_25 : decode (mB M_X9_write) 25 = .ok (.getfield 188, 3) := by decide +kernel
theorem r_X9_write_25 {x0 x1 x2 : Value} {a : Nat} {st : List Value} {h : AH} : Run M_X9_write 25 [x0, x1, x2] (.ref a :: st) h = if (gF h a 9 38).isSome = true then Run M_X9_write 28 [x0, x1, x2] ((gF h a 9 38).getD .null :: st) h else none := R_getfield d_X9_write_25 rfl
theorem d_X9_write_28 : decode (mB M_X9_write) 28 = .ok (.bipush 20, 2) := by decide +kernel
theorem r_X9_write_28 {x0 x1 x2 : Value} {st : List Value} {h : AH} : Run M_X9_write 28 [x0, x1, x2] st h = Run M_X9_write 30 [x0, x1, x2] (.int (nI 20) :: st) h := R_bipush d_X9_write_28 (by decide)
theorem d_X9_write_30 : decode (mB M_X9_write) 30 = .ok (.if_icmp .ne 6, 3) := by decide +kernel
theorem r_X9_write_30 {x0 x1 x2 : Value} {x y : Int32} {st : List Value} {h : AH} : Run M_X9_write 30 [x0, x1, x2] (.int y :: .int x :: st) h = if x = y then Run M_X9_write 33 [x0, x1, x2] st h else Run M_X9_write 36 [x0, x1, x2] st h := R_icmp_ne d_X9_write_30 (by decide)
theorem d_X9_write_33 : decode (mB M_X9_write) 33 = .ok (.ldc 96, 2) := by decide +kernel
theorem r_X9_write_33 {x0 x1 x2 : Value} {st : List Value} {h : AH} : Run M_X9_write 33 [x0, x1, x2] st h = Run M_X9_write 35 [x0, x1, x2] (.int (-1000000004) :: st) h := R_ldc d_X9_write_33 (by decide)
theorem d_X9_write_35 : decode (mB M_X9_write) 35 = .ok (.ireturn, 1) := by decide +kernel
theorem r_X9_write_35 {x0 x1 x2 : Value} {v : Int32} {h : AH} : Run M_X9_write 35 [x0, x1, x2] [.int v] h = some (h, some (.int v)) := R_ireturn d_X9_write_35 rfl rfl
theorem d_X9_write_36 : decode (mB M_X9_write) 36 = .ok (.aload_n 0, 1) := by decide +kernel
theorem r_X9_write_36 {x1 x2 : Value} {a : Nat} {st : List Value} {h : AH} : Run M_X9_write 36 [.ref a, x1, x2] st h = Run M_X9_write 37 [.ref a, x1, x2] (.ref a :: st) h := R_aload_n d_X9_write_36 rfl
theorem d_X9_write_37 : decode (mB M_X9_write) 37 = .ok (.getfield 79, 3) := by decide +kernel
theorem r_X9_write_37 {x0 x1 x2 : Value} {a : Nat} {st : List Value} {h : AH} : Run M_X9_write 37 [x0, x1, x2] (.ref a :: st) h = if (gF h a 9 39).isSome = true then Run M_X9_write 40 [x0, x1, x2] ((gF h a 9 39).getD .null :: st) h else none := R_getfield d_X9_write_37 rfl
theorem d_X9_write_40 : decode (mB M_X9_write) 40 = .ok (.iconst 2, 1) := by decide +kernel
theorem r_X9_write_40 {x0 x1 x2 : Value} {st : List Value} {h : AH} : Run M_X9_write 40 [x0, x1, x2] st h = Run M_X9_write 41 [x0, x1, x2] (.int (nI 2) :: st) h := R_iconst d_X9_write_40 (by decide)
theorem d_X9_write_41 : decode (mB M_X9_write) 41 = .ok (.aload_n 0, 1) := by decide +kernel
theorem r_X9_write_41 {x1 x2 : Value} {a : Nat} {st : List Value} {h : AH} : Run M_X9_write 41 [.ref a, x1, x2] st h = Run M_X9_write 42 [.ref a, x1, x2] (.ref a :: st) h := R_aload_n d_X9_write_41 rfl
theorem d_X9_write_42 : decode (mB M_X9_write) 42 = .ok (.getfield 188, 3) := by decide +kernel
theorem r_X9_write_42 {x0 x1 x2 : Value} {a : Nat} {st : List Value} {h : AH} : Run M_X9_write 42 [x0, x1, x2] (.ref a :: st) h = if (gF h a 9 38).isSome = true then Run M_X9_write 45 [x0, x1, x2] ((gF h a 9 38).getD .null :: st) h else none := R_getfield d_X9_write_42 rfl
theorem d_X9_write_45 : decode (mB M_X9_write) 45 = .ok (.imul, 1) := by decide +kernel
theorem r_X9_write_45 {x0 x1 x2 : Value} {x y : Int32} {st : List Value} {h : AH} : Run M_X9_write 45 [x0, x1, x2] (.int y :: .int x :: st) h = Run M_X9_write 46 [x0, x1, x2] (.int (x * y) :: st) h := R_imul d_X9_write_45
theorem d_X9_write_46 : decode (mB M_X9_write) 46 = .ok (.iload_n 1, 1) := by decide +kernel
theorem r_X9_write_46 {x0 x2 : Value} {a : Int32} {st : List Value} {h : AH} : Run M_X9_write 46 [x0, .int a, x2] st h = Run M_X9_write 47 [x0, .int a, x2] (.int a :: st) h := R_iload_n d_X9_write_46 rfl
theorem d_X9_write_47 : decode (mB M_X9_write) 47 = .ok (.iastore, 1) := by decide +kernel
theorem r_X9_write_47 {x0 x1 x2 : Value} {a : Nat} {i x : Int32} {st : List Value} {h : AH} : Run M_X9_write 47 [x0, x1, x2] (.int x :: .int i :: .ref a :: st) h = if (pI 0 h a i x).isSome = true then Run M_X9_write 48 [x0, x1, x2] st ((pI 0 h a i x).getD h) else none := R_iastore d_X9_write_47
theorem d_X9_write_48 : decode (mB M_X9_write) 48 = .ok (.aload_n 0, 1) := by decide +kernel
theorem r_X9_write_48 {x1 x2 : Value} {a : Nat} {st : List Value} {h : AH} : Run M_X9_write 48 [.ref a, x1, x2] st h = Run M_X9_write 49 [.ref a, x1, x2] (.ref a :: st) h := R_aload_n d_X9_write_48 rfl
theorem d_X9_write_49 : decode (mB M_X9_write) 49 = .ok (.getfield 79, 3) := by decide +kernel
theorem r_X9_write_49 {x0 x1 x2 : Value} {a : Nat} {st : List Value} {h : AH} : Run M_X9_write 49 [x0, x1, x2] (.ref a :: st) h = if (gF h a 9 39).isSome = true then Run M_X9_write 52 [x0, x1, x2] ((gF h a 9 39).getD .null :: st) h else none := R_getfield d_X9_write_49 rfl
theorem d_X9_write_52 : decode (mB M_X9_write) 52 = .ok (.iconst 2, 1) := by decide +kernel
theorem r_X9_write_52 {x0 x1 x2 : Value} {st : List Value} {h : AH} : Run M_X9_write 52 [x0, x1, x2] st h = Run M_X9_write 53 [x0, x1, x2] (.int (nI 2) :: st) h := R_iconst d_X9_write_52 (by decide)
theorem d_X9_write_53 : decode (mB M_X9_write) 53 = .ok (.aload_n 0, 1) := by decide +kernel
theorem r_X9_write_53 {x1 x2 : Value} {a : Nat} {st : List Value} {h : AH} : Run M_X9_write 53 [.ref a, x1, x2] st h = Run M_X9_write 54 [.ref a, x1, x2] (.ref a :: st) h := R_aload_n d_X9_write_53 rfl
theorem d_X9_write_54 : decode (mB M_X9_write) 54 = .ok (.getfield 188, 3) := by decide +kernel
theorem r_X9_write_54 {x0 x1 x2 : Value} {a : Nat} {st : List Value} {h : AH} : Run M_X9_write 54 [x0, x1, x2] (.ref a :: st) h = if (gF h a 9 38).isSome = true then Run M_X9_write 57 [x0, x1, x2] ((gF h a 9 38).getD .null :: st) h else none := R_getfield d_X9_write_54 rfl
theorem d_X9_write_57 : decode (mB M_X9_write) 57 = .ok (.imul, 1) := by decide +kernel
theorem r_X9_write_57 {x0 x1 x2 : Value} {x y : Int32} {st : List Value} {h : AH} : Run M_X9_write 57 [x0, x1, x2] (.int y :: .int x :: st) h = Run M_X9_write 58 [x0, x1, x2] (.int (x * y) :: st) h := R_imul d_X9_write_57
theorem d_X9_write_58 : decode (mB M_X9_write) 58 = .ok (.iconst 1, 1) := by decide +kernel
theorem r_X9_write_58 {x0 x1 x2 : Value} {st : List Value} {h : AH} : Run M_X9_write 58 [x0, x1, x2] st h = Run M_X9_write 59 [x0, x1, x2] (.int (nI 1) :: st) h := R_iconst d_X9_write_58 (by decide)
theorem d_X9_write_59 : decode (mB M_X9_write) 59 = .ok (.iadd, 1) := by decide +kernel
theorem r_X9_write_59 {x0 x1 x2 : Value} {x y : Int32} {st : List Value} {h : AH} : Run M_X9_write 59 [x0, x1, x2] (.int y :: .int x :: st) h = Run M_X9_write 60 [x0, x1, x2] (.int (x + y) :: st) h := R_iadd d_X9_write_59
theorem d_X9_write_60 : decode (mB M_X9_write) 60 = .ok (.iload_n 2, 1) := by decide +kernel
theorem r_X9_write_60 {x0 x1 : Value} {a : Int32} {st : List Value} {h : AH} : Run M_X9_write 60 [x0, x1, .int a] st h = Run M_X9_write 61 [x0, x1, .int a] (.int a :: st) h := R_iload_n d_X9_write_60 rfl
theorem d_X9_write_61 : decode (mB M_X9_write) 61 = .ok (.iastore, 1) := by decide +kernel
theorem r_X9_write_61 {x0 x1 x2 : Value} {a : Nat} {i x : Int32} {st : List Value} {h : AH} : Run M_X9_write 61 [x0, x1, x2] (.int x :: .int i :: .ref a :: st) h = if (pI 0 h a i x).isSome = true then Run M_X9_write 62 [x0, x1, x2] st ((pI 0 h a i x).getD h) else none := R_iastore d_X9_write_61
theorem d_X9_write_62 : decode (mB M_X9_write) 62 = .ok (.aload_n 0, 1) := by decide +kernel
theorem r_X9_write_62 {x1 x2 : Value} {a : Nat} {st : List Value} {h : AH} : Run M_X9_write 62 [.ref a, x1, x2] st h = Run M_X9_write 63 [.ref a, x1, x2] (.ref a :: st) h := R_aload_n d_X9_write_62 rfl
theorem d_X9_write_63 : decode (mB M_X9_write) 63 = .ok (.dup, 1) := by decide +kernel
theorem r_X9_write_63 {x0 x1 x2 : Value} {x : Nat} {st : List Value} {h : AH} : Run M_X9_write 63 [x0, x1, x2] (.ref x :: st) h = Run M_X9_write 64 [x0, x1, x2] (.ref x :: .ref x :: st) h := R_dupr d_X9_write_63
theorem d_X9_write_64 : decode (mB M_X9_write) 64 = .ok (.getfield 188, 3) := by decide +kernel
theorem r_X9_write_64 {x0 x1 x2 : Value} {a : Nat} {st : List Value} {h : AH} : Run M_X9_write 64 [x0, x1, x2] (.ref a :: st) h = if (gF h a 9 38).isSome = true then Run M_X9_write 67 [x0, x1, x2] ((gF h a 9 38).getD .null :: st) h else none := R_getfield d_X9_write_64 rfl
theorem d_X9_write_67 : decode (mB M_X9_write) 67 = .ok (.iconst 1, 1) := by decide +kernel
theorem r_X9_write_67 {x0 x1 x2 : Value} {st : List Value} {h : AH} : Run M_X9_write 67 [x0, x1, x2] st h = Run M_X9_write 68 [x0, x1, x2] (.int (nI 1) :: st) h := R_iconst d_X9_write_67 (by decide)
theorem d_X9_write_68 : decode (mB M_X9_write) 68 = .ok (.iadd, 1) := by decide +kernel
theorem r_X9_write_68 {x0 x1 x2 : Value} {x y : Int32} {st : List Value} {h : AH} : Run M_X9_write 68 [x0, x1, x2] (.int y :: .int x :: st) h = Run M_X9_write 69 [x0, x1, x2] (.int (x + y) :: st) h := R_iadd d_X9_write_68
theorem d_X9_write_69 : decode (mB M_X9_write) 69 = .ok (.putfield 188, 3) := by decide +kernel
theorem r_X9_write_69 {x0 x1 x2 : Value} {v : Int32} {a : Nat} {st : List Value} {h : AH} : Run M_X9_write 69 [x0, x1, x2] (.int v :: .ref a :: st) h = if (pF h a 9 38 (.int v)).isSome = true then Run M_X9_write 72 [x0, x1, x2] st ((pF h a 9 38 (.int v)).getD h) else none := R_putfield d_X9_write_69 rfl (okP_int rfl rfl)
theorem d_X9_write_72 : decode (mB M_X9_write) 72 = .ok (.aload_n 0, 1) := by decide +kernel
theorem r_X9_write_72 {x1 x2 : Value} {a : Nat} {st : List Value} {h : AH} : Run M_X9_write 72 [.ref a, x1, x2] st h = Run M_X9_write 73 [.ref a, x1, x2] (.ref a :: st) h := R_aload_n d_X9_write_72 rfl
theorem d_X9_write_73 : decode (mB M_X9_write) 73 = .ok (.getfield 188, 3) := by decide +kernel
theorem r_X9_write_73 {x0 x1 x2 : Value} {a : Nat} {st : List Value} {h : AH} : Run M_X9_write 73 [x0, x1, x2] (.ref a :: st) h = if (gF h a 9 38).isSome = true then Run M_X9_write 76 [x0, x1, x2] ((gF h a 9 38).getD .null :: st) h else none := R_getfield d_X9_write_73 rfl
theorem d_X9_write_76 : decode (mB M_X9_write) 76 = .ok (.ireturn, 1) := by decide +kernel
theorem r_X9_write_76 {x0 x1 x2 : Value} {v : Int32} {h : AH} : Run M_X9_write 76 [x0, x1, x2] [.int v] h = some (h, some (.int v)) := R_ireturn d_X9_write_76 rfl rfl
theorem d_X9_mayLast_0 : decode (mB M_X9_mayLast) 0 = .ok (.iload_n 2, 1) := by decide +kernel
theorem r_X9_mayLast_0 {x0 x1 x3 x4 : Value} {a : Int32} {st : List Value} {h : AH} : Run M_X9_mayLast 0 [x0, x1, .int a, x3, x4] st h = Run M_X9_mayLast 1 [x0, x1, .int a, x3, x4] (.int a :: st) h := R_iload_n d_X9_mayLast_0 rfl
theorem d_X9_mayLast_1 : decode (mB M_X9_mayLast) 1 = .ok (.ifCond .ne 16, 3) := by decide +kernel
theorem r_X9_mayLast_1 {x0 x1 x2 x3 x4 : Value} {x : Int32} {st : List Value} {h : AH} : Run M_X9_mayLast 1 [x0, x1, x2, x3, x4] (.int x :: st) h = if x = nI 0 then Run M_X9_mayLast 4 [x0, x1, x2, x3, x4] st h else Run M_X9_mayLast 17 [x0, x1, x2, x3, x4] st h := R_if_ne d_X9_mayLast_1 (by decide)
theorem d_X9_mayLast_4 : decode (mB M_X9_mayLast) 4 = .ok (.aload_n 0, 1) := by decide +kernel
theorem r_X9_mayLast_4 {x1 x2 x3 x4 : Value} {a : Nat} {st : List Value} {h : AH} : Run M_X9_mayLast 4 [.ref a, x1, x2, x3, x4] st h = Run M_X9_mayLast 5 [.ref a, x1, x2, x3, x4] (.ref a :: st) h := R_aload_n d_X9_mayLast_4 rfl
theorem d_X9_mayLast_5 : decode (mB M_X9_mayLast) 5 = .ok (.getfield 23, 3) := by decide +kernel
theorem r_X9_mayLast_5 {x0 x1 x2 x3 x4 : Value} {a : Nat} {st : List Value} {h : AH} : Run M_X9_mayLast 5 [x0, x1, x2, x3, x4] (.ref a :: st) h = if (gF h a 9 5).isSome = true then Run M_X9_mayLast 8 [x0, x1, x2, x3, x4] ((gF h a 9 5).getD .null :: st) h else none := R_getfield d_X9_mayLast_5 rfl
theorem d_X9_mayLast_8 : decode (mB M_X9_mayLast) 8 = .ok (.iload_n 1, 1) := by decide +kernel
theorem r_X9_mayLast_8 {x0 x2 x3 x4 : Value} {a : Int32} {st : List Value} {h : AH} : Run M_X9_mayLast 8 [x0, .int a, x2, x3, x4] st h = Run M_X9_mayLast 9 [x0, .int a, x2, x3, x4] (.int a :: st) h := R_iload_n d_X9_mayLast_8 rfl
theorem d_X9_mayLast_9 : decode (mB M_X9_mayLast) 9 = .ok (.iaload, 1) := by decide +kernel
theorem r_X9_mayLast_9 {x0 x1 x2 x3 x4 : Value} {a : Nat} {i : Int32} {st : List Value} {h : AH} : Run M_X9_mayLast 9 [x0, x1, x2, x3, x4] (.int i :: .ref a :: st) h = if (gI 0 h a i).isSome = true then Run M_X9_mayLast 10 [x0, x1, x2, x3, x4] (.int ((gI 0 h a i).getD 0) :: st) h else none := R_iaload d_X9_mayLast_9
theorem d_X9_mayLast_10 : decode (mB M_X9_mayLast) 10 = .ok (.ifCond .le 7, 3) := by decide +kernel
theorem r_X9_mayLast_10 {x0 x1 x2 x3 x4 : Value} {x : Int32} {st : List Value} {h : AH} : Run M_X9_mayLast 10 [x0, x1, x2, x3, x4] (.int x :: st) h = if x ≤ nI 0 then Run M_X9_mayLast 17 [x0, x1, x2, x3, x4] st h else Run M_X9_mayLast 13 [x0, x1, x2, x3, x4] st h := R_if_le d_X9_mayLast_10 (by decide)
theorem d_X9_mayLast_13 : decode (mB M_X9_mayLast) 13 = .ok (.iconst 1, 1) := by decide +kernel
theorem r_X9_mayLast_13 {x0 x1 x2 x3 x4 : Value} {st : List Value} {h : AH} : Run M_X9_mayLast 13 [x0, x1, x2, x3, x4] st h = Run M_X9_mayLast 14 [x0, x1, x2, x3, x4] (.int (nI 1) :: st) h := R_iconst d_X9_mayLast_13 (by decide)
theorem d_X9_mayLast_14 : decode (mB M_X9_mayLast) 14 = .ok (.goto 4, 3) := by decide +kernel
theorem r_X9_mayLast_14 {x0 x1 x2 x3 x4 : Value} {st : List Value} {h : AH} : Run M_X9_mayLast 14 [x0, x1, x2, x3, x4] st h = Run M_X9_mayLast 18 [x0, x1, x2, x3, x4] st h := R_goto d_X9_mayLast_14 (by decide)
theorem d_X9_mayLast_17 : decode (mB M_X9_mayLast) 17 = .ok (.iconst 0, 1) := by decide +kernel
theorem r_X9_mayLast_17 {x0 x1 x2 x3 x4 : Value} {st : List Value} {h : AH} : Run M_X9_mayLast 17 [x0, x1, x2, x3, x4] st h = Run M_X9_mayLast 18 [x0, x1, x2, x3, x4] (.int (nI 0) :: st) h := R_iconst d_X9_mayLast_17 (by decide)
theorem d_X9_mayLast_18 : decode (mB M_X9_mayLast) 18 = .ok (.istore_n 3, 1) := by decide +kernel
theorem r_X9_mayLast_18 {x0 x1 x2 x3 x4 : Value} {a : Int32} {st : List Value} {h : AH} (hc : x2.category = 1) : Run M_X9_mayLast 18 [x0, x1, x2, x3, x4] (.int a :: st) h = Run M_X9_mayLast 19 [x0, x1, x2, .int a, x4] st h := R_istore_n d_X9_mayLast_18 (Nat.lt_of_lt_of_le (by decide : 3 < 5) (Nat.le_refl 5)) (catP_of rfl hc)
theorem d_X9_mayLast_19 : decode (mB M_X9_mayLast) 19 = .ok (.iconst 0, 1) := by decide +kernel
theorem r_X9_mayLast_19 {x0 x1 x2 x3 x4 : Value} {st : List Value} {h : AH} : Run M_X9_mayLast 19 [x0, x1, x2, x3, x4] st h = Run M_X9_mayLast 20 [x0, x1, x2, x3, x4] (.int (nI 0) :: st) h := R_iconst d_X9_mayLast_19 (by decide)
theorem d_X9_mayLast_20 : decode (mB M_X9_mayLast) 20 = .ok (.istore 4, 2) := by decide +kernel
theorem r_X9_mayLast_20 {x0 x1 x2 x3 x4 : Value} {a : Int32} {st : List Value} {h : AH} (hc : x3.category = 1) : Run M_X9_mayLast 20 [x0, x1, x2, x3, x4] (.int a :: st) h = Run M_X9_mayLast 22 [x0, x1, x2, x3, .int a] st h := R_istore d_X9_mayLast_20 (Nat.lt_of_lt_of_le (by decide : 4 < 5) (Nat.le_refl 5)) (catP_of rfl hc)
theorem d_X9_mayLast_22 : decode (mB M_X9_mayLast) 22 = .ok (.iload 4, 2) := by decide +kernel
theorem r_X9_mayLast_22 {x0 x1 x2 x3 : Value} {a : Int32} {st : List Value} {h : AH} : Run M_X9_mayLast 22 [x0, x1, x2, x3, .int a] st h = Run M_X9_mayLast 24 [x0, x1, x2, x3, .int a] (.int a :: st) h := R_iload d_X9_mayLast_22 rfl
theorem d_X9_mayLast_24 : decode (mB M_X9_mayLast) 24 = .ok (.aload_n 0, 1) := by decide +kernel
theorem r_X9_mayLast_24 {x1 x2 x3 x4 : Value} {a : Nat} {st : List Value} {h : AH} : Run M_X9_mayLast 24 [.ref a, x1, x2, x3, x4] st h = Run M_X9_mayLast 25 [.ref a, x1, x2, x3, x4] (.ref a :: st) h := R_aload_n d_X9_mayLast_24 rfl
theorem d_X9_mayLast_25 : decode (mB M_X9_mayLast) 25 = .ok (.getfield 29, 3) := by decide +kernel
theorem r_X9_mayLast_25 {x0 x1 x2 x3 x4 : Value} {a : Nat} {st : List Value} {h : AH} : Run M_X9_mayLast 25 [x0, x1, x2, x3, x4] (.ref a :: st) h = if (gF h a 9 7).isSome = true then Run M_X9_mayLast 28 [x0, x1, x2, x3, x4] ((gF h a 9 7).getD .null :: st) h else none := R_getfield d_X9_mayLast_25 rfl
theorem d_X9_mayLast_28 : decode (mB M_X9_mayLast) 28 = .ok (.iload_n 1, 1) := by decide +kernel
theorem r_X9_mayLast_28 {x0 x2 x3 x4 : Value} {a : Int32} {st : List Value} {h : AH} : Run M_X9_mayLast 28 [x0, .int a, x2, x3, x4] st h = Run M_X9_mayLast 29 [x0, .int a, x2, x3, x4] (.int a :: st) h := R_iload_n d_X9_mayLast_28 rfl
theorem d_X9_mayLast_29 : decode (mB M_X9_mayLast) 29 = .ok (.iaload, 1) := by decide +kernel
theorem r_X9_mayLast_29 {x0 x1 x2 x3 x4 : Value} {a : Nat} {i : Int32} {st : List Value} {h : AH} : Run M_X9_mayLast 29 [x0, x1, x2, x3, x4] (.int i :: .ref a :: st) h = if (gI 0 h a i).isSome = true then Run M_X9_mayLast 30 [x0, x1, x2, x3, x4] (.int ((gI 0 h a i).getD 0) :: st) h else none := R_iaload d_X9_mayLast_29
theorem d_X9_mayLast_30 : decode (mB M_X9_mayLast) 30 = .ok (.if_icmp .ge 34, 3) := by decide +kernel
theorem r_X9_mayLast_30 {x0 x1 x2 x3 x4 : Value} {x y : Int32} {st : List Value} {h : AH} : Run M_X9_mayLast 30 [x0, x1, x2, x3, x4] (.int y :: .int x :: st) h = if y ≤ x then Run M_X9_mayLast 64 [x0, x1, x2, x3, x4] st h else Run M_X9_mayLast 33 [x0, x1, x2, x3, x4] st h := R_icmp_ge d_X9_mayLast_30 (by decide)
theorem d_X9_mayLast_33 : decode (mB M_X9_mayLast) 33 = .ok (.iload_n 3, 1) := by decide +kernel
theorem r_X9_mayLast_33 {x0 x1 x2 x4 : Value} {a : Int32} {st : List Value} {h : AH} : Run M_X9_mayLast 33 [x0, x1, x2, .int a, x4] st h = Run M_X9_mayLast 34 [x0, x1, x2, .int a, x4] (.int a :: st) h := R_iload_n d_X9_mayLast_33 rfl
theorem d_X9_mayLast_34 : decode (mB M_X9_mayLast) 34 = .ok (.ifCond .ne 18, 3) := by decide +kernel
theorem r_X9_mayLast_34 {x0 x1 x2 x3 x4 : Value} {x : Int32} {st : List Value} {h : AH} : Run M_X9_mayLast 34 [x0, x1, x2, x3, x4] (.int x :: st) h = if x = nI 0 then Run M_X9_mayLast 37 [x0, x1, x2, x3, x4] st h else Run M_X9_mayLast 52 [x0, x1, x2, x3, x4] st h := R_if_ne d_X9_mayLast_34 (by decide)
theorem d_X9_mayLast_37 : decode (mB M_X9_mayLast) 37 = .ok (.aload_n 0, 1) := by decide +kernel
theorem r_X9_mayLast_37 {x1 x2 x3 x4 : Value} {a : Nat} {st : List Value} {h : AH} : Run M_X9_mayLast 37 [.ref a, x1, x2, x3, x4] st h = Run M_X9_mayLast 38 [.ref a, x1, x2, x3, x4] (.ref a :: st) h := R_aload_n d_X9_mayLast_37 rfl
theorem d_X9_mayLast_38 : decode (mB M_X9_mayLast) 38 = .ok (.getfield 32, 3) := by decide +kernel
theorem r_X9_mayLast_38 {x0 x1 x2 x3 x4 : Value} {a : Nat} {st : List Value} {h : AH} : Run M_X9_mayLast 38 [x0, x1, x2, x3, x4] (.ref a :: st) h = if (gF h a 9 8).isSome = true then Run M_X9_mayLast 41 [x0, x1, x2, x3, x4] ((gF h a 9 8).getD .null :: st) h else none := R_getfield d_X9_mayLast_38 rfl
theorem d_X9_mayLast_41 : decode (mB M_X9_mayLast) 41 = .ok (.iconst 4, 1) := by decide +kernel
theorem r_X9_mayLast_41 {x0 x1 x2 x3 x4 : Value} {st : List Value} {h : AH} : Run M_X9_mayLast 41 [x0, x1, x2, x3, x4] st h = Run M_X9_mayLast 42 [x0, x1, x2, x3, x4] (.int (nI 4) :: st) h := R_iconst d_X9_mayLast_41 (by decide)
theorem d_X9_mayLast_42 : decode (mB M_X9_mayLast) 42 = .ok (.iload_n 1, 1) := by decide +kernel
theorem r_X9_mayLast_42 {x0 x2 x3 x4 : Value} {a : Int32} {st : List Value} {h : AH} : Run M_X9_mayLast 42 [x0, .int a, x2, x3, x4] st h = Run M_X9_mayLast 43 [x0, .int a, x2, x3, x4] (.int a :: st) h := R_iload_n d_X9_mayLast_42 rfl
theorem d_X9_mayLast_43 : decode (mB M_X9_mayLast) 43 = .ok (.imul, 1) := by decide +kernel
theorem r_X9_mayLast_43 {x0 x1 x2 x3 x4 : Value} {x y : Int32} {st : List Value} {h : AH} : Run M_X9_mayLast 43 [x0, x1, x2, x3, x4] (.int y :: .int x :: st) h = Run M_X9_mayLast 44 [x0, x1, x2, x3, x4] (.int (x * y) :: st) h := R_imul d_X9_mayLast_43
theorem d_X9_mayLast_44 : decode (mB M_X9_mayLast) 44 = .ok (.iload 4, 2) := by decide +kernel
theorem r_X9_mayLast_44 {x0 x1 x2 x3 : Value} {a : Int32} {st : List Value} {h : AH} : Run M_X9_mayLast 44 [x0, x1, x2, x3, .int a] st h = Run M_X9_mayLast 46 [x0, x1, x2, x3, .int a] (.int a :: st) h := R_iload d_X9_mayLast_44 rfl
theorem d_X9_mayLast_46 : decode (mB M_X9_mayLast) 46 = .ok (.iadd, 1) := by decide +kernel
theorem r_X9_mayLast_46 {x0 x1 x2 x3 x4 : Value} {x y : Int32} {st : List Value} {h : AH} : Run M_X9_mayLast 46 [x0, x1, x2, x3, x4] (.int y :: .int x :: st) h = Run M_X9_mayLast 47 [x0, x1, x2, x3, x4] (.int (x + y) :: st) h := R_iadd d_X9_mayLast_46
theorem d_X9_mayLast_47 : decode (mB M_X9_mayLast) 47 = .ok (.iaload, 1) := by decide +kernel
theorem r_X9_mayLast_47 {x0 x1 x2 x3 x4 : Value} {a : Nat} {i : Int32} {st : List Value} {h : AH} : Run M_X9_mayLast 47 [x0, x1, x2, x3, x4] (.int i :: .ref a :: st) h = if (gI 0 h a i).isSome = true then Run M_X9_mayLast 48 [x0, x1, x2, x3, x4] (.int ((gI 0 h a i).getD 0) :: st) h else none := R_iaload d_X9_mayLast_47
theorem d_X9_mayLast_48 : decode (mB M_X9_mayLast) 48 = .ok (.iload_n 2, 1) := by decide +kernel
theorem r_X9_mayLast_48 {x0 x1 x3 x4 : Value} {a : Int32} {st : List Value} {h : AH} : Run M_X9_mayLast 48 [x0, x1, .int a, x3, x4] st h = Run M_X9_mayLast 49 [x0, x1, .int a, x3, x4] (.int a :: st) h := R_iload_n d_X9_mayLast_48 rfl
theorem d_X9_mayLast_49 : decode (mB M_X9_mayLast) 49 = .ok (.if_icmp .ne 7, 3) := by decide +kernel
theorem r_X9_mayLast_49 {x0 x1 x2 x3 x4 : Value} {x y : Int32} {st : List Value} {h : AH} : Run M_X9_mayLast 49 [x0, x1, x2, x3, x4] (.int y :: .int x :: st) h = if x = y then Run M_X9_mayLast 52 [x0, x1, x2, x3, x4] st h else Run M_X9_mayLast 56 [x0, x1, x2, x3, x4] st h := R_icmp_ne d_X9_mayLast_49 (by decide)
theorem d_X9_mayLast_52 : decode (mB M_X9_mayLast) 52 = .ok (.iconst 1, 1) := by decide +kernel
theorem r_X9_mayLast_52 {x0 x1 x2 x3 x4 : Value} {st : List Value} {h : AH} : Run M_X9_mayLast 52 [x0, x1, x2, x3, x4] st h = Run M_X9_mayLast 53 [x0, x1, x2, x3, x4] (.int (nI 1) :: st) h := R_iconst d_X9_mayLast_52 (by decide)
theorem d_X9_mayLast_53 : decode (mB M_X9_mayLast) 53 = .ok (.goto 4, 3) := by decide +kernel
theorem r_X9_mayLast_53 {x0 x1 x2 x3 x4 : Value} {st : List Value} {h : AH} : Run M_X9_mayLast 53 [x0, x1, x2, x3, x4] st h = Run M_X9_mayLast 57 [x0, x1, x2, x3, x4] st h := R_goto d_X9_mayLast_53 (by decide)
theorem d_X9_mayLast_56 : decode (mB M_X9_mayLast) 56 = .ok (.iconst 0, 1) := by decide +kernel
theorem r_X9_mayLast_56 {x0 x1 x2 x3 x4 : Value} {st : List Value} {h : AH} : Run M_X9_mayLast 56 [x0, x1, x2, x3, x4] st h = Run M_X9_mayLast 57 [x0, x1, x2, x3, x4] (.int (nI 0) :: st) h := R_iconst d_X9_mayLast_56 (by decide)
theorem d_X9_mayLast_57 : decode (mB M_X9_mayLast) 57 = .ok (.istore_n 3, 1) := by decide +kernel
theorem r_X9_mayLast_57 {x0 x1 x2 x3 x4 : Value} {a : Int32} {st : List Value} {h : AH} (hc : x2.category = 1) : Run M_X9_mayLast 57 [x0, x1, x2, x3, x4] (.int a :: st) h = Run M_X9_mayLast 58 [x0, x1, x2, .int a, x4] st h := R_istore_n d_X9_mayLast_57 (Nat.lt_of_lt_of_le (by decide : 3 < 5) (Nat.le_refl 5)) (catP_of rfl hc)
theorem d_X9_mayLast_58 : decode (mB M_X9_mayLast) 58 = .ok (.iinc 4 1, 3) := by decide +kernel
theorem r_X9_mayLast_58 {x0 x1 x2 x3 : Value} {a : Int32} {st : List Value} {h : AH} (hc : x3.category = 1) : Run M_X9_mayLast 58 [x0, x1, x2, x3, .int a] st h = Run M_X9_mayLast 61 [x0, x1, x2, x3, .int (a + (nI 1))] st h := R_iinc d_X9_mayLast_58 (by decide) rfl (catP_of rfl hc)
theorem d_X9_mayLast_61 : decode (mB M_X9_mayLast) 61 = .ok (.goto (-39), 3) := by decide +kernel
theorem r_X9_mayLast_61 {x0 x1 x2 x3 x4 : Value} {st : List Value} {h : AH} : Run M_X9_mayLast 61 [x0, x1, x2, x3, x4] st h = Run M_X9_mayLast 22 [x0, x1, x2, x3, x4] st h := R_goto d_X9_mayLast_61 (by decide)
theorem d_X9_mayLast_64 : decode (mB M_X9_mayLast) 64 = .ok (.iload_n 3, 1) := by decide +kernel
theorem r_X9_mayLast_64 {x0 x1 x2 x4 : Value} {a : Int32} {st : List Value} {h : AH} : Run M_X9_mayLast 64 [x0, x1, x2, .int a, x4] st h = Run M_X9_mayLast 65 [x0, x1, x2, .int a, x4] (.int a :: st) h := R_iload_n d_X9_mayLast_64 rfl
theorem d_X9_mayLast_65 : decode (mB M_X9_mayLast) 65 = .ok (.ireturn, 1) := by decide +kernel
theorem r_X9_mayLast_65_0 {x0 x1 x2 x3 x4 : Value} {h : AH} : Run M_X9_mayLast 65 [x0, x1, x2, x3, x4] [.int (nI 0)] h = some (h, some (.int (nI 0))) := R_ireturn d_X9_mayLast_65 rfl (by decide)
theorem r_X9_mayLast_65_1 {x0 x1 x2 x3 x4 : Value} {h : AH} : Run M_X9_mayLast 65 [x0, x1, x2, x3, x4] [.int (nI 1)] h = some (h, some (.int (nI 1))) := R_ireturn d_X9_mayLast_65 rfl (by decide)
theorem r_X9_mayLast_65_c {x0 x1 x2 x3 x4 : Value} {c : Prop} [Decidable c] {h : AH} : Run M_X9_mayLast 65 [x0, x1, x2, x3, x4] [.int (bI c)] h = some (h, some (.int (bI c))) := R_ireturn d_X9_mayLast_65 rfl narrow_bI
theorem d_X9_judge_0 : decode (mB M_X9_judge) 0 = .ok (.iconst 0, 1) := by decide +kernel
theorem r_X9_judge_0 {x0 x1 x2 : Value} {st : List Value} {h : AH} : Run M_X9_judge 0 [x0, x1, x2] st h = Run M_X9_judge 1 [x0, x1, x2] (.int (nI 0) :: st) h := R_iconst d_X9_judge_0 (by decide)
theorem d_X9_judge_1 : decode (mB M_X9_judge) 1 = .ok (.istore_n 1, 1) := by decide +kernel
theorem r_X9_judge_1 {x0 x1 x2 : Value} {a : Int32} {st : List Value} {h : AH} (hc : x0.category = 1) : Run M_X9_judge 1 [x0, x1, x2] (.int a :: st) h = Run M_X9_judge 2 [x0, .int a, x2] st h := R_istore_n d_X9_judge_1 (Nat.lt_of_lt_of_le (by decide : 1 < 3) (Nat.le_refl 3)) (catP_of rfl hc)
theorem d_X9_judge_2 : decode (mB M_X9_judge) 2 = .ok (.iload_n 1, 1) := by decide +kernel
theorem r_X9_judge_2 {x0 x2 : Value} {a : Int32} {st : List Value} {h : AH} : Run M_X9_judge 2 [x0, .int a, x2] st h = Run M_X9_judge 3 [x0, .int a, x2] (.int a :: st) h := R_iload_n d_X9_judge_2 rfl
theorem d_X9_judge_3 : decode (mB M_X9_judge) 3 = .ok (.aload_n 0, 1) := by decide +kernel
theorem r_X9_judge_3 {x1 x2 : Value} {a : Nat} {st : List Value} {h : AH} : Run M_X9_judge 3 [.ref a, x1, x2] st h = Run M_X9_judge 4 [.ref a, x1, x2] (.ref a :: st) h := R_aload_n d_X9_judge_3 rfl
theorem d_X9_judge_4 : decode (mB M_X9_judge) 4 = .ok (.getfield 188, 3) := by decide +kernel
theorem r_X9_judge_4 {x0 x1 x2 : Value} {a : Nat} {st : List Value} {h : AH} : Run M_X9_judge 4 [x0, x1, x2] (.ref a :: st) h = if (gF h a 9 38).isSome = true then Run M_X9_judge 7 [x0, x1, x2] ((gF h a 9 38).getD .null :: st) h else none := R_getfield d_X9_judge_4 rfl
theorem d_X9_judge_7 : decode (mB M_X9_judge) 7 = .ok (.if_icmp .ge 63, 3) := by decide +kernel
theorem r_X9_judge_7 {x0 x1 x2 : Value} {x y : Int32} {st : List Value} {h : AH} : Run M_X9_judge 7 [x0, x1, x2] (.int y :: .int x :: st) h = if y ≤ x then Run M_X9_judge 70 [x0, x1, x2] st h else Run M_X9_judge 10 [x0, x1, x2] st h := R_icmp_ge d_X9_judge_7 (by decide)
theorem d_X9_judge_10 : decode (mB M_X9_judge) 10 = .ok (.aload_n 0, 1) := by decide +kernel
theorem r_X9_judge_10 {x1 x2 : Value} {a : Nat} {st : List Value} {h : AH} : Run M_X9_judge 10 [.ref a, x1, x2] st h = Run M_X9_judge 11 [.ref a, x1, x2] (.ref a :: st) h := R_aload_n d_X9_judge_10 rfl
theorem d_X9_judge_11 : decode (mB M_X9_judge) 11 = .ok (.getfield 79, 3) := by decide +kernel
theorem r_X9_judge_11 {x0 x1 x2 : Value} {a : Nat} {st : List Value} {h : AH} : Run M_X9_judge 11 [x0, x1, x2] (.ref a :: st) h = if (gF h a 9 39).isSome = true then Run M_X9_judge 14 [x0, x1, x2] ((gF h a 9 39).getD .null :: st) h else none := R_getfield d_X9_judge_11 rfl
theorem d_X9_judge_14 : decode (mB M_X9_judge) 14 = .ok (.iconst 2, 1) := by decide +kernel
theorem r_X9_judge_14 {x0 x1 x2 : Value} {st : List Value} {h : AH} : Run M_X9_judge 14 [x0, x1, x2] st h = Run M_X9_judge 15 [x0, x1, x2] (.int (nI 2) :: st) h := R_iconst d_X9_judge_14 (by decide)
theorem d_X9_judge_15 : decode (mB M_X9_judge) 15 = .ok (.iload_n 1, 1) := by decide +kernel
theorem r_X9_judge_15 {x0 x2 : Value} {a : Int32} {st : List Value} {h : AH} : Run M_X9_judge 15 [x0, .int a, x2] st h = Run M_X9_judge 16 [x0, .int a, x2] (.int a :: st) h := R_iload_n d_X9_judge_15 rfl
theorem d_X9_judge_16 : decode (mB M_X9_judge) 16 = .ok (.imul, 1) := by decide +kernel
theorem r_X9_judge_16 {x0 x1 x2 : Value} {x y : Int32} {st : List Value} {h : AH} : Run M_X9_judge 16 [x0, x1, x2] (.int y :: .int x :: st) h = Run M_X9_judge 17 [x0, x1, x2] (.int (x * y) :: st) h := R_imul d_X9_judge_16
theorem d_X9_judge_17 : decode (mB M_X9_judge) 17 = .ok (.iaload, 1) := by decide +kernel
theorem r_X9_judge_17 {x0 x1 x2 : Value} {a : Nat} {i : Int32} {st : List Value} {h : AH} : Run M_X9_judge 17 [x0, x1, x2] (.int i :: .ref a :: st) h = if (gI 0 h a i).isSome = true then Run M_X9_judge 18 [x0, x1, x2] (.int ((gI 0 h a i).getD 0) :: st) h else none := R_iaload d_X9_judge_17
theorem d_X9_judge_18 : decode (mB M_X9_judge) 18 = .ok (.iload_n 1, 1) := by decide +kernel
theorem r_X9_judge_18 {x0 x2 : Value} {a : Int32} {st : List Value} {h : AH} : Run M_X9_judge 18 [x0, .int a, x2] st h = Run M_X9_judge 19 [x0, .int a, x2] (.int a :: st) h := R_iload_n d_X9_judge_18 rfl
theorem d_X9_judge_19 : decode (mB M_X9_judge) 19 = .ok (.aload_n 0, 1) := by decide +kernel
theorem r_X9_judge_19 {x1 x2 : Value} {a : Nat} {st : List Value} {h : AH} : Run M_X9_judge 19 [.ref a, x1, x2] st h = Run M_X9_judge 20 [.ref a, x1, x2] (.ref a :: st) h := R_aload_n d_X9_judge_19 rfl
theorem d_X9_judge_20 : decode (mB M_X9_judge) 20 = .ok (.getfield 82, 3) := by decide +kernel
theorem r_X9_judge_20 {x0 x1 x2 : Value} {a : Nat} {st : List Value} {h : AH} : Run M_X9_judge 20 [x0, x1, x2] (.ref a :: st) h = if (gF h a 9 3).isSome = true then Run M_X9_judge 23 [x0, x1, x2] ((gF h a 9 3).getD .null :: st) h else none := R_getfield d_X9_judge_20 rfl
theorem d_X9_judge_23 : decode (mB M_X9_judge) 23 = .ok (.irem, 1) := by decide +kernel
theorem r_X9_judge_23 {x0 x1 x2 : Value} {x y : Int32} {st : List Value} {h : AH} (hy : ¬ y = 0) : Run M_X9_judge 23 [x0, x1, x2] (.int y :: .int x :: st) h = Run M_X9_judge 24 [x0, x1, x2] (.int (x - x / y * y) :: st) h := R_irem d_X9_judge_23 hy
theorem d_X9_judge_24 : decode (mB M_X9_judge) 24 = .ok (.if_icmp .ne 7, 3) := by decide +kernel
theorem r_X9_judge_24 {x0 x1 x2 : Value} {x y : Int32} {st : List Value} {h : AH} : Run M_X9_judge 24 [x0, x1, x2] (.int y :: .int x :: st) h = if x = y then Run M_X9_judge 27 [x0, x1, x2] st h else Run M_X9_judge 31 [x0, x1, x2] st h := R_icmp_ne d_X9_judge_24 (by decide)
theorem d_X9_judge_27 : decode (mB M_X9_judge) 27 = .ok (.iconst 1, 1) := by decide +kernel
theorem r_X9_judge_27 {x0 x1 x2 : Value} {st : List Value} {h : AH} : Run M_X9_judge 27 [x0, x1, x2] st h = Run M_X9_judge 28 [x0, x1, x2] (.int (nI 1) :: st) h := R_iconst d_X9_judge_27 (by decide)
theorem d_X9_judge_28 : decode (mB M_X9_judge) 28 = .ok (.goto 4, 3) := by decide +kernel
theorem r_X9_judge_28 {x0 x1 x2 : Value} {st : List Value} {h : AH} : Run M_X9_judge 28 [x0, x1, x2] st h = Run M_X9_judge 32 [x0, x1, x2] st h := R_goto d_X9_judge_28 (by decide)
theorem d_X9_judge_31 : decode (mB M_X9_judge) 31 = .ok (.iconst 0, 1) := by decide +kernel
theorem r_X9_judge_31 {x0 x1 x2 : Value} {st : List Value} {h : AH} : Run M_X9_judge 31 [x0, x1, x2] st h = Run M_X9_judge 32 [x0, x1, x2] (.int (nI 0) :: st) h := R_iconst d_X9_judge_31 (by decide)
theorem d_X9_judge_32 : decode (mB M_X9_judge) 32 = .ok (.istore_n 2, 1) := by decide +kernel
theorem r_X9_judge_32 {x0 x1 x2 : Value} {a : Int32} {st : List Value} {h : AH} (hc : x1.category = 1) : Run M_X9_judge 32 [x0, x1, x2] (.int a :: st) h = Run M_X9_judge 33 [x0, x1, .int a] st h := R_istore_n d_X9_judge_32 (Nat.lt_of_lt_of_le (by decide : 2 < 3) (Nat.le_refl 3)) (catP_of rfl hc)
theorem d_X9_judge_33 : decode (mB M_X9_judge) 33 = .ok (.iload_n 2, 1) := by decide +kernel
theorem r_X9_judge_33 {x0 x1 : Value} {a : Int32} {st : List Value} {h : AH} : Run M_X9_judge 33 [x0, x1, .int a] st h = Run M_X9_judge 34 [x0, x1, .int a] (.int a :: st) h := R_iload_n d_X9_judge_33 rfl
theorem d_X9_judge_34 : decode (mB M_X9_judge) 34 = .ok (.ifCond .eq 28, 3) := by decide +kernel
theorem r_X9_judge_34 {x0 x1 x2 : Value} {x : Int32} {st : List Value} {h : AH} : Run M_X9_judge 34 [x0, x1, x2] (.int x :: st) h = if x = nI 0 then Run M_X9_judge 62 [x0, x1, x2] st h else Run M_X9_judge 37 [x0, x1, x2] st h := R_if_eq d_X9_judge_34 (by decide)
theorem d_X9_judge_37 : decode (mB M_X9_judge) 37 = .ok (.aload_n 0, 1) := by decide +kernel
theorem r_X9_judge_37 {x1 x2 : Value} {a : Nat} {st : List Value} {h : AH} : Run M_X9_judge 37 [.ref a, x1, x2] st h = Run M_X9_judge 38 [.ref a, x1, x2] (.ref a :: st) h := R_aload_n d_X9_judge_37 rfl
theorem d_X9_judge_38 : decode (mB M_X9_judge) 38 = .ok (.aload_n 0, 1) := by decide +kernel
theorem r_X9_judge_38 {x1 x2 : Value} {a : Nat} {st : List Value} {h : AH} : Run M_X9_judge 38 [.ref a, x1, x2] st h = Run M_X9_judge 39 [.ref a, x1, x2] (.ref a :: st) h := R_aload_n d_X9_judge_38 rfl
theorem d_X9_judge_39 : decode (mB M_X9_judge) 39 = .ok (.getfield 79, 3) := by decide +kernel
theorem r_X9_judge_39 {x0 x1 x2 : Value} {a : Nat} {st : List Value} {h : AH} : Run M_X9_judge 39 [x0, x1, x2] (.ref a :: st) h = if (gF h a 9 39).isSome = true then Run M_X9_judge 42 [x0, x1, x2] ((gF h a 9 39).getD .null :: st) h else none := R_getfield d_X9_judge_39 rfl
theorem d_X9_judge_42 : decode (mB M_X9_judge) 42 = .ok (.iconst 2, 1) := by decide +kernel
theorem r_X9_judge_42 {x0 x1 x2 : Value} {st : List Value} {h : AH} : Run M_X9_judge 42 [x0, x1, x2] st h = Run M_X9_judge 43 [x0, x1, x2] (.int (nI 2) :: st) h := R_iconst d_X9_judge_42 (by decide)
theorem d_X9_judge_43 : decode (mB M_X9_judge) 43 = .ok (.iload_n 1, 1) := by decide +kernel
theorem r_X9_judge_43 {x0 x2 : Value} {a : Int32} {st : List Value} {h : AH} : Run M_X9_judge 43 [x0, .int a, x2] st h = Run M_X9_judge 44 [x0, .int a, x2] (.int a :: st) h := R_iload_n d_X9_judge_43 rfl
theorem d_X9_judge_44 : decode (mB M_X9_judge) 44 = .ok (.imul, 1) := by decide +kernel
theorem r_X9_judge_44 {x0 x1 x2 : Value} {x y : Int32} {st : List Value} {h : AH} : Run M_X9_judge 44 [x0, x1, x2] (.int y :: .int x :: st) h = Run M_X9_judge 45 [x0, x1, x2] (.int (x * y) :: st) h := R_imul d_X9_judge_44
theorem d_X9_judge_45 : decode (mB M_X9_judge) 45 = .ok (.iaload, 1) := by decide +kernel
theorem r_X9_judge_45 {x0 x1 x2 : Value} {a : Nat} {i : Int32} {st : List Value} {h : AH} : Run M_X9_judge 45 [x0, x1, x2] (.int i :: .ref a :: st) h = if (gI 0 h a i).isSome = true then Run M_X9_judge 46 [x0, x1, x2] (.int ((gI 0 h a i).getD 0) :: st) h else none := R_iaload d_X9_judge_45
theorem d_X9_judge_46 : decode (mB M_X9_judge) 46 = .ok (.aload_n 0, 1) := by decide +kernel
theorem r_X9_judge_46 {x1 x2 : Value} {a : Nat} {st : List Value} {h : AH} : Run M_X9_judge 46 [.ref a, x1, x2] st h = Run M_X9_judge 47 [.ref a, x1, x2] (.ref a :: st) h := R_aload_n d_X9_judge_46 rfl
theorem d_X9_judge_47 : decode (mB M_X9_judge) 47 = .ok (.getfield 79, 3) := by decide +kernel
theorem r_X9_judge_47 {x0 x1 x2 : Value} {a : Nat} {st : List Value} {h : AH} : Run M_X9_judge 47 [x0, x1, x2] (.ref a :: st) h = if (gF h a 9 39).isSome = true then Run M_X9_judge 50 [x0, x1, x2] ((gF h a 9 39).getD .null :: st) h else none := R_getfield d_X9_judge_47 rfl
theorem d_X9_judge_50 : decode (mB M_X9_judge) 50 = .ok (.iconst 2, 1) := by decide +kernel
theorem r_X9_judge_50 {x0 x1 x2 : Value} {st : List Value} {h : AH} : Run M_X9_judge 50 [x0, x1, x2] st h = Run M_X9_judge 51 [x0, x1, x2] (.int (nI 2) :: st) h := R_iconst d_X9_judge_50 (by decide)
theorem d_X9_judge_51 : decode (mB M_X9_judge) 51 = .ok (.iload_n 1, 1) := by decide +kernel
theorem r_X9_judge_51 {x0 x2 : Value} {a : Int32} {st : List Value} {h : AH} : Run M_X9_judge 51 [x0, .int a, x2] st h = Run M_X9_judge 52 [x0, .int a, x2] (.int a :: st) h := R_iload_n d_X9_judge_51 rfl
theorem d_X9_judge_52 : decode (mB M_X9_judge) 52 = .ok (.imul, 1) := by decide +kernel
theorem r_X9_judge_52 {x0 x1 x2 : Value} {x y : Int32} {st : List Value} {h : AH} : Run M_X9_judge 52 [x0, x1, x2] (.int y :: .int x :: st) h = Run M_X9_judge 53 [x0, x1, x2] (.int (x * y) :: st) h := R_imul d_X9_judge_52
theorem d_X9_judge_53 : decode (mB M_X9_judge) 53 = .ok (.iconst 1, 1) := by decide +kernel
theorem r_X9_judge_53 {x0 x1 x2 : Value} {st : List Value} {h : AH} : Run M_X9_judge 53 [x0, x1, x2] st h = Run M_X9_judge 54 [x0, x1, x2] (.int (nI 1) :: st) h := R_iconst d_X9_judge_53 (by decide)
theorem d_X9_judge_54 : decode (mB M_X9_judge) 54 = .ok (.iadd, 1) := by decide +kernel
theorem r_X9_judge_54 {x0 x1 x2 : Value} {x y : Int32} {st : List Value} {h : AH} : Run M_X9_judge 54 [x0, x1, x2] (.int y :: .int x :: st) h = Run M_X9_judge 55 [x0, x1, x2] (.int (x + y) :: st) h := R_iadd d_X9_judge_54
theorem d_X9_judge_55 : decode (mB M_X9_judge) 55 = .ok (.iaload, 1) := by decide +kernel
theorem r_X9_judge_55 {x0 x1 x2 : Value} {a : Nat} {i : Int32} {st : List Value} {h : AH} : Run M_X9_judge 55 [x0, x1, x2] (.int i :: .ref a :: st) h = if (gI 0 h a i).isSome = true then Run M_X9_judge 56 [x0, x1, x2] (.int ((gI 0 h a i).getD 0) :: st) h else none := R_iaload d_X9_judge_55
theorem d_X9_judge_56 : decode (mB M_X9_judge) 56 = .ok (.invokevirtual 266, 3) := by decide +kernel
theorem r_X9_judge_56 {x0 x1 x2 : Value} {p0 : Int32} {p1 : Int32} {a : Nat} {h : AH} : Run M_X9_judge 56 [x0, x1, x2] (.int p1 :: .int p0 :: .ref a :: []) h = if refO h 9 (some (.ref a)) = true then (if (Call M_X9_mayLast h [.ref a, .int p0, .int p1]).isSome = true then Run M_X9_judge 59 [x0, x1, x2] (rL (Call M_X9_mayLast h [.ref a, .int p0, .int p1]) ++ []) (cH (Call M_X9_mayLast h [.ref a, .int p0, .int p1])) else none) else none := R_virt d_X9_judge_56 rfl rfl rfl rfl rfl (Nat.le_of_ble_eq_true rfl)
theorem d_X9_judge_59 : decode (mB M_X9_judge) 59 = .ok (.ifCond .ne 5, 3) := by decide +kernel
theorem r_X9_judge_59 {x0 x1 x2 : Value} {x : Int32} {st : List Value} {h : AH} : Run M_X9_judge 59 [x0, x1, x2] (.int x :: st) h = if x = nI 0 then Run M_X9_judge 62 [x0, x1, x2] st h else Run M_X9_judge 64 [x0, x1, x2] st h := R_if_ne d_X9_judge_59 (by decide)
theorem d_X9_judge_62 : decode (mB M_X9_judge) 62 = .ok (.iload_n 1, 1) := by decide +kernel
theorem r_X9_judge_62 {x0 x2 : Value} {a : Int32} {st : List Value} {h : AH} : Run M_X9_judge 62 [x0, .int a, x2] st h = Run M_X9_judge 63 [x0, .int a, x2] (.int a :: st) h := R_iload_n d_X9_judge_62 rfl
theorem d_X9_judge_63 : decode (mB M_X9_judge) 63 = .ok (.ireturn, 1) := by decide +kernel
theorem r_X9_judge_63 {x0 x1 x2 : Value} {v : Int32} {h : AH} : Run M_X9_judge 63 [x0, x1, x2] [.int v] h = some (h, some (.int v)) := R_ireturn d_X9_judge_63 rfl rfl
theorem d_X9_judge_64 : decode (mB M_X9_judge) 64 = .ok (.iinc 1 1, 3) := by decide +kernel
theorem r_X9_judge_64 {x0 x2 : Value} {a : Int32} {st : List Value} {h : AH} (hc : x0.category = 1) : Run M_X9_judge 64 [x0, .int a, x2] st h = Run M_X9_judge 67 [x0, .int (a + (nI 1)), x2] st h := R_iinc d_X9_judge_64 (by decide) rfl (catP_of rfl hc)
theorem d_X9_judge_67 : decode (mB M_X9_judge) 67 = .ok (.goto (-65), 3) := by decide +kernel
theorem r_X9_judge_67 {x0 x1 x2 : Value} {st : List Value} {h : AH} : Run M_X9_judge 67 [x0, x1, x2] st h = Run M_X9_judge 2 [x0, x1, x2] st h := R_goto d_X9_judge_67 (by decide)
theorem d_X9_judge_70 : decode (mB M_X9_judge) 70 = .ok (.iconst (-1), 1) := by decide +kernel
theorem r_X9_judge_70 {x0 x1 x2 : Value} {st : List Value} {h : AH} : Run M_X9_judge 70 [x0, x1, x2] st h = Run M_X9_judge 71 [x0, x1, x2] (.int (-1) :: st) h := R_iconst d_X9_judge_70 (by decide)
theorem d_X9_judge_71 : decode (mB M_X9_judge) 71 = .ok (.ireturn, 1) := by decide +kernel
theorem r_X9_judge_71 {x0 x1 x2 : Value} {v : Int32} {h : AH} : Run M_X9_judge 71 [x0, x1, x2] [.int v] h = some (h, some (.int v)) := R_ireturn d_X9_judge_71 rfl rfl
theorem d_X9_tear_0 : decode (mB M_X9_tear) 0 = .ok (.aload_n 0, 1) := by decide +kernel
theorem r_X9_tear_0 {x1 : Value} {a : Nat} {st : List Value} {h : AH} : Run M_X9_tear 0 [.ref a, x1] st h = Run M_X9_tear 1 [.ref a, x1] (.ref a :: st) h := R_aload_n d_X9_tear_0 rfl
theorem d_X9_tear_1 : decode (mB M_X9_tear) 1 = .ok (.getfield 185, 3) := by decide +kernel
theorem r_X9_tear_1 {x0 x1 : Value} {a : Nat} {st : List Value} {h : AH} : Run M_X9_tear 1 [x0, x1] (.ref a :: st) h = if (gF h a 9 36).isSome = true then Run M_X9_tear 4 [x0, x1] ((gF h a 9 36).getD .null :: st) h else none := R_getfield d_X9_tear_1 rfl
theorem d_X9_tear_4 : decode (mB M_X9_tear) 4 = .ok (.aload_n 0, 1) := by decide +kernel
theorem r_X9_tear_4 {x1 : Value} {a : Nat} {st : List Value} {h : AH} : Run M_X9_tear 4 [.ref a, x1] st h = Run M_X9_tear 5 [.ref a, x1] (.ref a :: st) h := R_aload_n d_X9_tear_4 rfl
theorem d_X9_tear_5 : decode (mB M_X9_tear) 5 = .ok (.getfield 188, 3) := by decide +kernel
theorem r_X9_tear_5 {x0 x1 : Value} {a : Nat} {st : List Value} {h : AH} : Run M_X9_tear 5 [x0, x1] (.ref a :: st) h = if (gF h a 9 38).isSome = true then Run M_X9_tear 8 [x0, x1] ((gF h a 9 38).getD .null :: st) h else none := R_getfield d_X9_tear_5 rfl
theorem d_X9_tear_8 : decode (mB M_X9_tear) 8 = .ok (.iadd, 1) := by decide +kernel
theorem r_X9_tear_8 {x0 x1 : Value} {x y : Int32} {st : List Value} {h : AH} : Run M_X9_tear 8 [x0, x1] (.int y :: .int x :: st) h = Run M_X9_tear 9 [x0, x1] (.int (x + y) :: st) h := R_iadd d_X9_tear_8
theorem d_X9_tear_9 : decode (mB M_X9_tear) 9 = .ok (.istore_n 1, 1) := by decide +kernel
theorem r_X9_tear_9 {x0 x1 : Value} {a : Int32} {st : List Value} {h : AH} (hc : x0.category = 1) : Run M_X9_tear 9 [x0, x1] (.int a :: st) h = Run M_X9_tear 10 [x0, .int a] st h := R_istore_n d_X9_tear_9 (Nat.lt_of_lt_of_le (by decide : 1 < 2) (Nat.le_refl 2)) (catP_of rfl hc)
theorem d_X9_tear_10 : decode (mB M_X9_tear) 10 = .ok (.aload_n 0, 1) := by decide +kernel
theorem r_X9_tear_10 {x1 : Value} {a : Nat} {st : List Value} {h : AH} : Run M_X9_tear 10 [.ref a, x1] st h = Run M_X9_tear 11 [.ref a, x1] (.ref a :: st) h := R_aload_n d_X9_tear_10 rfl
theorem d_X9_tear_11 : decode (mB M_X9_tear) 11 = .ok (.iconst 0, 1) := by decide +kernel
theorem r_X9_tear_11 {x0 x1 : Value} {st : List Value} {h : AH} : Run M_X9_tear 11 [x0, x1] st h = Run M_X9_tear 12 [x0, x1] (.int (nI 0) :: st) h := R_iconst d_X9_tear_11 (by decide)
theorem d_X9_tear_12 : decode (mB M_X9_tear) 12 = .ok (.putfield 185, 3) := by decide +kernel
theorem r_X9_tear_12 {x0 x1 : Value} {v : Int32} {a : Nat} {st : List Value} {h : AH} : Run M_X9_tear 12 [x0, x1] (.int v :: .ref a :: st) h = if (pF h a 9 36 (.int v)).isSome = true then Run M_X9_tear 15 [x0, x1] st ((pF h a 9 36 (.int v)).getD h) else none := R_putfield d_X9_tear_12 rfl (okP_int rfl rfl)
theorem d_X9_tear_15 : decode (mB M_X9_tear) 15 = .ok (.aload_n 0, 1) := by decide +kernel
theorem r_X9_tear_15 {x1 : Value} {a : Nat} {st : List Value} {h : AH} : Run M_X9_tear 15 [.ref a, x1] st h = Run M_X9_tear 16 [.ref a, x1] (.ref a :: st) h := R_aload_n d_X9_tear_15 rfl
theorem d_X9_tear_16 : decode (mB M_X9_tear) 16 = .ok (.iconst 0, 1) := by decide +kernel
theorem r_X9_tear_16 {x0 x1 : Value} {st : List Value} {h : AH} : Run M_X9_tear 16 [x0, x1] st h = Run M_X9_tear 17 [x0, x1] (.int (nI 0) :: st) h := R_iconst d_X9_tear_16 (by decide)
theorem d_X9_tear_17 : decode (mB M_X9_tear) 17 = .ok (.putfield 188, 3) := by decide +kernel
theorem r_X9_tear_17 {x0 x1 : Value} {v : Int32} {a : Nat} {st : List Value} {h : AH} : Run M_X9_tear 17 [x0, x1] (.int v :: .ref a :: st) h = if (pF h a 9 38 (.int v)).isSome = true then Run M_X9_tear 20 [x0, x1] st ((pF h a 9 38 (.int v)).getD h) else none := R_putfield d_X9_tear_17 rfl (okP_int rfl rfl)
theorem d_X9_tear_20 : decode (mB M_X9_tear) 20 = .ok (.iload_n 1, 1) := by decide +kernel
theorem r_X9_tear_20 {x0 : Value} {a : Int32} {st : List Value} {h : AH} : Run M_X9_tear 20 [x0, .int a] st h = Run M_X9_tear 21 [x0, .int a] (.int a :: st) h := R_iload_n d_X9_tear_20 rfl
theorem d_X9_tear_21 : decode (mB M_X9_tear) 21 = .ok (.ireturn, 1) := by decide +kernel
theorem r_X9_tear_21 {x0 x1 : Value} {v : Int32} {h : AH} : Run M_X9_tear 21 [x0, x1] [.int v] h = some (h, some (.int v)) := R_ireturn d_X9_tear_21 rfl rfl
theorem d_X9_seed_0 : decode (mB M_X9_seed) 0 = .ok (.iload_n 1, 1) := by decide +kernel
theorem r_X9_seed_0 {x0 x2 : Value} {a : Int32} {st : List Value} {h : AH} : Run M_X9_seed 0 [x0, .int a, x2] st h = Run M_X9_seed 1 [x0, .int a, x2] (.int a :: st) h := R_iload_n d_X9_seed_0 rfl
theorem d_X9_seed_1 : decode (mB M_X9_seed) 1 = .ok (.ifCond .ge 6, 3) := by decide +kernel
theorem r_X9_seed_1 {x0 x1 x2 : Value} {x : Int32} {st : List Value} {h : AH} : Run M_X9_seed 1 [x0, x1, x2] (.int x :: st) h = if nI 0 ≤ x then Run M_X9_seed 7 [x0, x1, x2] st h else Run M_X9_seed 4 [x0, x1, x2] st h := R_if_ge d_X9_seed_1 (by decide)
theorem d_X9_seed_4 : decode (mB M_X9_seed) 4 = .ok (.ldc 92, 2) := by decide +kernel
theorem r_X9_seed_4 {x0 x1 x2 : Value} {st : List Value} {h : AH} : Run M_X9_seed 4 [x0, x1, x2] st h = Run M_X9_seed 6 [x0, x1, x2] (.int (-1000000002) :: st) h := R_ldc d_X9_seed_4 (by decide)
theorem d_X9_seed_6 : decode (mB M_X9_seed) 6 = .ok (.ireturn, 1) := by decide +kernel
theorem r_X9_seed_6 {x0 x1 x2 : Value} {v : Int32} {h : AH} : Run M_X9_seed 6 [x0, x1, x2] [.int v] h = some (h, some (.int v)) := R_ireturn d_X9_seed_6 rfl rfl
theorem d_X9_seed_7 : decode (mB M_X9_seed) 7 = .ok (.aload_n 0, 1) := by decide +kernel
theorem r_X9_seed_7 {x1 x2 : Value} {a : Nat} {st : List Value} {h : AH} : Run M_X9_seed 7 [.ref a, x1, x2] st h = Run M_X9_seed 8 [.ref a, x1, x2] (.ref a :: st) h := R_aload_n d_X9_seed_7 rfl
theorem d_X9_seed_8 : decode (mB M_X9_seed) 8 = .ok (.getfield 7, 3) := by decide +kernel
theorem r_X9_seed_8 {x0 x1 x2 : Value} {a : Nat} {st : List Value} {h : AH} : Run M_X9_seed 8 [x0, x1, x2] (.ref a :: st) h = if (gF h a 9 0).isSome = true then Run M_X9_seed 11 [x0, x1, x2] ((gF h a 9 0).getD .null :: st) h else none := R_getfield d_X9_seed_8 rfl
theorem d_X9_seed_11 : decode (mB M_X9_seed) 11 = .ok (.bipush 18, 2) := by decide +kernel
theorem r_X9_seed_11 {x0 x1 x2 : Value} {st : List Value} {h : AH} : Run M_X9_seed 11 [x0, x1, x2] st h = Run M_X9_seed 13 [x0, x1, x2] (.int (nI 18) :: st) h := R_bipush d_X9_seed_11 (by decide)
theorem d_X9_seed_13 : decode (mB M_X9_seed) 13 = .ok (.iaload, 1) := by decide +kernel
theorem r_X9_seed_13 {x0 x1 x2 : Value} {a : Nat} {i : Int32} {st : List Value} {h : AH} : Run M_X9_seed 13 [x0, x1, x2] (.int i :: .ref a :: st) h = if (gI 0 h a i).isSome = true then Run M_X9_seed 14 [x0, x1, x2] (.int ((gI 0 h a i).getD 0) :: st) h else none := R_iaload d_X9_seed_13
theorem d_X9_seed_14 : decode (mB M_X9_seed) 14 = .ok (.istore_n 2, 1) := by decide +kernel
theorem r_X9_seed_14 {x0 x1 x2 : Value} {a : Int32} {st : List Value} {h : AH} (hc : x1.category = 1) : Run M_X9_seed 14 [x0, x1, x2] (.int a :: st) h = Run M_X9_seed 15 [x0, x1, .int a] st h := R_istore_n d_X9_seed_14 (Nat.lt_of_lt_of_le (by decide : 2 < 3) (Nat.le_refl 3)) (catP_of rfl hc)
theorem d_X9_seed_15 : decode (mB M_X9_seed) 15 = .ok (.aload_n 0, 1) := by decide +kernel
theorem r_X9_seed_15 {x1 x2 : Value} {a : Nat} {st : List Value} {h : AH} : Run M_X9_seed 15 [.ref a, x1, x2] st h = Run M_X9_seed 16 [.ref a, x1, x2] (.ref a :: st) h := R_aload_n d_X9_seed_15 rfl
theorem d_X9_seed_16 : decode (mB M_X9_seed) 16 = .ok (.getfield 7, 3) := by decide +kernel
theorem r_X9_seed_16 {x0 x1 x2 : Value} {a : Nat} {st : List Value} {h : AH} : Run M_X9_seed 16 [x0, x1, x2] (.ref a :: st) h = if (gF h a 9 0).isSome = true then Run M_X9_seed 19 [x0, x1, x2] ((gF h a 9 0).getD .null :: st) h else none := R_getfield d_X9_seed_16 rfl
theorem d_X9_seed_19 : decode (mB M_X9_seed) 19 = .ok (.bipush 18, 2) := by decide +kernel
theorem r_X9_seed_19 {x0 x1 x2 : Value} {st : List Value} {h : AH} : Run M_X9_seed 19 [x0, x1, x2] st h = Run M_X9_seed 21 [x0, x1, x2] (.int (nI 18) :: st) h := R_bipush d_X9_seed_19 (by decide)
theorem d_X9_seed_21 : decode (mB M_X9_seed) 21 = .ok (.iload_n 1, 1) := by decide +kernel
theorem r_X9_seed_21 {x0 x2 : Value} {a : Int32} {st : List Value} {h : AH} : Run M_X9_seed 21 [x0, .int a, x2] st h = Run M_X9_seed 22 [x0, .int a, x2] (.int a :: st) h := R_iload_n d_X9_seed_21 rfl
theorem d_X9_seed_22 : decode (mB M_X9_seed) 22 = .ok (.iastore, 1) := by decide +kernel
theorem r_X9_seed_22 {x0 x1 x2 : Value} {a : Nat} {i x : Int32} {st : List Value} {h : AH} : Run M_X9_seed 22 [x0, x1, x2] (.int x :: .int i :: .ref a :: st) h = if (pI 0 h a i x).isSome = true then Run M_X9_seed 23 [x0, x1, x2] st ((pI 0 h a i x).getD h) else none := R_iastore d_X9_seed_22
theorem d_X9_seed_23 : decode (mB M_X9_seed) 23 = .ok (.iload_n 2, 1) := by decide +kernel
theorem r_X9_seed_23 {x0 x1 : Value} {a : Int32} {st : List Value} {h : AH} : Run M_X9_seed 23 [x0, x1, .int a] st h = Run M_X9_seed 24 [x0, x1, .int a] (.int a :: st) h := R_iload_n d_X9_seed_23 rfl
theorem d_X9_seed_24 : decode (mB M_X9_seed) 24 = .ok (.ireturn, 1) := by decide +kernel
theorem r_X9_seed_24 {x0 x1 x2 : Value} {v : Int32} {h : AH} : Run M_X9_seed 24 [x0, x1, x2] [.int v] h = some (h, some (.int v)) := R_ireturn d_X9_seed_24 rfl rfl
theorem d_X9_keep_0 : decode (mB M_X9_keep) 0 = .ok (.iload_n 1, 1) := by decide +kernel
theorem r_X9_keep_0 {x0 x2 : Value} {a : Int32} {st : List Value} {h : AH} : Run M_X9_keep 0 [x0, .int a, x2] st h = Run M_X9_keep 1 [x0, .int a, x2] (.int a :: st) h := R_iload_n d_X9_keep_0 rfl
theorem d_X9_keep_1 : decode (mB M_X9_keep) 1 = .ok (.iconst 0, 1) := by decide +kernel
theorem r_X9_keep_1 {x0 x1 x2 : Value} {st : List Value} {h : AH} : Run M_X9_keep 1 [x0, x1, x2] st h = Run M_X9_keep 2 [x0, x1, x2] (.int (nI 0) :: st) h := R_iconst d_X9_keep_1 (by decide)
theorem d_X9_keep_2 : decode (mB M_X9_keep) 2 = .ok (.iconst 1, 1) := by decide +kernel
theorem r_X9_keep_2 {x0 x1 x2 : Value} {st : List Value} {h : AH} : Run M_X9_keep 2 [x0, x1, x2] st h = Run M_X9_keep 3 [x0, x1, x2] (.int (nI 1) :: st) h := R_iconst d_X9_keep_2 (by decide)
theorem d_X9_keep_3 : decode (mB M_X9_keep) 3 = .ok (.invokestatic 85, 3) := by decide +kernel
theorem r_X9_keep_3 {x0 x1 x2 : Value} {p0 : Int32} {p1 : Int32} {p2 : Int32} {h : AH} : Run M_X9_keep 3 [x0, x1, x2] (.int p2 :: .int p1 :: .int p0 :: []) h = if (Call M_X9_in h [.int p0, .int p1, .int p2]).isSome = true then Run M_X9_keep 6 [x0, x1, x2] (rL (Call M_X9_in h [.int p0, .int p1, .int p2]) ++ []) (cH (Call M_X9_in h [.int p0, .int p1, .int p2])) else none := R_stat d_X9_keep_3 rfl rfl rfl rfl (Nat.le_of_ble_eq_true rfl)
theorem d_X9_keep_6 : decode (mB M_X9_keep) 6 = .ok (.ifCond .ne 6, 3) := by decide +kernel
theorem r_X9_keep_6 {x0 x1 x2 : Value} {x : Int32} {st : List Value} {h : AH} : Run M_X9_keep 6 [x0, x1, x2] (.int x :: st) h = if x = nI 0 then Run M_X9_keep 9 [x0, x1, x2] st h else Run M_X9_keep 12 [x0, x1, x2] st h := R_if_ne d_X9_keep_6 (by decide)
theorem d_X9_keep_9 : decode (mB M_X9_keep) 9 = .ok (.ldc 195, 2) := by decide +kernel
theorem r_X9_keep_9 {x0 x1 x2 : Value} {st : List Value} {h : AH} : Run M_X9_keep 9 [x0, x1, x2] st h = Run M_X9_keep 11 [x0, x1, x2] (.int (-1000000001) :: st) h := R_ldc d_X9_keep_9 (by decide)
theorem d_X9_keep_11 : decode (mB M_X9_keep) 11 = .ok (.ireturn, 1) := by decide +kernel
theorem r_X9_keep_11 {x0 x1 x2 : Value} {v : Int32} {h : AH} : Run M_X9_keep 11 [x0, x1, x2] [.int v] h = some (h, some (.int v)) := R_ireturn d_X9_keep_11 rfl rfl
theorem d_X9_keep_12 : decode (mB M_X9_keep) 12 = .ok (.iconst 0, 1) := by decide +kernel
theorem r_X9_keep_12 {x0 x1 x2 : Value} {st : List Value} {h : AH} : Run M_X9_keep 12 [x0, x1, x2] st h = Run M_X9_keep 13 [x0, x1, x2] (.int (nI 0) :: st) h := R_iconst d_X9_keep_12 (by decide)
theorem d_X9_keep_13 : decode (mB M_X9_keep) 13 = .ok (.istore_n 2, 1) := by decide +kernel
theorem r_X9_keep_13 {x0 x1 x2 : Value} {a : Int32} {st : List Value} {h : AH} (hc : x1.category = 1) : Run M_X9_keep 13 [x0, x1, x2] (.int a :: st) h = Run M_X9_keep 14 [x0, x1, .int a] st h := R_istore_n d_X9_keep_13 (Nat.lt_of_lt_of_le (by decide : 2 < 3) (Nat.le_refl 3)) (catP_of rfl hc)
theorem d_X9_keep_14 : decode (mB M_X9_keep) 14 = .ok (.iload_n 2, 1) := by decide +kernel
theorem r_X9_keep_14 {x0 x1 : Value} {a : Int32} {st : List Value} {h : AH} : Run M_X9_keep 14 [x0, x1, .int a] st h = Run M_X9_keep 15 [x0, x1, .int a] (.int a :: st) h := R_iload_n d_X9_keep_14 rfl
theorem d_X9_keep_15 : decode (mB M_X9_keep) 15 = .ok (.bipush 19, 2) := by decide +kernel
theorem r_X9_keep_15 {x0 x1 x2 : Value} {st : List Value} {h : AH} : Run M_X9_keep 15 [x0, x1, x2] st h = Run M_X9_keep 17 [x0, x1, x2] (.int (nI 19) :: st) h := R_bipush d_X9_keep_15 (by decide)
theorem d_X9_keep_17 : decode (mB M_X9_keep) 17 = .ok (.if_icmp .ge 26, 3) := by decide +kernel
theorem r_X9_keep_17 {x0 x1 x2 : Value} {x y : Int32} {st : List Value} {h : AH} : Run M_X9_keep 17 [x0, x1, x2] (.int y :: .int x :: st) h = if y ≤ x then Run M_X9_keep 43 [x0, x1, x2] st h else Run M_X9_keep 20 [x0, x1, x2] st h := R_icmp_ge d_X9_keep_17 (by decide)
theorem d_X9_keep_20 : decode (mB M_X9_keep) 20 = .ok (.aload_n 0, 1) := by decide +kernel
theorem r_X9_keep_20 {x1 x2 : Value} {a : Nat} {st : List Value} {h : AH} : Run M_X9_keep 20 [.ref a, x1, x2] st h = Run M_X9_keep 21 [.ref a, x1, x2] (.ref a :: st) h := R_aload_n d_X9_keep_20 rfl
theorem d_X9_keep_21 : decode (mB M_X9_keep) 21 = .ok (.getfield 13, 3) := by decide +kernel
theorem r_X9_keep_21 {x0 x1 x2 : Value} {a : Nat} {st : List Value} {h : AH} : Run M_X9_keep 21 [x0, x1, x2] (.ref a :: st) h = if (gF h a 9 1).isSome = true then Run M_X9_keep 24 [x0, x1, x2] ((gF h a 9 1).getD .null :: st) h else none := R_getfield d_X9_keep_21 rfl
theorem d_X9_keep_24 : decode (mB M_X9_keep) 24 = .ok (.bipush 19, 2) := by decide +kernel
theorem r_X9_keep_24 {x0 x1 x2 : Value} {st : List Value} {h : AH} : Run M_X9_keep 24 [x0, x1, x2] st h = Run M_X9_keep 26 [x0, x1, x2] (.int (nI 19) :: st) h := R_bipush d_X9_keep_24 (by decide)
theorem d_X9_keep_26 : decode (mB M_X9_keep) 26 = .ok (.iload_n 1, 1) := by decide +kernel
theorem r_X9_keep_26 {x0 x2 : Value} {a : Int32} {st : List Value} {h : AH} : Run M_X9_keep 26 [x0, .int a, x2] st h = Run M_X9_keep 27 [x0, .int a, x2] (.int a :: st) h := R_iload_n d_X9_keep_26 rfl
theorem d_X9_keep_27 : decode (mB M_X9_keep) 27 = .ok (.imul, 1) := by decide +kernel
theorem r_X9_keep_27 {x0 x1 x2 : Value} {x y : Int32} {st : List Value} {h : AH} : Run M_X9_keep 27 [x0, x1, x2] (.int y :: .int x :: st) h = Run M_X9_keep 28 [x0, x1, x2] (.int (x * y) :: st) h := R_imul d_X9_keep_27
theorem d_X9_keep_28 : decode (mB M_X9_keep) 28 = .ok (.iload_n 2, 1) := by decide +kernel
theorem r_X9_keep_28 {x0 x1 : Value} {a : Int32} {st : List Value} {h : AH} : Run M_X9_keep 28 [x0, x1, .int a] st h = Run M_X9_keep 29 [x0, x1, .int a] (.int a :: st) h := R_iload_n d_X9_keep_28 rfl
theorem d_X9_keep_29 : decode (mB M_X9_keep) 29 = .ok (.iadd, 1) := by decide +kernel
theorem r_X9_keep_29 {x0 x1 x2 : Value} {x y : Int32} {st : List Value} {h : AH} : Run M_X9_keep 29 [x0, x1, x2] (.int y :: .int x :: st) h = Run M_X9_keep 30 [x0, x1, x2] (.int (x + y) :: st) h := R_iadd d_X9_keep_29
theorem d_X9_keep_30 : decode (mB M_X9_keep) 30 = .ok (.aload_n 0, 1) := by decide +kernel
theorem r_X9_keep_30 {x1 x2 : Value} {a : Nat} {st : List Value} {h : AH} : Run M_X9_keep 30 [.ref a, x1, x2] st h = Run M_X9_keep 31 [.ref a, x1, x2] (.ref a :: st) h := R_aload_n d_X9_keep_30 rfl
theorem d_X9_keep_31 : decode (mB M_X9_keep) 31 = .ok (.getfield 7, 3) := by decide +kernel
theorem r_X9_keep_31 {x0 x1 x2 : Value} {a : Nat} {st : List Value} {h : AH} : Run M_X9_keep 31 [x0, x1, x2] (.ref a :: st) h = if (gF h a 9 0).isSome = true then Run M_X9_keep 34 [x0, x1, x2] ((gF h a 9 0).getD .null :: st) h else none := R_getfield d_X9_keep_31 rfl
theorem d_X9_keep_34 : decode (mB M_X9_keep) 34 = .ok (.iload_n 2, 1) := by decide +kernel
theorem r_X9_keep_34 {x0 x1 : Value} {a : Int32} {st : List Value} {h : AH} : Run M_X9_keep 34 [x0, x1, .int a] st h = Run M_X9_keep 35 [x0, x1, .int a] (.int a :: st) h := R_iload_n d_X9_keep_34 rfl
theorem d_X9_keep_35 : decode (mB M_X9_keep) 35 = .ok (.iaload, 1) := by decide +kernel
theorem r_X9_keep_35 {x0 x1 x2 : Value} {a : Nat} {i : Int32} {st : List Value} {h : AH} : Run M_X9_keep 35 [x0, x1, x2] (.int i :: .ref a :: st) h = if (gI 0 h a i).isSome = true then Run M_X9_keep 36 [x0, x1, x2] (.int ((gI 0 h a i).getD 0) :: st) h else none := R_iaload d_X9_keep_35
theorem d_X9_keep_36 : decode (mB M_X9_keep) 36 = .ok (.iastore, 1) := by decide +kernel
theorem r_X9_keep_36 {x0 x1 x2 : Value} {a : Nat} {i x : Int32} {st : List Value} {h : AH} : Run M_X9_keep 36 [x0, x1, x2] (.int x :: .int i :: .ref a :: st) h = if (pI 0 h a i x).isSome = true then Run M_X9_keep 37 [x0, x1, x2] st ((pI 0 h a i x).getD h) else none := R_iastore d_X9_keep_36
theorem d_X9_keep_37 : decode (mB M_X9_keep) 37 = .ok (.iinc 2 1, 3) := by decide +kernel
theorem r_X9_keep_37 {x0 x1 : Value} {a : Int32} {st : List Value} {h : AH} (hc : x1.category = 1) : Run M_X9_keep 37 [x0, x1, .int a] st h = Run M_X9_keep 40 [x0, x1, .int (a + (nI 1))] st h := R_iinc d_X9_keep_37 (by decide) rfl (catP_of rfl hc)
theorem d_X9_keep_40 : decode (mB M_X9_keep) 40 = .ok (.goto (-26), 3) := by decide +kernel
theorem r_X9_keep_40 {x0 x1 x2 : Value} {st : List Value} {h : AH} : Run M_X9_keep 40 [x0, x1, x2] st h = Run M_X9_keep 14 [x0, x1, x2] st h := R_goto d_X9_keep_40 (by decide)
theorem d_X9_keep_43 : decode (mB M_X9_keep) 43 = .ok (.aload_n 0, 1) := by decide +kernel
theorem r_X9_keep_43 {x1 x2 : Value} {a : Nat} {st : List Value} {h : AH} : Run M_X9_keep 43 [.ref a, x1, x2] st h = Run M_X9_keep 44 [.ref a, x1, x2] (.ref a :: st) h := R_aload_n d_X9_keep_43 rfl
theorem d_X9_keep_44 : decode (mB M_X9_keep) 44 = .ok (.getfield 16, 3) := by decide +kernel
theorem r_X9_keep_44 {x0 x1 x2 : Value} {a : Nat} {st : List Value} {h : AH} : Run M_X9_keep 44 [x0, x1, x2] (.ref a :: st) h = if (gF h a 9 2).isSome = true then Run M_X9_keep 47 [x0, x1, x2] ((gF h a 9 2).getD .null :: st) h else none := R_getfield d_X9_keep_44 rfl
theorem d_X9_keep_47 : decode (mB M_X9_keep) 47 = .ok (.iload_n 1, 1) := by decide +kernel
theorem r_X9_keep_47 {x0 x2 : Value} {a : Int32} {st : List Value} {h : AH} : Run M_X9_keep 47 [x0, .int a, x2] st h = Run M_X9_keep 48 [x0, .int a, x2] (.int a :: st) h := R_iload_n d_X9_keep_47 rfl
theorem d_X9_keep_48 : decode (mB M_X9_keep) 48 = .ok (.iconst 1, 1) := by decide +kernel
theorem r_X9_keep_48 {x0 x1 x2 : Value} {st : List Value} {h : AH} : Run M_X9_keep 48 [x0, x1, x2] st h = Run M_X9_keep 49 [x0, x1, x2] (.int (nI 1) :: st) h := R_iconst d_X9_keep_48 (by decide)
theorem d_X9_keep_49 : decode (mB M_X9_keep) 49 = .ok (.bastore, 1) := by decide +kernel
theorem r_X9_keep_49 {x0 x1 x2 : Value} {a : Nat} {i x : Int32} {st : List Value} {h : AH} : Run M_X9_keep 49 [x0, x1, x2] (.int x :: .int i :: .ref a :: st) h = if (pI 2 h a i (x &&& 1)).isSome = true then Run M_X9_keep 50 [x0, x1, x2] st ((pI 2 h a i (x &&& 1)).getD h) else none := R_bastore d_X9_keep_49
theorem d_X9_keep_50 : decode (mB M_X9_keep) 50 = .ok (.iconst 1, 1) := by decide +kernel
theorem r_X9_keep_50 {x0 x1 x2 : Value} {st : List Value} {h : AH} : Run M_X9_keep 50 [x0, x1, x2] st h = Run M_X9_keep 51 [x0, x1, x2] (.int (nI 1) :: st) h := R_iconst d_X9_keep_50 (by decide)
theorem d_X9_keep_51 : decode (mB M_X9_keep) 51 = .ok (.ireturn, 1) := by decide +kernel
theorem r_X9_keep_51 {x0 x1 x2 : Value} {v : Int32} {h : AH} : Run M_X9_keep 51 [x0, x1, x2] [.int v] h = some (h, some (.int v)) := R_ireturn d_X9_keep_51 rfl rfl
theorem d_X9_goBack_0 : decode (mB M_X9_goBack) 0 = .ok (.iload_n 1, 1) := by decide +kernel
theorem r_X9_goBack_0 {x0 x2 : Value} {a : Int32} {st : List Value} {h : AH} : Run M_X9_goBack 0 [x0, .int a, x2] st h = Run M_X9_goBack 1 [x0, .int a, x2] (.int a :: st) h := R_iload_n d_X9_goBack_0 rfl
theorem d_X9_goBack_1 : decode (mB M_X9_goBack) 1 = .ok (.iconst 0, 1) := by decide +kernel
theorem r_X9_goBack_1 {x0 x1 x2 : Value} {st : List Value} {h : AH} : Run M_X9_goBack 1 [x0, x1, x2] st h = Run M_X9_goBack 2 [x0, x1, x2] (.int (nI 0) :: st) h := R_iconst d_X9_goBack_1 (by decide)
theorem d_X9_goBack_2 : decode (mB M_X9_goBack) 2 = .ok (.iconst 1, 1) := by decide +kernel
theorem r_X9_goBack_2 {x0 x1 x2 : Value} {st : List Value} {h : AH} : Run M_X9_goBack 2 [x0, x1, x2] st h = Run M_X9_goBack 3 [x0, x1, x2] (.int (nI 1) :: st) h := R_iconst d_X9_goBack_2 (by decide)
theorem d_X9_goBack_3 : decode (mB M_X9_goBack) 3 = .ok (.invokestatic 85, 3) := by decide +kernel
theorem r_X9_goBack_3 {x0 x1 x2 : Value} {p0 : Int32} {p1 : Int32} {p2 : Int32} {h : AH} : Run M_X9_goBack 3 [x0, x1, x2] (.int p2 :: .int p1 :: .int p0 :: []) h = if (Call M_X9_in h [.int p0, .int p1, .int p2]).isSome = true then Run M_X9_goBack 6 [x0, x1, x2] (rL (Call M_X9_in h [.int p0, .int p1, .int p2]) ++ []) (cH (Call M_X9_in h [.int p0, .int p1, .int p2])) else none := R_stat d_X9_goBack_3 rfl rfl rfl rfl (Nat.le_of_ble_eq_true rfl)
theorem d_X9_goBack_6 : decode (mB M_X9_goBack) 6 = .ok (.ifCond .ne 6, 3) := by decide +kernel
theorem r_X9_goBack_6 {x0 x1 x2 : Value} {x : Int32} {st : List Value} {h : AH} : Run M_X9_goBack 6 [x0, x1, x2] (.int x :: st) h = if x = nI 0 then Run M_X9_goBack 9 [x0, x1, x2] st h else Run M_X9_goBack 12 [x0, x1, x2] st h := R_if_ne d_X9_goBack_6 (by decide)
theorem d_X9_goBack_9 : decode (mB M_X9_goBack) 9 = .ok (.ldc 195, 2) := by decide +kernel
theorem r_X9_goBack_9 {x0 x1 x2 : Value} {st : List Value} {h : AH} : Run M_X9_goBack 9 [x0, x1, x2] st h = Run M_X9_goBack 11 [x0, x1, x2] (.int (-1000000001) :: st) h := R_ldc d_X9_goBack_9 (by decide)
theorem d_X9_goBack_11 : decode (mB M_X9_goBack) 11 = .ok (.ireturn, 1) := by decide +kernel
theorem r_X9_goBack_11 {x0 x1 x2 : Value} {v : Int32} {h : AH} : Run M_X9_goBack 11 [x0, x1, x2] [.int v] h = some (h, some (.int v)) := R_ireturn d_X9_goBack_11 rfl rfl
theorem d_X9_goBack_12 : decode (mB M_X9_goBack) 12 = .ok (.aload_n 0, 1) := by decide +kernel
theorem r_X9_goBack_12 {x1 x2 : Value} {a : Nat} {st : List Value} {h : AH} : Run M_X9_goBack 12 [.ref a, x1, x2] st h = Run M_X9_goBack 13 [.ref a, x1, x2] (.ref a :: st) h := R_aload_n d_X9_goBack_12 rfl
theorem d_X9_goBack_13 : decode (mB M_X9_goBack) 13 = .ok (.getfield 16, 3) := by decide +kernel
theorem r_X9_goBack_13 {x0 x1 x2 : Value} {a : Nat} {st : List Value} {h : AH} : Run M_X9_goBack 13 [x0, x1, x2] (.ref a :: st) h = if (gF h a 9 2).isSome = true then Run M_X9_goBack 16 [x0, x1, x2] ((gF h a 9 2).getD .null :: st) h else none := R_getfield d_X9_goBack_13 rfl
theorem d_X9_goBack_16 : decode (mB M_X9_goBack) 16 = .ok (.iload_n 1, 1) := by decide +kernel
theorem r_X9_goBack_16 {x0 x2 : Value} {a : Int32} {st : List Value} {h : AH} : Run M_X9_goBack 16 [x0, .int a, x2] st h = Run M_X9_goBack 17 [x0, .int a, x2] (.int a :: st) h := R_iload_n d_X9_goBack_16 rfl
theorem d_X9_goBack_17 : decode (mB M_X9_goBack) 17 = .ok (.baload, 1) := by decide +kernel
theorem r_X9_goBack_17 {x0 x1 x2 : Value} {a : Nat} {i : Int32} {st : List Value} {h : AH} (ha : a ≠ 0) : Run M_X9_goBack 17 [x0, x1, x2] (.int i :: .ref a :: st) h = if (gI 2 h a i).isSome = true then Run M_X9_goBack 18 [x0, x1, x2] (.int ((gI 2 h a i).getD 0) :: st) h else none := R_baload d_X9_goBack_17 ha
theorem d_X9_goBack_18 : decode (mB M_X9_goBack) 18 = .ok (.ifCond .ne 7, 3) := by decide +kernel
theorem r_X9_goBack_18 {x0 x1 x2 : Value} {x : Int32} {st : List Value} {h : AH} : Run M_X9_goBack 18 [x0, x1, x2] (.int x :: st) h = if x = nI 0 then Run M_X9_goBack 21 [x0, x1, x2] st h else Run M_X9_goBack 25 [x0, x1, x2] st h := R_if_ne d_X9_goBack_18 (by decide)
theorem d_X9_goBack_21 : decode (mB M_X9_goBack) 21 = .ok (.ldc_w 269, 3) := by decide +kernel
theorem r_X9_goBack_21 {x0 x1 x2 : Value} {st : List Value} {h : AH} : Run M_X9_goBack 21 [x0, x1, x2] st h = Run M_X9_goBack 24 [x0, x1, x2] (.int (-1000000003) :: st) h := R_ldc_w d_X9_goBack_21 (by decide)
theorem d_X9_goBack_24 : decode (mB M_X9_goBack) 24 = .ok (.ireturn, 1) := by decide +kernel
theorem r_X9_goBack_24 {x0 x1 x2 : Value} {v : Int32} {h : AH} : Run M_X9_goBack 24 [x0, x1, x2] [.int v] h = some (h, some (.int v)) := R_ireturn d_X9_goBack_24 rfl rfl
theorem d_X9_goBack_25 : decode (mB M_X9_goBack) 25 = .ok (.iconst 0, 1) := by decide +kernel
theorem r_X9_goBack_25 {x0 x1 x2 : Value} {st : List Value} {h : AH} : Run M_X9_goBack 25 [x0, x1, x2] st h = Run M_X9_goBack 26 [x0, x1, x2] (.int (nI 0) :: st) h := R_iconst d_X9_goBack_25 (by decide)
theorem d_X9_goBack_26 : decode (mB M_X9_goBack) 26 = .ok (.istore_n 2, 1) := by decide +kernel
theorem r_X9_goBack_26 {x0 x1 x2 : Value} {a : Int32} {st : List Value} {h : AH} (hc : x1.category = 1) : Run M_X9_goBack 26 [x0, x1, x2] (.int a :: st) h = Run M_X9_goBack 27 [x0, x1, .int a] st h := R_istore_n d_X9_goBack_26 (Nat.lt_of_lt_of_le (by decide : 2 < 3) (Nat.le_refl 3)) (catP_of rfl hc)
theorem d_X9_goBack_27 : decode (mB M_X9_goBack) 27 = .ok (.iload_n 2, 1) := by decide +kernel
theorem r_X9_goBack_27 {x0 x1 : Value} {a : Int32} {st : List Value} {h : AH} : Run M_X9_goBack 27 [x0, x1, .int a] st h = Run M_X9_goBack 28 [x0, x1, .int a] (.int a :: st) h := R_iload_n d_X9_goBack_27 rfl
theorem d_X9_goBack_28 : decode (mB M_X9_goBack) 28 = .ok (.bipush 19, 2) := by decide +kernel
theorem r_X9_goBack_28 {x0 x1 x2 : Value} {st : List Value} {h : AH} : Run M_X9_goBack 28 [x0, x1, x2] st h = Run M_X9_goBack 30 [x0, x1, x2] (.int (nI 19) :: st) h := R_bipush d_X9_goBack_28 (by decide)
theorem d_X9_goBack_30 : decode (mB M_X9_goBack) 30 = .ok (.if_icmp .ge 26, 3) := by decide +kernel
theorem r_X9_goBack_30 {x0 x1 x2 : Value} {x y : Int32} {st : List Value} {h : AH} : Run M_X9_goBack 30 [x0, x1, x2] (.int y :: .int x :: st) h = if y ≤ x then Run M_X9_goBack 56 [x0, x1, x2] st h else Run M_X9_goBack 33 [x0, x1, x2] st h := R_icmp_ge d_X9_goBack_30 (by decide)
theorem d_X9_goBack_33 : decode (mB M_X9_goBack) 33 = .ok (.aload_n 0, 1) := by decide +kernel
theorem r_X9_goBack_33 {x1 x2 : Value} {a : Nat} {st : List Value} {h : AH} : Run M_X9_goBack 33 [.ref a, x1, x2] st h = Run M_X9_goBack 34 [.ref a, x1, x2] (.ref a :: st) h := R_aload_n d_X9_goBack_33 rfl
theorem d_X9_goBack_34 : decode (mB M_X9_goBack) 34 = .ok (.getfield 7, 3) := by decide +kernel
theorem r_X9_goBack_34 {x0 x1 x2 : Value} {a : Nat} {st : List Value} {h : AH} : Run M_X9_goBack 34 [x0, x1, x2] (.ref a :: st) h = if (gF h a 9 0).isSome = true then Run M_X9_goBack 37 [x0, x1, x2] ((gF h a 9 0).getD .null :: st) h else none := R_getfield d_X9_goBack_34 rfl
theorem d_X9_goBack_37 : decode (mB M_X9_goBack) 37 = .ok (.iload_n 2, 1) := by decide +kernel
theorem r_X9_goBack_37 {x0 x1 : Value} {a : Int32} {st : List Value} {h : AH} : Run M_X9_goBack 37 [x0, x1, .int a] st h = Run M_X9_goBack 38 [x0, x1, .int a] (.int a :: st) h := R_iload_n d_X9_goBack_37 rfl
theorem d_X9_goBack_38 : decode (mB M_X9_goBack) 38 = .ok (.aload_n 0, 1) := by decide +kernel
theorem r_X9_goBack_38 {x1 x2 : Value} {a : Nat} {st : List Value} {h : AH} : Run M_X9_goBack 38 [.ref a, x1, x2] st h = Run M_X9_goBack 39 [.ref a, x1, x2] (.ref a :: st) h := R_aload_n d_X9_goBack_38 rfl
theorem d_X9_goBack_39 : decode (mB M_X9_goBack) 39 = .ok (.getfield 13, 3) := by decide +kernel
theorem r_X9_goBack_39 {x0 x1 x2 : Value} {a : Nat} {st : List Value} {h : AH} : Run M_X9_goBack 39 [x0, x1, x2] (.ref a :: st) h = if (gF h a 9 1).isSome = true then Run M_X9_goBack 42 [x0, x1, x2] ((gF h a 9 1).getD .null :: st) h else none := R_getfield d_X9_goBack_39 rfl
theorem d_X9_goBack_42 : decode (mB M_X9_goBack) 42 = .ok (.bipush 19, 2) := by decide +kernel
theorem r_X9_goBack_42 {x0 x1 x2 : Value} {st : List Value} {h : AH} : Run M_X9_goBack 42 [x0, x1, x2] st h = Run M_X9_goBack 44 [x0, x1, x2] (.int (nI 19) :: st) h := R_bipush d_X9_goBack_42 (by decide)
theorem d_X9_goBack_44 : decode (mB M_X9_goBack) 44 = .ok (.iload_n 1, 1) := by decide +kernel
theorem r_X9_goBack_44 {x0 x2 : Value} {a : Int32} {st : List Value} {h : AH} : Run M_X9_goBack 44 [x0, .int a, x2] st h = Run M_X9_goBack 45 [x0, .int a, x2] (.int a :: st) h := R_iload_n d_X9_goBack_44 rfl
theorem d_X9_goBack_45 : decode (mB M_X9_goBack) 45 = .ok (.imul, 1) := by decide +kernel
theorem r_X9_goBack_45 {x0 x1 x2 : Value} {x y : Int32} {st : List Value} {h : AH} : Run M_X9_goBack 45 [x0, x1, x2] (.int y :: .int x :: st) h = Run M_X9_goBack 46 [x0, x1, x2] (.int (x * y) :: st) h := R_imul d_X9_goBack_45
theorem d_X9_goBack_46 : decode (mB M_X9_goBack) 46 = .ok (.iload_n 2, 1) := by decide +kernel
theorem r_X9_goBack_46 {x0 x1 : Value} {a : Int32} {st : List Value} {h : AH} : Run M_X9_goBack 46 [x0, x1, .int a] st h = Run M_X9_goBack 47 [x0, x1, .int a] (.int a :: st) h := R_iload_n d_X9_goBack_46 rfl
theorem d_X9_goBack_47 : decode (mB M_X9_goBack) 47 = .ok (.iadd, 1) := by decide +kernel
theorem r_X9_goBack_47 {x0 x1 x2 : Value} {x y : Int32} {st : List Value} {h : AH} : Run M_X9_goBack 47 [x0, x1, x2] (.int y :: .int x :: st) h = Run M_X9_goBack 48 [x0, x1, x2] (.int (x + y) :: st) h := R_iadd d_X9_goBack_47
theorem d_X9_goBack_48 : decode (mB M_X9_goBack) 48 = .ok (.iaload, 1) := by decide +kernel
theorem r_X9_goBack_48 {x0 x1 x2 : Value} {a : Nat} {i : Int32} {st : List Value} {h : AH} : Run M_X9_goBack 48 [x0, x1, x2] (.int i :: .ref a :: st) h = if (gI 0 h a i).isSome = true then Run M_X9_goBack 49 [x0, x1, x2] (.int ((gI 0 h a i).getD 0) :: st) h else none := R_iaload d_X9_goBack_48
theorem d_X9_goBack_49 : decode (mB M_X9_goBack) 49 = .ok (.iastore, 1) := by decide +kernel
theorem r_X9_goBack_49 {x0 x1 x2 : Value} {a : Nat} {i x : Int32} {st : List Value} {h : AH} : Run M_X9_goBack 49 [x0, x1, x2] (.int x :: .int i :: .ref a :: st) h = if (pI 0 h a i x).isSome = true then Run M_X9_goBack 50 [x0, x1, x2] st ((pI 0 h a i x).getD h) else none := R_iastore d_X9_goBack_49
theorem d_X9_goBack_50 : decode (mB M_X9_goBack) 50 = .ok (.iinc 2 1, 3) := by decide +kernel
theorem r_X9_goBack_50 {x0 x1 : Value} {a : Int32} {st : List Value} {h : AH} (hc : x1.category = 1) : Run M_X9_goBack 50 [x0, x1, .int a] st h = Run M_X9_goBack 53 [x0, x1, .int (a + (nI 1))] st h := R_iinc d_X9_goBack_50 (by decide) rfl (catP_of rfl hc)
theorem d_X9_goBack_53 : decode (mB M_X9_goBack) 53 = .ok (.goto (-26), 3) := by decide +kernel
theorem r_X9_goBack_53 {x0 x1 x2 : Value} {st : List Value} {h : AH} : Run M_X9_goBack 53 [x0, x1, x2] st h = Run M_X9_goBack 27 [x0, x1, x2] st h := R_goto d_X9_goBack_53 (by decide)
theorem d_X9_goBack_56 : decode (mB M_X9_goBack) 56 = .ok (.iconst 1, 1) := by decide +kernel
theorem r_X9_goBack_56 {x0 x1 x2 : Value} {st : List Value} {h : AH} : Run M_X9_goBack 56 [x0, x1, x2] st h = Run M_X9_goBack 57 [x0, x1, x2] (.int (nI 1) :: st) h := R_iconst d_X9_goBack_56 (by decide)
theorem d_X9_goBack_57 : decode (mB M_X9_goBack) 57 = .ok (.ireturn, 1) := by decide +kernel
theorem r_X9_goBack_57 {x0 x1 x2 : Value} {v : Int32} {h : AH} : Run M_X9_goBack 57 [x0, x1, x2] [.int v] h = some (h, some (.int v)) := R_ireturn d_X9_goBack_57 rfl rfl
