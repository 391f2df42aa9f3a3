/-! the equations of the run, an instruction each (program: wip/whole/gen_pcs.py) -/
theorem d_X8_init_0 : decode (mB M_X8_init) 0 = .ok (.aload_n 0, 1) := by decide +kernel
theorem r_X8_init_0 {x1 : Value} {a : Nat} {st : List Value} {h : AH} : Run M_X8_init 0 [.ref a, x1] st h = Run M_X8_init 1 [.ref a, x1] (.ref a :: st) h := R_aload_n d_X8_init_0 rfl
theorem d_X8_init_1 : decode (mB M_X8_init) 1 = .ok (.invokespecial 3, 3) := by decide +kernel
theorem r_X8_init_1 {x0 x1 : Value} {a : Nat} {h : AH} : Run M_X8_init 1 [x0, x1] (.ref a :: []) h = Run M_X8_init 4 [x0, x1] [] h := R_obj d_X8_init_1 rfl rfl ⟨by decide, Nat.le_of_ble_eq_true rfl, by decide, by decide⟩
theorem d_X8_init_4 : decode (mB M_X8_init) 4 = .ok (.aload_n 0, 1) := by decide +kernel
theorem r_X8_init_4 {x1 : Value} {a : Nat} {st : List Value} {h : AH} : Run M_X8_init 4 [.ref a, x1] st h = Run M_X8_init 5 [.ref a, x1] (.ref a :: st) h := R_aload_n d_X8_init_4 rfl
theorem d_X8_init_5 : decode (mB M_X8_init) 5 = .ok (.new 9, 3) := by decide +kernel
theorem r_X8_init_5 {x0 x1 : Value} {st : List Value} {h : AH} : Run M_X8_init 5 [x0, x1] st h = Run M_X8_init 8 [x0, x1] (.ref h.1 :: st) (hnew h 8 (oB 7 [.null, .int 0, .int 0, .int 0, .int 0, .int 0, .int 0, .int 0])) := R_new d_X8_init_5 rfl rfl rfl
theorem d_X8_init_8 : decode (mB M_X8_init) 8 = .ok (.dup, 1) := by decide +kernel
theorem r_X8_init_8 {x0 x1 : Value} {x : Nat} {st : List Value} {h : AH} : Run M_X8_init 8 [x0, x1] (.ref x :: st) h = Run M_X8_init 9 [x0, x1] (.ref x :: .ref x :: st) h := R_dupr d_X8_init_8
theorem d_X8_init_9 : decode (mB M_X8_init) 9 = .ok (.invokespecial 11, 3) := by decide +kernel
theorem r_X8_init_9 {x0 x1 : Value} {a : Nat} {w0 w1 : Value} {h : AH} : Run M_X8_init 9 [x0, x1] (.ref a :: [w0, w1]) h = if (Call M_X7_init h [.ref a]).isSome = true then Run M_X8_init 12 [x0, x1] (rL (Call M_X7_init h [.ref a]) ++ [w0, w1]) (cH (Call M_X7_init h [.ref a])) else none := R_specN d_X8_init_9 rfl rfl rfl rfl rfl rfl (Nat.le_of_ble_eq_true rfl)
theorem d_X8_init_12 : decode (mB M_X8_init) 12 = .ok (.putfield 12, 3) := by decide +kernel
theorem r_X8_init_12 {x0 x1 : Value} {v : Nat} {a : Nat} {st : List Value} {h : AH} : Run M_X8_init 12 [x0, x1] (.ref v :: .ref a :: st) h = if (pF h a 8 0 (.ref v)).isSome = true then Run M_X8_init 15 [x0, x1] st ((pF h a 8 0 (.ref v)).getD h) else none := R_putfield d_X8_init_12 rfl (okP_ref rfl (Or.inr ⟨rfl, rfl⟩))
theorem d_X8_init_15 : decode (mB M_X8_init) 15 = .ok (.aload_n 0, 1) := by decide +kernel
theorem r_X8_init_15 {x1 : Value} {a : Nat} {st : List Value} {h : AH} : Run M_X8_init 15 [.ref a, x1] st h = Run M_X8_init 16 [.ref a, x1] (.ref a :: st) h := R_aload_n d_X8_init_15 rfl
theorem d_X8_init_16 : decode (mB M_X8_init) 16 = .ok (.new 16, 3) := by decide +kernel
theorem r_X8_init_16 {x0 x1 : Value} {st : List Value} {h : AH} : Run M_X8_init 16 [x0, x1] st h = Run M_X8_init 19 [x0, x1] (.ref h.1 :: st) (hnew h 5 (oB 2 [.null, .null, .null, .null, .int 0])) := R_new d_X8_init_16 rfl rfl rfl
theorem d_X8_init_19 : decode (mB M_X8_init) 19 = .ok (.dup, 1) := by decide +kernel
theorem r_X8_init_19 {x0 x1 : Value} {x : Nat} {st : List Value} {h : AH} : Run M_X8_init 19 [x0, x1] (.ref x :: st) h = Run M_X8_init 20 [x0, x1] (.ref x :: .ref x :: st) h := R_dupr d_X8_init_19
theorem d_X8_init_20 : decode (mB M_X8_init) 20 = .ok (.invokespecial 18, 3) := by decide +kernel
theorem r_X8_init_20 {x0 x1 : Value} {a : Nat} {w0 w1 : Value} {h : AH} : Run M_X8_init 20 [x0, x1] (.ref a :: [w0, w1]) h = if (Call M_X2_init h [.ref a]).isSome = true then Run M_X8_init 23 [x0, x1] (rL (Call M_X2_init h [.ref a]) ++ [w0, w1]) (cH (Call M_X2_init h [.ref a])) else none := R_spec d_X8_init_20 rfl rfl rfl rfl rfl (Nat.le_of_ble_eq_true rfl)
theorem d_X8_init_23 : decode (mB M_X8_init) 23 = .ok (.putfield 19, 3) := by decide +kernel
theorem r_X8_init_23 {x0 x1 : Value} {v : Nat} {a : Nat} {st : List Value} {h : AH} : Run M_X8_init 23 [x0, x1] (.ref v :: .ref a :: st) h = if (pF h a 8 1 (.ref v)).isSome = true then Run M_X8_init 26 [x0, x1] st ((pF h a 8 1 (.ref v)).getD h) else none := R_putfield d_X8_init_23 rfl (okP_ref rfl (Or.inr ⟨rfl, rfl⟩))
theorem d_X8_init_26 : decode (mB M_X8_init) 26 = .ok (.aload_n 0, 1) := by decide +kernel
theorem r_X8_init_26 {x1 : Value} {a : Nat} {st : List Value} {h : AH} : Run M_X8_init 26 [.ref a, x1] st h = Run M_X8_init 27 [.ref a, x1] (.ref a :: st) h := R_aload_n d_X8_init_26 rfl
theorem d_X8_init_27 : decode (mB M_X8_init) 27 = .ok (.new 23, 3) := by decide +kernel
theorem r_X8_init_27 {x0 x1 : Value} {st : List Value} {h : AH} : Run M_X8_init 27 [x0, x1] st h = Run M_X8_init 30 [x0, x1] (.ref h.1 :: st) (hnew h 7 (oB 5 [.null, .null, .null, .null, .null, .null, .int 0])) := R_new d_X8_init_27 rfl rfl rfl
theorem d_X8_init_30 : decode (mB M_X8_init) 30 = .ok (.dup, 1) := by decide +kernel
theorem r_X8_init_30 {x0 x1 : Value} {x : Nat} {st : List Value} {h : AH} : Run M_X8_init 30 [x0, x1] (.ref x :: st) h = Run M_X8_init 31 [x0, x1] (.ref x :: .ref x :: st) h := R_dupr d_X8_init_30
theorem d_X8_init_31 : decode (mB M_X8_init) 31 = .ok (.invokespecial 25, 3) := by decide +kernel
theorem r_X8_init_31 {x0 x1 : Value} {a : Nat} {w0 w1 : Value} {h : AH} : Run M_X8_init 31 [x0, x1] (.ref a :: [w0, w1]) h = if (Call M_X5_init h [.ref a]).isSome = true then Run M_X8_init 34 [x0, x1] (rL (Call M_X5_init h [.ref a]) ++ [w0, w1]) (cH (Call M_X5_init h [.ref a])) else none := R_specN d_X8_init_31 rfl rfl rfl rfl rfl rfl (Nat.le_of_ble_eq_true rfl)
theorem d_X8_init_34 : decode (mB M_X8_init) 34 = .ok (.putfield 26, 3) := by decide +kernel
theorem r_X8_init_34 {x0 x1 : Value} {v : Nat} {a : Nat} {st : List Value} {h : AH} : Run M_X8_init 34 [x0, x1] (.ref v :: .ref a :: st) h = if (pF h a 8 2 (.ref v)).isSome = true then Run M_X8_init 37 [x0, x1] st ((pF h a 8 2 (.ref v)).getD h) else none := R_putfield d_X8_init_34 rfl (okP_ref rfl (Or.inr ⟨rfl, rfl⟩))
theorem d_X8_init_37 : decode (mB M_X8_init) 37 = .ok (.aload_n 0, 1) := by decide +kernel
theorem r_X8_init_37 {x1 : Value} {a : Nat} {st : List Value} {h : AH} : Run M_X8_init 37 [.ref a, x1] st h = Run M_X8_init 38 [.ref a, x1] (.ref a :: st) h := R_aload_n d_X8_init_37 rfl
theorem d_X8_init_38 : decode (mB M_X8_init) 38 = .ok (.new 30, 3) := by decide +kernel
theorem r_X8_init_38 {x0 x1 : Value} {st : List Value} {h : AH} : Run M_X8_init 38 [x0, x1] st h = Run M_X8_init 41 [x0, x1] (.ref h.1 :: st) (hnew h 3 (oB 3 [.null, .null, .int 0])) := R_new d_X8_init_38 rfl rfl rfl
theorem d_X8_init_41 : decode (mB M_X8_init) 41 = .ok (.dup, 1) := by decide +kernel
theorem r_X8_init_41 {x0 x1 : Value} {x : Nat} {st : List Value} {h : AH} : Run M_X8_init 41 [x0, x1] (.ref x :: st) h = Run M_X8_init 42 [x0, x1] (.ref x :: .ref x :: st) h := R_dupr d_X8_init_41
theorem d_X8_init_42 : decode (mB M_X8_init) 42 = .ok (.invokespecial 32, 3) := by decide +kernel
theorem r_X8_init_42 {x0 x1 : Value} {a : Nat} {w0 w1 : Value} {h : AH} : Run M_X8_init 42 [x0, x1] (.ref a :: [w0, w1]) h = if (Call M_X3_init h [.ref a]).isSome = true then Run M_X8_init 45 [x0, x1] (rL (Call M_X3_init h [.ref a]) ++ [w0, w1]) (cH (Call M_X3_init h [.ref a])) else none := R_specN d_X8_init_42 rfl rfl rfl rfl rfl rfl (Nat.le_of_ble_eq_true rfl)
theorem d_X8_init_45 : decode (mB M_X8_init) 45 = .ok (.putfield 33, 3) := by decide +kernel
theorem r_X8_init_45 {x0 x1 : Value} {v : Nat} {a : Nat} {st : List Value} {h : AH} : Run M_X8_init 45 [x0, x1] (.ref v :: .ref a :: st) h = if (pF h a 8 3 (.ref v)).isSome = true then Run M_X8_init 48 [x0, x1] st ((pF h a 8 3 (.ref v)).getD h) else none := R_putfield d_X8_init_45 rfl (okP_ref rfl (Or.inr ⟨rfl, rfl⟩))
theorem d_X8_init_48 : decode (mB M_X8_init) 48 = .ok (.aload_n 0, 1) := by decide +kernel
theorem r_X8_init_48 {x1 : Value} {a : Nat} {st : List Value} {h : AH} : Run M_X8_init 48 [.ref a, x1] st h = Run M_X8_init 49 [.ref a, x1] (.ref a :: st) h := R_aload_n d_X8_init_48 rfl
theorem d_X8_init_49 : decode (mB M_X8_init) 49 = .ok (.new 37, 3) := by decide +kernel
theorem r_X8_init_49 {x0 x1 : Value} {st : List Value} {h : AH} : Run M_X8_init 49 [x0, x1] st h = Run M_X8_init 52 [x0, x1] (.ref h.1 :: st) (hnew h 3 (oB 1 [.null, .null, .int 0])) := R_new d_X8_init_49 rfl rfl rfl
theorem d_X8_init_52 : decode (mB M_X8_init) 52 = .ok (.dup, 1) := by decide +kernel
theorem r_X8_init_52 {x0 x1 : Value} {x : Nat} {st : List Value} {h : AH} : Run M_X8_init 52 [x0, x1] (.ref x :: st) h = Run M_X8_init 53 [x0, x1] (.ref x :: .ref x :: st) h := R_dupr d_X8_init_52
theorem d_X8_init_53 : decode (mB M_X8_init) 53 = .ok (.invokespecial 39, 3) := by decide +kernel
theorem r_X8_init_53 {x0 x1 : Value} {a : Nat} {w0 w1 : Value} {h : AH} : Run M_X8_init 53 [x0, x1] (.ref a :: [w0, w1]) h = if (Call M_X1_init h [.ref a]).isSome = true then Run M_X8_init 56 [x0, x1] (rL (Call M_X1_init h [.ref a]) ++ [w0, w1]) (cH (Call M_X1_init h [.ref a])) else none := R_specN d_X8_init_53 rfl rfl rfl rfl rfl rfl (Nat.le_of_ble_eq_true rfl)
theorem d_X8_init_56 : decode (mB M_X8_init) 56 = .ok (.putfield 40, 3) := by decide +kernel
theorem r_X8_init_56 {x0 x1 : Value} {v : Nat} {a : Nat} {st : List Value} {h : AH} : Run M_X8_init 56 [x0, x1] (.ref v :: .ref a :: st) h = if (pF h a 8 4 (.ref v)).isSome = true then Run M_X8_init 59 [x0, x1] st ((pF h a 8 4 (.ref v)).getD h) else none := R_putfield d_X8_init_56 rfl (okP_ref rfl (Or.inr ⟨rfl, rfl⟩))
theorem d_X8_init_59 : decode (mB M_X8_init) 59 = .ok (.aload_n 0, 1) := by decide +kernel
theorem r_X8_init_59 {x1 : Value} {a : Nat} {st : List Value} {h : AH} : Run M_X8_init 59 [.ref a, x1] st h = Run M_X8_init 60 [.ref a, x1] (.ref a :: st) h := R_aload_n d_X8_init_59 rfl
theorem d_X8_init_60 : decode (mB M_X8_init) 60 = .ok (.iconst 2, 1) := by decide +kernel
theorem r_X8_init_60 {x0 x1 : Value} {st : List Value} {h : AH} : Run M_X8_init 60 [x0, x1] st h = Run M_X8_init 61 [x0, x1] (.int (nI 2) :: st) h := R_iconst d_X8_init_60 (by decide)
theorem d_X8_init_61 : decode (mB M_X8_init) 61 = .ok (.anewarray 44, 3) := by decide +kernel
theorem r_X8_init_61 {x0 x1 : Value} {st : List Value} {h : AH} : Run M_X8_init 61 [x0, x1] (.int (nI 2) :: st) h = Run M_X8_init 64 [x0, x1] (.ref h.1 :: st) (hnew h 2 (rA 5 2 (fun _ => none))) := R_anewarray d_X8_init_61 rfl ⟨by decide, by decide, by decide⟩ (by decide) rfl
theorem d_X8_init_64 : decode (mB M_X8_init) 64 = .ok (.putfield 46, 3) := by decide +kernel
theorem r_X8_init_64 {x0 x1 : Value} {v : Nat} {a : Nat} {st : List Value} {h : AH} : Run M_X8_init 64 [x0, x1] (.ref v :: .ref a :: st) h = if (pF h a 8 5 (.ref v)).isSome = true then Run M_X8_init 67 [x0, x1] st ((pF h a 8 5 (.ref v)).getD h) else none := R_putfield d_X8_init_64 rfl (okP_arr rfl (Or.inr ⟨rfl, rfl⟩))
theorem d_X8_init_67 : decode (mB M_X8_init) 67 = .ok (.aload_n 0, 1) := by decide +kernel
theorem r_X8_init_67 {x1 : Value} {a : Nat} {st : List Value} {h : AH} : Run M_X8_init 67 [.ref a, x1] st h = Run M_X8_init 68 [.ref a, x1] (.ref a :: st) h := R_aload_n d_X8_init_67 rfl
theorem d_X8_init_68 : decode (mB M_X8_init) 68 = .ok (.iconst 2, 1) := by decide +kernel
theorem r_X8_init_68 {x0 x1 : Value} {st : List Value} {h : AH} : Run M_X8_init 68 [x0, x1] st h = Run M_X8_init 69 [x0, x1] (.int (nI 2) :: st) h := R_iconst d_X8_init_68 (by decide)
theorem d_X8_init_69 : decode (mB M_X8_init) 69 = .ok (.newarray .boolean, 2) := by decide +kernel
theorem r_X8_init_69 {x0 x1 : Value} {st : List Value} {h : AH} : Run M_X8_init 69 [x0, x1] (.int (nI 2) :: st) h = Run M_X8_init 71 [x0, x1] (.ref h.1 :: st) (hnew h 2 (zA 2 (fun _ => 0))) := R_newarray d_X8_init_69 rfl ⟨by decide, by decide⟩ (by decide) rfl
theorem d_X8_init_71 : decode (mB M_X8_init) 71 = .ok (.putfield 50, 3) := by decide +kernel
theorem r_X8_init_71 {x0 x1 : Value} {v : Nat} {a : Nat} {st : List Value} {h : AH} : Run M_X8_init 71 [x0, x1] (.ref v :: .ref a :: st) h = if (pF h a 8 6 (.ref v)).isSome = true then Run M_X8_init 74 [x0, x1] st ((pF h a 8 6 (.ref v)).getD h) else none := R_putfield d_X8_init_71 rfl (okP_arr rfl (Or.inr ⟨rfl, rfl⟩))
theorem d_X8_init_74 : decode (mB M_X8_init) 74 = .ok (.aload_n 0, 1) := by decide +kernel
theorem r_X8_init_74 {x1 : Value} {a : Nat} {st : List Value} {h : AH} : Run M_X8_init 74 [.ref a, x1] st h = Run M_X8_init 75 [.ref a, x1] (.ref a :: st) h := R_aload_n d_X8_init_74 rfl
theorem d_X8_init_75 : decode (mB M_X8_init) 75 = .ok (.new 54, 3) := by decide +kernel
theorem r_X8_init_75 {x0 x1 : Value} {st : List Value} {h : AH} : Run M_X8_init 75 [x0, x1] st h = Run M_X8_init 78 [x0, x1] (.ref h.1 :: st) (hnew h 7 (oB 4 [.int 0, .null, .int 0, .int 0, .null, .null, .null])) := R_new d_X8_init_75 rfl rfl rfl
theorem d_X8_init_78 : decode (mB M_X8_init) 78 = .ok (.dup, 1) := by decide +kernel
theorem r_X8_init_78 {x0 x1 : Value} {x : Nat} {st : List Value} {h : AH} : Run M_X8_init 78 [x0, x1] (.ref x :: st) h = Run M_X8_init 79 [x0, x1] (.ref x :: .ref x :: st) h := R_dupr d_X8_init_78
theorem d_X8_init_79 : decode (mB M_X8_init) 79 = .ok (.invokespecial 56, 3) := by decide +kernel
theorem r_X8_init_79 {x0 x1 : Value} {a : Nat} {w0 w1 : Value} {h : AH} : Run M_X8_init 79 [x0, x1] (.ref a :: [w0, w1]) h = if (Call M_X4_init h [.ref a]).isSome = true then Run M_X8_init 82 [x0, x1] (rL (Call M_X4_init h [.ref a]) ++ [w0, w1]) (cH (Call M_X4_init h [.ref a])) else none := R_spec d_X8_init_79 rfl rfl rfl rfl rfl (Nat.le_of_ble_eq_true rfl)
theorem d_X8_init_82 : decode (mB M_X8_init) 82 = .ok (.putfield 57, 3) := by decide +kernel
theorem r_X8_init_82 {x0 x1 : Value} {v : Nat} {a : Nat} {st : List Value} {h : AH} : Run M_X8_init 82 [x0, x1] (.ref v :: .ref a :: st) h = if (pF h a 8 7 (.ref v)).isSome = true then Run M_X8_init 85 [x0, x1] st ((pF h a 8 7 (.ref v)).getD h) else none := R_putfield d_X8_init_82 rfl (okP_ref rfl (Or.inl rfl))
theorem d_X8_init_85 : decode (mB M_X8_init) 85 = .ok (.aload_n 0, 1) := by decide +kernel
theorem r_X8_init_85 {x1 : Value} {a : Nat} {st : List Value} {h : AH} : Run M_X8_init 85 [.ref a, x1] st h = Run M_X8_init 86 [.ref a, x1] (.ref a :: st) h := R_aload_n d_X8_init_85 rfl
theorem d_X8_init_86 : decode (mB M_X8_init) 86 = .ok (.new 54, 3) := by decide +kernel
theorem r_X8_init_86 {x0 x1 : Value} {st : List Value} {h : AH} : Run M_X8_init 86 [x0, x1] st h = Run M_X8_init 89 [x0, x1] (.ref h.1 :: st) (hnew h 7 (oB 4 [.int 0, .null, .int 0, .int 0, .null, .null, .null])) := R_new d_X8_init_86 rfl rfl rfl
theorem d_X8_init_89 : decode (mB M_X8_init) 89 = .ok (.dup, 1) := by decide +kernel
theorem r_X8_init_89 {x0 x1 : Value} {x : Nat} {st : List Value} {h : AH} : Run M_X8_init 89 [x0, x1] (.ref x :: st) h = Run M_X8_init 90 [x0, x1] (.ref x :: .ref x :: st) h := R_dupr d_X8_init_89
theorem d_X8_init_90 : decode (mB M_X8_init) 90 = .ok (.invokespecial 56, 3) := by decide +kernel
theorem r_X8_init_90 {x0 x1 : Value} {a : Nat} {w0 w1 : Value} {h : AH} : Run M_X8_init 90 [x0, x1] (.ref a :: [w0, w1]) h = if (Call M_X4_init h [.ref a]).isSome = true then Run M_X8_init 93 [x0, x1] (rL (Call M_X4_init h [.ref a]) ++ [w0, w1]) (cH (Call M_X4_init h [.ref a])) else none := R_spec d_X8_init_90 rfl rfl rfl rfl rfl (Nat.le_of_ble_eq_true rfl)
theorem d_X8_init_93 : decode (mB M_X8_init) 93 = .ok (.putfield 61, 3) := by decide +kernel
theorem r_X8_init_93 {x0 x1 : Value} {v : Nat} {a : Nat} {st : List Value} {h : AH} : Run M_X8_init 93 [x0, x1] (.ref v :: .ref a :: st) h = if (pF h a 8 8 (.ref v)).isSome = true then Run M_X8_init 96 [x0, x1] st ((pF h a 8 8 (.ref v)).getD h) else none := R_putfield d_X8_init_93 rfl (okP_ref rfl (Or.inl rfl))
theorem d_X8_init_96 : decode (mB M_X8_init) 96 = .ok (.iconst 0, 1) := by decide +kernel
theorem r_X8_init_96 {x0 x1 : Value} {st : List Value} {h : AH} : Run M_X8_init 96 [x0, x1] st h = Run M_X8_init 97 [x0, x1] (.int (nI 0) :: st) h := R_iconst d_X8_init_96 (by decide)
theorem d_X8_init_97 : decode (mB M_X8_init) 97 = .ok (.istore_n 1, 1) := by decide +kernel
theorem r_X8_init_97 {x0 x1 : Value} {a : Int32} {st : List Value} {h : AH} (hc : x0.category = 1) : Run M_X8_init 97 [x0, x1] (.int a :: st) h = Run M_X8_init 98 [x0, .int a] st h := R_istore_n d_X8_init_97 (Nat.lt_of_lt_of_le (by decide : 1 < 2) (Nat.le_refl 2)) (catP_of rfl hc)
theorem d_X8_init_98 : decode (mB M_X8_init) 98 = .ok (.iload_n 1, 1) := by decide +kernel
theorem r_X8_init_98 {x0 : Value} {a : Int32} {st : List Value} {h : AH} : Run M_X8_init 98 [x0, .int a] st h = Run M_X8_init 99 [x0, .int a] (.int a :: st) h := R_iload_n d_X8_init_98 rfl
theorem d_X8_init_99 : decode (mB M_X8_init) 99 = .ok (.iconst 2, 1) := by decide +kernel
theorem r_X8_init_99 {x0 x1 : Value} {st : List Value} {h : AH} : Run M_X8_init 99 [x0, x1] st h = Run M_X8_init 100 [x0, x1] (.int (nI 2) :: st) h := R_iconst d_X8_init_99 (by decide)
theorem d_X8_init_100 : decode (mB M_X8_init) 100 = .ok (.if_icmp .ge 22, 3) := by decide +kernel
theorem r_X8_init_100 {x0 x1 : Value} {x y : Int32} {st : List Value} {h : AH} : Run M_X8_init 100 [x0, x1] (.int y :: .int x :: st) h = if y ≤ x then Run M_X8_init 122 [x0, x1] st h else Run M_X8_init 103 [x0, x1] st h := R_icmp_ge d_X8_init_100 (by decide)
theorem d_X8_init_103 : decode (mB M_X8_init) 103 = .ok (.aload_n 0, 1) := by decide +kernel
theorem r_X8_init_103 {x1 : Value} {a : Nat} {st : List Value} {h : AH} : Run M_X8_init 103 [.ref a, x1] st h = Run M_X8_init 104 [.ref a, x1] (.ref a :: st) h := R_aload_n d_X8_init_103 rfl
theorem d_X8_init_104 : decode (mB M_X8_init) 104 = .ok (.getfield 46, 3) := by decide +kernel
theorem r_X8_init_104 {x0 x1 : Value} {a : Nat} {st : List Value} {h : AH} : Run M_X8_init 104 [x0, x1] (.ref a :: st) h = if (gF h a 8 5).isSome = true then Run M_X8_init 107 [x0, x1] ((gF h a 8 5).getD .null :: st) h else none := R_getfield d_X8_init_104 rfl
theorem d_X8_init_107 : decode (mB M_X8_init) 107 = .ok (.iload_n 1, 1) := by decide +kernel
theorem r_X8_init_107 {x0 : Value} {a : Int32} {st : List Value} {h : AH} : Run M_X8_init 107 [x0, .int a] st h = Run M_X8_init 108 [x0, .int a] (.int a :: st) h := R_iload_n d_X8_init_107 rfl
theorem d_X8_init_108 : decode (mB M_X8_init) 108 = .ok (.new 44, 3) := by decide +kernel
theorem r_X8_init_108 {x0 x1 : Value} {st : List Value} {h : AH} : Run M_X8_init 108 [x0, x1] st h = Run M_X8_init 111 [x0, x1] (.ref h.1 :: st) (hnew h 11 (oB 0 [.int 0, .int 0, .int 0, .int 0, .int 0, .null, .null, .int 0, .int 0, .int 0, .int 0])) := R_new d_X8_init_108 rfl rfl rfl
theorem d_X8_init_111 : decode (mB M_X8_init) 111 = .ok (.dup, 1) := by decide +kernel
theorem r_X8_init_111 {x0 x1 : Value} {x : Nat} {st : List Value} {h : AH} : Run M_X8_init 111 [x0, x1] (.ref x :: st) h = Run M_X8_init 112 [x0, x1] (.ref x :: .ref x :: st) h := R_dupr d_X8_init_111
theorem d_X8_init_112 : decode (mB M_X8_init) 112 = .ok (.invokespecial 64, 3) := by decide +kernel
theorem r_X8_init_112 {x0 x1 : Value} {a : Nat} {w0 w1 w2 : Value} {h : AH} : Run M_X8_init 112 [x0, x1] (.ref a :: [w0, w1, w2]) h = if (Call M_X0_init h [.ref a]).isSome = true then Run M_X8_init 115 [x0, x1] (rL (Call M_X0_init h [.ref a]) ++ [w0, w1, w2]) (cH (Call M_X0_init h [.ref a])) else none := R_specN d_X8_init_112 rfl rfl rfl rfl rfl rfl (Nat.le_of_ble_eq_true rfl)
theorem d_X8_init_115 : decode (mB M_X8_init) 115 = .ok (.aastore, 1) := by decide +kernel
theorem r_X8_init_115 {x0 x1 : Value} {a x : Nat} {i : Int32} {st : List Value} {h : AH} : Run M_X8_init 115 [x0, x1] (.ref x :: .int i :: .ref a :: st) h = if (pR h a i x).isSome = true then Run M_X8_init 116 [x0, x1] st ((pR h a i x).getD h) else none := R_aastore d_X8_init_115
theorem d_X8_init_116 : decode (mB M_X8_init) 116 = .ok (.iinc 1 1, 3) := by decide +kernel
theorem r_X8_init_116 {x0 : Value} {a : Int32} {st : List Value} {h : AH} (hc : x0.category = 1) : Run M_X8_init 116 [x0, .int a] st h = Run M_X8_init 119 [x0, .int (a + (nI 1))] st h := R_iinc d_X8_init_116 (by decide) rfl (catP_of rfl hc)
theorem d_X8_init_119 : decode (mB M_X8_init) 119 = .ok (.goto (-21), 3) := by decide +kernel
theorem r_X8_init_119 {x0 x1 : Value} {st : List Value} {h : AH} : Run M_X8_init 119 [x0, x1] st h = Run M_X8_init 98 [x0, x1] st h := R_goto d_X8_init_119 (by decide)
theorem d_X8_init_122 : decode (mB M_X8_init) 122 = .ok (.return_, 1) := by decide +kernel
theorem r_X8_init_122 {x0 x1 : Value} {h : AH} : Run M_X8_init 122 [x0, x1] [] h = some (h, none) := R_return d_X8_init_122 rfl
theorem d_X8_feed_0 : decode (mB M_X8_feed) 0 = .ok (.iload_n 1, 1) := by decide +kernel
theorem r_X8_feed_0 {x0 : Value} {a : Int32} {st : List Value} {h : AH} : Run M_X8_feed 0 [x0, .int a] st h = Run M_X8_feed 1 [x0, .int a] (.int a :: st) h := R_iload_n d_X8_feed_0 rfl
theorem d_X8_feed_1 : decode (mB M_X8_feed) 1 = .ok (.iconst 0, 1) := by decide +kernel
theorem r_X8_feed_1 {x0 x1 : Value} {st : List Value} {h : AH} : Run M_X8_feed 1 [x0, x1] st h = Run M_X8_feed 2 [x0, x1] (.int (nI 0) :: st) h := R_iconst d_X8_feed_1 (by decide)
theorem d_X8_feed_2 : decode (mB M_X8_feed) 2 = .ok (.sipush 255, 3) := by decide +kernel
theorem r_X8_feed_2 {x0 x1 : Value} {st : List Value} {h : AH} : Run M_X8_feed 2 [x0, x1] st h = Run M_X8_feed 5 [x0, x1] (.int (nI 255) :: st) h := R_sipush d_X8_feed_2 (by decide)
theorem d_X8_feed_5 : decode (mB M_X8_feed) 5 = .ok (.invokestatic 65, 3) := by decide +kernel
theorem r_X8_feed_5 {x0 x1 : Value} {p0 : Int32} {p1 : Int32} {p2 : Int32} {h : AH} : Run M_X8_feed 5 [x0, x1] (.int p2 :: .int p1 :: .int p0 :: []) h = if (Call M_X8_within h [.int p0, .int p1, .int p2]).isSome = true then Run M_X8_feed 8 [x0, x1] (rL (Call M_X8_within h [.int p0, .int p1, .int p2]) ++ []) (cH (Call M_X8_within h [.int p0, .int p1, .int p2])) else none := R_stat d_X8_feed_5 rfl rfl rfl rfl (Nat.le_of_ble_eq_true rfl)
theorem d_X8_feed_8 : decode (mB M_X8_feed) 8 = .ok (.ifCond .ne 6, 3) := by decide +kernel
theorem r_X8_feed_8 {x0 x1 : Value} {x : Int32} {st : List Value} {h : AH} : Run M_X8_feed 8 [x0, x1] (.int x :: st) h = if x = nI 0 then Run M_X8_feed 11 [x0, x1] st h else Run M_X8_feed 14 [x0, x1] st h := R_if_ne d_X8_feed_8 (by decide)
theorem d_X8_feed_11 : decode (mB M_X8_feed) 11 = .ok (.ldc 69, 2) := by decide +kernel
theorem r_X8_feed_11 {x0 x1 : Value} {st : List Value} {h : AH} : Run M_X8_feed 11 [x0, x1] st h = Run M_X8_feed 13 [x0, x1] (.int (-1000000002) :: st) h := R_ldc d_X8_feed_11 (by decide)
theorem d_X8_feed_13 : decode (mB M_X8_feed) 13 = .ok (.ireturn, 1) := by decide +kernel
theorem r_X8_feed_13 {x0 x1 : Value} {v : Int32} {h : AH} : Run M_X8_feed 13 [x0, x1] [.int v] h = some (h, some (.int v)) := R_ireturn d_X8_feed_13 rfl rfl
theorem d_X8_feed_14 : decode (mB M_X8_feed) 14 = .ok (.aload_n 0, 1) := by decide +kernel
theorem r_X8_feed_14 {x1 : Value} {a : Nat} {st : List Value} {h : AH} : Run M_X8_feed 14 [.ref a, x1] st h = Run M_X8_feed 15 [.ref a, x1] (.ref a :: st) h := R_aload_n d_X8_feed_14 rfl
theorem d_X8_feed_15 : decode (mB M_X8_feed) 15 = .ok (.getfield 12, 3) := by decide +kernel
theorem r_X8_feed_15 {x0 x1 : Value} {a : Nat} {st : List Value} {h : AH} : Run M_X8_feed 15 [x0, x1] (.ref a :: st) h = if (gF h a 8 0).isSome = true then Run M_X8_feed 18 [x0, x1] ((gF h a 8 0).getD .null :: st) h else none := R_getfield d_X8_feed_15 rfl
theorem d_X8_feed_18 : decode (mB M_X8_feed) 18 = .ok (.iload_n 1, 1) := by decide +kernel
theorem r_X8_feed_18 {x0 : Value} {a : Int32} {st : List Value} {h : AH} : Run M_X8_feed 18 [x0, .int a] st h = Run M_X8_feed 19 [x0, .int a] (.int a :: st) h := R_iload_n d_X8_feed_18 rfl
theorem d_X8_feed_19 : decode (mB M_X8_feed) 19 = .ok (.invokevirtual 70, 3) := by decide +kernel
theorem r_X8_feed_19 {x0 x1 : Value} {p0 : Int32} {a : Nat} {h : AH} : Run M_X8_feed 19 [x0, x1] (.int p0 :: .ref a :: []) h = if refO h 7 (some (.ref a)) = true then (if (Call M_X7_put h [.ref a, .int p0]).isSome = true then Run M_X8_feed 22 [x0, x1] (rL (Call M_X7_put h [.ref a, .int p0]) ++ []) (cH (Call M_X7_put h [.ref a, .int p0])) else none) else none := R_virt d_X8_feed_19 rfl rfl rfl rfl rfl (Nat.le_of_ble_eq_true rfl)
theorem d_X8_feed_22 : decode (mB M_X8_feed) 22 = .ok (.ifCond .eq 13, 3) := by decide +kernel
theorem r_X8_feed_22 {x0 x1 : Value} {x : Int32} {st : List Value} {h : AH} : Run M_X8_feed 22 [x0, x1] (.int x :: st) h = if x = nI 0 then Run M_X8_feed 35 [x0, x1] st h else Run M_X8_feed 25 [x0, x1] st h := R_if_eq d_X8_feed_22 (by decide)
theorem d_X8_feed_25 : decode (mB M_X8_feed) 25 = .ok (.aload_n 0, 1) := by decide +kernel
theorem r_X8_feed_25 {x1 : Value} {a : Nat} {st : List Value} {h : AH} : Run M_X8_feed 25 [.ref a, x1] st h = Run M_X8_feed 26 [.ref a, x1] (.ref a :: st) h := R_aload_n d_X8_feed_25 rfl
theorem d_X8_feed_26 : decode (mB M_X8_feed) 26 = .ok (.getfield 12, 3) := by decide +kernel
theorem r_X8_feed_26 {x0 x1 : Value} {a : Nat} {st : List Value} {h : AH} : Run M_X8_feed 26 [x0, x1] (.ref a :: st) h = if (gF h a 8 0).isSome = true then Run M_X8_feed 29 [x0, x1] ((gF h a 8 0).getD .null :: st) h else none := R_getfield d_X8_feed_26 rfl
theorem d_X8_feed_29 : decode (mB M_X8_feed) 29 = .ok (.getfield 74, 3) := by decide +kernel
theorem r_X8_feed_29 {x0 x1 : Value} {a : Nat} {st : List Value} {h : AH} : Run M_X8_feed 29 [x0, x1] (.ref a :: st) h = if (gF h a 7 1).isSome = true then Run M_X8_feed 32 [x0, x1] ((gF h a 7 1).getD .null :: st) h else none := R_getfield d_X8_feed_29 rfl
theorem d_X8_feed_32 : decode (mB M_X8_feed) 32 = .ok (.goto 5, 3) := by decide +kernel
theorem r_X8_feed_32 {x0 x1 : Value} {st : List Value} {h : AH} : Run M_X8_feed 32 [x0, x1] st h = Run M_X8_feed 37 [x0, x1] st h := R_goto d_X8_feed_32 (by decide)
theorem d_X8_feed_35 : decode (mB M_X8_feed) 35 = .ok (.ldc 78, 2) := by decide +kernel
theorem r_X8_feed_35 {x0 x1 : Value} {st : List Value} {h : AH} : Run M_X8_feed 35 [x0, x1] st h = Run M_X8_feed 37 [x0, x1] (.int (-1000000004) :: st) h := R_ldc d_X8_feed_35 (by decide)
theorem d_X8_feed_37 : decode (mB M_X8_feed) 37 = .ok (.ireturn, 1) := by decide +kernel
theorem r_X8_feed_37 {x0 x1 : Value} {v : Int32} {h : AH} : Run M_X8_feed 37 [x0, x1] [.int v] h = some (h, some (.int v)) := R_ireturn d_X8_feed_37 rfl rfl
theorem d_X8_hall_0 : decode (mB M_X8_hall) 0 = .ok (.aload_n 0, 1) := by decide +kernel
theorem r_X8_hall_0 {x1 : Value} {a : Nat} {st : List Value} {h : AH} : Run M_X8_hall 0 [.ref a, x1] st h = Run M_X8_hall 1 [.ref a, x1] (.ref a :: st) h := R_aload_n d_X8_hall_0 rfl
theorem d_X8_hall_1 : decode (mB M_X8_hall) 1 = .ok (.getfield 12, 3) := by decide +kernel
theorem r_X8_hall_1 {x0 x1 : Value} {a : Nat} {st : List Value} {h : AH} : Run M_X8_hall 1 [x0, x1] (.ref a :: st) h = if (gF h a 8 0).isSome = true then Run M_X8_hall 4 [x0, x1] ((gF h a 8 0).getD .null :: st) h else none := R_getfield d_X8_hall_1 rfl
theorem d_X8_hall_4 : decode (mB M_X8_hall) 4 = .ok (.aload_n 0, 1) := by decide +kernel
theorem r_X8_hall_4 {x1 : Value} {a : Nat} {st : List Value} {h : AH} : Run M_X8_hall 4 [.ref a, x1] st h = Run M_X8_hall 5 [.ref a, x1] (.ref a :: st) h := R_aload_n d_X8_hall_4 rfl
theorem d_X8_hall_5 : decode (mB M_X8_hall) 5 = .ok (.getfield 61, 3) := by decide +kernel
theorem r_X8_hall_5 {x0 x1 : Value} {a : Nat} {st : List Value} {h : AH} : Run M_X8_hall 5 [x0, x1] (.ref a :: st) h = if (gF h a 8 8).isSome = true then Run M_X8_hall 8 [x0, x1] ((gF h a 8 8).getD .null :: st) h else none := R_getfield d_X8_hall_5 rfl
theorem d_X8_hall_8 : decode (mB M_X8_hall) 8 = .ok (.invokevirtual 79, 3) := by decide +kernel
theorem r_X8_hall_8 {x0 x1 : Value} {p0 : Nat} {a : Nat} {h : AH} : Run M_X8_hall 8 [x0, x1] (.ref p0 :: .ref a :: []) h = if refO h 7 (some (.ref a)) = true then (if (Call M_X7_readInto h [.ref a, .ref p0]).isSome = true then Run M_X8_hall 11 [x0, x1] (rL (Call M_X7_readInto h [.ref a, .ref p0]) ++ []) (cH (Call M_X7_readInto h [.ref a, .ref p0])) else none) else none := R_virt d_X8_hall_8 rfl rfl rfl rfl rfl (Nat.le_of_ble_eq_true rfl)
theorem d_X8_hall_11 : decode (mB M_X8_hall) 11 = .ok (.istore_n 1, 1) := by decide +kernel
theorem r_X8_hall_11 {x0 x1 : Value} {a : Int32} {st : List Value} {h : AH} (hc : x0.category = 1) : Run M_X8_hall 11 [x0, x1] (.int a :: st) h = Run M_X8_hall 12 [x0, .int a] st h := R_istore_n d_X8_hall_11 (Nat.lt_of_lt_of_le (by decide : 1 < 2) (Nat.le_refl 2)) (catP_of rfl hc)
theorem d_X8_hall_12 : decode (mB M_X8_hall) 12 = .ok (.aload_n 0, 1) := by decide +kernel
theorem r_X8_hall_12 {x1 : Value} {a : Nat} {st : List Value} {h : AH} : Run M_X8_hall 12 [.ref a, x1] st h = Run M_X8_hall 13 [.ref a, x1] (.ref a :: st) h := R_aload_n d_X8_hall_12 rfl
theorem d_X8_hall_13 : decode (mB M_X8_hall) 13 = .ok (.getfield 12, 3) := by decide +kernel
theorem r_X8_hall_13 {x0 x1 : Value} {a : Nat} {st : List Value} {h : AH} : Run M_X8_hall 13 [x0, x1] (.ref a :: st) h = if (gF h a 8 0).isSome = true then Run M_X8_hall 16 [x0, x1] ((gF h a 8 0).getD .null :: st) h else none := R_getfield d_X8_hall_13 rfl
theorem d_X8_hall_16 : decode (mB M_X8_hall) 16 = .ok (.iconst 0, 1) := by decide +kernel
theorem r_X8_hall_16 {x0 x1 : Value} {st : List Value} {h : AH} : Run M_X8_hall 16 [x0, x1] st h = Run M_X8_hall 17 [x0, x1] (.int (nI 0) :: st) h := R_iconst d_X8_hall_16 (by decide)
theorem d_X8_hall_17 : decode (mB M_X8_hall) 17 = .ok (.putfield 74, 3) := by decide +kernel
theorem r_X8_hall_17 {x0 x1 : Value} {v : Int32} {a : Nat} {st : List Value} {h : AH} : Run M_X8_hall 17 [x0, x1] (.int v :: .ref a :: st) h = if (pF h a 7 1 (.int v)).isSome = true then Run M_X8_hall 20 [x0, x1] st ((pF h a 7 1 (.int v)).getD h) else none := R_putfield d_X8_hall_17 rfl (okP_int rfl rfl)
theorem d_X8_hall_20 : decode (mB M_X8_hall) 20 = .ok (.iload_n 1, 1) := by decide +kernel
theorem r_X8_hall_20 {x0 : Value} {a : Int32} {st : List Value} {h : AH} : Run M_X8_hall 20 [x0, .int a] st h = Run M_X8_hall 21 [x0, .int a] (.int a :: st) h := R_iload_n d_X8_hall_20 rfl
theorem d_X8_hall_21 : decode (mB M_X8_hall) 21 = .ok (.ifCond .eq 8, 3) := by decide +kernel
theorem r_X8_hall_21 {x0 x1 : Value} {x : Int32} {st : List Value} {h : AH} : Run M_X8_hall 21 [x0, x1] (.int x :: st) h = if x = nI 0 then Run M_X8_hall 29 [x0, x1] st h else Run M_X8_hall 24 [x0, x1] st h := R_if_eq d_X8_hall_21 (by decide)
theorem d_X8_hall_24 : decode (mB M_X8_hall) 24 = .ok (.bipush (-10), 2) := by decide +kernel
theorem r_X8_hall_24 {x0 x1 : Value} {st : List Value} {h : AH} : Run M_X8_hall 24 [x0, x1] st h = Run M_X8_hall 26 [x0, x1] (.int (-10) :: st) h := R_bipush d_X8_hall_24 (by decide)
theorem d_X8_hall_26 : decode (mB M_X8_hall) 26 = .ok (.iload_n 1, 1) := by decide +kernel
theorem r_X8_hall_26 {x0 : Value} {a : Int32} {st : List Value} {h : AH} : Run M_X8_hall 26 [x0, .int a] st h = Run M_X8_hall 27 [x0, .int a] (.int a :: st) h := R_iload_n d_X8_hall_26 rfl
theorem d_X8_hall_27 : decode (mB M_X8_hall) 27 = .ok (.isub, 1) := by decide +kernel
theorem r_X8_hall_27 {x0 x1 : Value} {x y : Int32} {st : List Value} {h : AH} : Run M_X8_hall 27 [x0, x1] (.int y :: .int x :: st) h = Run M_X8_hall 28 [x0, x1] (.int (x - y) :: st) h := R_isub d_X8_hall_27
theorem d_X8_hall_28 : decode (mB M_X8_hall) 28 = .ok (.ireturn, 1) := by decide +kernel
theorem r_X8_hall_28 {x0 x1 : Value} {v : Int32} {h : AH} : Run M_X8_hall 28 [x0, x1] [.int v] h = some (h, some (.int v)) := R_ireturn d_X8_hall_28 rfl rfl
theorem d_X8_hall_29 : decode (mB M_X8_hall) 29 = .ok (.aload_n 0, 1) := by decide +kernel
theorem r_X8_hall_29 {x1 : Value} {a : Nat} {st : List Value} {h : AH} : Run M_X8_hall 29 [.ref a, x1] st h = Run M_X8_hall 30 [.ref a, x1] (.ref a :: st) h := R_aload_n d_X8_hall_29 rfl
theorem d_X8_hall_30 : decode (mB M_X8_hall) 30 = .ok (.invokevirtual 83, 3) := by decide +kernel
theorem r_X8_hall_30 {x0 x1 : Value} {a : Nat} {h : AH} : Run M_X8_hall 30 [x0, x1] (.ref a :: []) h = if refO h 8 (some (.ref a)) = true then (if (Call M_X8_openSpare h [.ref a]).isSome = true then Run M_X8_hall 33 [x0, x1] (rL (Call M_X8_openSpare h [.ref a]) ++ []) (cH (Call M_X8_openSpare h [.ref a])) else none) else none := R_virt d_X8_hall_30 rfl rfl rfl rfl rfl (Nat.le_of_ble_eq_true rfl)
theorem d_X8_hall_33 : decode (mB M_X8_hall) 33 = .ok (.aload_n 0, 1) := by decide +kernel
theorem r_X8_hall_33 {x1 : Value} {a : Nat} {st : List Value} {h : AH} : Run M_X8_hall 33 [.ref a, x1] st h = Run M_X8_hall 34 [.ref a, x1] (.ref a :: st) h := R_aload_n d_X8_hall_33 rfl
theorem d_X8_hall_34 : decode (mB M_X8_hall) 34 = .ok (.getfield 57, 3) := by decide +kernel
theorem r_X8_hall_34 {x0 x1 : Value} {a : Nat} {st : List Value} {h : AH} : Run M_X8_hall 34 [x0, x1] (.ref a :: st) h = if (gF h a 8 7).isSome = true then Run M_X8_hall 37 [x0, x1] ((gF h a 8 7).getD .null :: st) h else none := R_getfield d_X8_hall_34 rfl
theorem d_X8_hall_37 : decode (mB M_X8_hall) 37 = .ok (.getfield 86, 3) := by decide +kernel
theorem r_X8_hall_37 {x0 x1 : Value} {a : Nat} {st : List Value} {h : AH} : Run M_X8_hall 37 [x0, x1] (.ref a :: st) h = if (gF h a 4 0).isSome = true then Run M_X8_hall 40 [x0, x1] ((gF h a 4 0).getD .null :: st) h else none := R_getfield d_X8_hall_37 rfl
theorem d_X8_hall_40 : decode (mB M_X8_hall) 40 = .ok (.ireturn, 1) := by decide +kernel
theorem r_X8_hall_40 {x0 x1 : Value} {v : Int32} {h : AH} : Run M_X8_hall 40 [x0, x1] [.int v] h = some (h, some (.int v)) := R_ireturn d_X8_hall_40 rfl rfl
theorem d_X8_fault_0 : decode (mB M_X8_fault) 0 = .ok (.aload_n 0, 1) := by decide +kernel
theorem r_X8_fault_0 {a : Nat} {st : List Value} {h : AH} : Run M_X8_fault 0 [.ref a] st h = Run M_X8_fault 1 [.ref a] (.ref a :: st) h := R_aload_n d_X8_fault_0 rfl
theorem d_X8_fault_1 : decode (mB M_X8_fault) 1 = .ok (.getfield 12, 3) := by decide +kernel
theorem r_X8_fault_1 {x0 : Value} {a : Nat} {st : List Value} {h : AH} : Run M_X8_fault 1 [x0] (.ref a :: st) h = if (gF h a 8 0).isSome = true then Run M_X8_fault 4 [x0] ((gF h a 8 0).getD .null :: st) h else none := R_getfield d_X8_fault_1 rfl
theorem d_X8_fault_4 : decode (mB M_X8_fault) 4 = .ok (.getfield 89, 3) := by decide +kernel
theorem r_X8_fault_4 {x0 : Value} {a : Nat} {st : List Value} {h : AH} : Run M_X8_fault 4 [x0] (.ref a :: st) h = if (gF h a 7 2).isSome = true then Run M_X8_fault 7 [x0] ((gF h a 7 2).getD .null :: st) h else none := R_getfield d_X8_fault_4 rfl
theorem d_X8_fault_7 : decode (mB M_X8_fault) 7 = .ok (.ireturn, 1) := by decide +kernel
theorem r_X8_fault_7 {x0 : Value} {v : Int32} {h : AH} : Run M_X8_fault 7 [x0] [.int v] h = some (h, some (.int v)) := R_ireturn d_X8_fault_7 rfl rfl
theorem d_X8_told_0 : decode (mB M_X8_told) 0 = .ok (.aload_n 0, 1) := by decide +kernel
theorem r_X8_told_0 {x1 x2 : Value} {a : Nat} {st : List Value} {h : AH} : Run M_X8_told 0 [.ref a, x1, x2] st h = Run M_X8_told 1 [.ref a, x1, x2] (.ref a :: st) h := R_aload_n d_X8_told_0 rfl
theorem d_X8_told_1 : decode (mB M_X8_told) 1 = .ok (.getfield 57, 3) := by decide +kernel
theorem r_X8_told_1 {x0 x1 x2 : Value} {a : Nat} {st : List Value} {h : AH} : Run M_X8_told 1 [x0, x1, x2] (.ref a :: st) h = if (gF h a 8 7).isSome = true then Run M_X8_told 4 [x0, x1, x2] ((gF h a 8 7).getD .null :: st) h else none := R_getfield d_X8_told_1 rfl
theorem d_X8_told_4 : decode (mB M_X8_told) 4 = .ok (.getfield 92, 3) := by decide +kernel
theorem r_X8_told_4 {x0 x1 x2 : Value} {a : Nat} {st : List Value} {h : AH} : Run M_X8_told 4 [x0, x1, x2] (.ref a :: st) h = if (gF h a 4 6).isSome = true then Run M_X8_told 7 [x0, x1, x2] ((gF h a 4 6).getD .null :: st) h else none := R_getfield d_X8_told_4 rfl
theorem d_X8_told_7 : decode (mB M_X8_told) 7 = .ok (.astore_n 2, 1) := by decide +kernel
theorem r_X8_told_7 {x0 x1 x2 : Value} {a : Nat} {st : List Value} {h : AH} (hc : x1.category = 1) : Run M_X8_told 7 [x0, x1, x2] (.ref a :: st) h = Run M_X8_told 8 [x0, x1, .ref a] st h := R_astore_n d_X8_told_7 (Nat.lt_of_lt_of_le (by decide : 2 < 3) (Nat.le_refl 3)) (catP_of rfl hc)
theorem d_X8_told_8 : decode (mB M_X8_told) 8 = .ok (.iload_n 1, 1) := by decide +kernel
theorem r_X8_told_8 {x0 x2 : Value} {a : Int32} {st : List Value} {h : AH} : Run M_X8_told 8 [x0, .int a, x2] st h = Run M_X8_told 9 [x0, .int a, x2] (.int a :: st) h := R_iload_n d_X8_told_8 rfl
theorem d_X8_told_9 : decode (mB M_X8_told) 9 = .ok (.tableswitch 159 0 13 #[71, 79, 87, 95, 103, 108, 113, 118, 123, 128, 133, 138, 143, 151], 71) := by decide +kernel
theorem r_X8_told_9 {x0 x1 x2 : Value} {x : Int32} {st : List Value} {h : AH} : Run M_X8_told 9 [x0, x1, x2] (.int x :: st) h = if x = (nI 0) then Run M_X8_told 80 [x0, x1, x2] st h else if x = (nI 1) then Run M_X8_told 88 [x0, x1, x2] st h else if x = (nI 2) then Run M_X8_told 96 [x0, x1, x2] st h else if x = (nI 3) then Run M_X8_told 104 [x0, x1, x2] st h else if x = (nI 4) then Run M_X8_told 112 [x0, x1, x2] st h else if x = (nI 5) then Run M_X8_told 117 [x0, x1, x2] st h else if x = (nI 6) then Run M_X8_told 122 [x0, x1, x2] st h else if x = (nI 7) then Run M_X8_told 127 [x0, x1, x2] st h else if x = (nI 8) then Run M_X8_told 132 [x0, x1, x2] st h else if x = (nI 9) then Run M_X8_told 137 [x0, x1, x2] st h else if x = (nI 10) then Run M_X8_told 142 [x0, x1, x2] st h else if x = (nI 11) then Run M_X8_told 147 [x0, x1, x2] st h else if x = (nI 12) then Run M_X8_told 152 [x0, x1, x2] st h else if x = (nI 13) then Run M_X8_told 160 [x0, x1, x2] st h else Run M_X8_told 168 [x0, x1, x2] st h := by
  by_cases h0 : x = (nI 0)
  · subst h0; rw [if_pos rfl]; exact R_tabIn (off := 71) d_X8_told_9 (by decide) (by decide) (by decide) (by decide)
  rw [if_neg h0]
  by_cases h1 : x = (nI 1)
  · subst h1; rw [if_pos rfl]; exact R_tabIn (off := 79) d_X8_told_9 (by decide) (by decide) (by decide) (by decide)
  rw [if_neg h1]
  by_cases h2 : x = (nI 2)
  · subst h2; rw [if_pos rfl]; exact R_tabIn (off := 87) d_X8_told_9 (by decide) (by decide) (by decide) (by decide)
  rw [if_neg h2]
  by_cases h3 : x = (nI 3)
  · subst h3; rw [if_pos rfl]; exact R_tabIn (off := 95) d_X8_told_9 (by decide) (by decide) (by decide) (by decide)
  rw [if_neg h3]
  by_cases h4 : x = (nI 4)
  · subst h4; rw [if_pos rfl]; exact R_tabIn (off := 103) d_X8_told_9 (by decide) (by decide) (by decide) (by decide)
  rw [if_neg h4]
  by_cases h5 : x = (nI 5)
  · subst h5; rw [if_pos rfl]; exact R_tabIn (off := 108) d_X8_told_9 (by decide) (by decide) (by decide) (by decide)
  rw [if_neg h5]
  by_cases h6 : x = (nI 6)
  · subst h6; rw [if_pos rfl]; exact R_tabIn (off := 113) d_X8_told_9 (by decide) (by decide) (by decide) (by decide)
  rw [if_neg h6]
  by_cases h7 : x = (nI 7)
  · subst h7; rw [if_pos rfl]; exact R_tabIn (off := 118) d_X8_told_9 (by decide) (by decide) (by decide) (by decide)
  rw [if_neg h7]
  by_cases h8 : x = (nI 8)
  · subst h8; rw [if_pos rfl]; exact R_tabIn (off := 123) d_X8_told_9 (by decide) (by decide) (by decide) (by decide)
  rw [if_neg h8]
  by_cases h9 : x = (nI 9)
  · subst h9; rw [if_pos rfl]; exact R_tabIn (off := 128) d_X8_told_9 (by decide) (by decide) (by decide) (by decide)
  rw [if_neg h9]
  by_cases h10 : x = (nI 10)
  · subst h10; rw [if_pos rfl]; exact R_tabIn (off := 133) d_X8_told_9 (by decide) (by decide) (by decide) (by decide)
  rw [if_neg h10]
  by_cases h11 : x = (nI 11)
  · subst h11; rw [if_pos rfl]; exact R_tabIn (off := 138) d_X8_told_9 (by decide) (by decide) (by decide) (by decide)
  rw [if_neg h11]
  by_cases h12 : x = (nI 12)
  · subst h12; rw [if_pos rfl]; exact R_tabIn (off := 143) d_X8_told_9 (by decide) (by decide) (by decide) (by decide)
  rw [if_neg h12]
  by_cases h13 : x = (nI 13)
  · subst h13; rw [if_pos rfl]; exact R_tabIn (off := 151) d_X8_told_9 (by decide) (by decide) (by decide) (by decide)
  rw [if_neg h13]
  refine R_tabOut d_X8_told_9 (by decide) ?_ (by decide)
  have e0 : ¬ x.toInt = 0 := lv_neT h0 (by decide)
  have e1 : ¬ x.toInt = 1 := lv_neT h1 (by decide)
  have e2 : ¬ x.toInt = 2 := lv_neT h2 (by decide)
  have e3 : ¬ x.toInt = 3 := lv_neT h3 (by decide)
  have e4 : ¬ x.toInt = 4 := lv_neT h4 (by decide)
  have e5 : ¬ x.toInt = 5 := lv_neT h5 (by decide)
  have e6 : ¬ x.toInt = 6 := lv_neT h6 (by decide)
  have e7 : ¬ x.toInt = 7 := lv_neT h7 (by decide)
  have e8 : ¬ x.toInt = 8 := lv_neT h8 (by decide)
  have e9 : ¬ x.toInt = 9 := lv_neT h9 (by decide)
  have e10 : ¬ x.toInt = 10 := lv_neT h10 (by decide)
  have e11 : ¬ x.toInt = 11 := lv_neT h11 (by decide)
  have e12 : ¬ x.toInt = 12 := lv_neT h12 (by decide)
  have e13 : ¬ x.toInt = 13 := lv_neT h13 (by decide)
  omega
theorem d_X8_told_80 : decode (mB M_X8_told) 80 = .ok (.aload_n 0, 1) := by decide +kernel
theorem r_X8_told_80 {x1 x2 : Value} {a : Nat} {st : List Value} {h : AH} : Run M_X8_told 80 [.ref a, x1, x2] st h = Run M_X8_told 81 [.ref a, x1, x2] (.ref a :: st) h := R_aload_n d_X8_told_80 rfl
theorem d_X8_told_81 : decode (mB M_X8_told) 81 = .ok (.getfield 57, 3) := by decide +kernel
theorem r_X8_told_81 {x0 x1 x2 : Value} {a : Nat} {st : List Value} {h : AH} : Run M_X8_told 81 [x0, x1, x2] (.ref a :: st) h = if (gF h a 8 7).isSome = true then Run M_X8_told 84 [x0, x1, x2] ((gF h a 8 7).getD .null :: st) h else none := R_getfield d_X8_told_81 rfl
theorem d_X8_told_84 : decode (mB M_X8_told) 84 = .ok (.getfield 86, 3) := by decide +kernel
theorem r_X8_told_84 {x0 x1 x2 : Value} {a : Nat} {st : List Value} {h : AH} : Run M_X8_told 84 [x0, x1, x2] (.ref a :: st) h = if (gF h a 4 0).isSome = true then Run M_X8_told 87 [x0, x1, x2] ((gF h a 4 0).getD .null :: st) h else none := R_getfield d_X8_told_84 rfl
theorem d_X8_told_87 : decode (mB M_X8_told) 87 = .ok (.ireturn, 1) := by decide +kernel
theorem r_X8_told_87 {x0 x1 x2 : Value} {v : Int32} {h : AH} : Run M_X8_told 87 [x0, x1, x2] [.int v] h = some (h, some (.int v)) := R_ireturn d_X8_told_87 rfl rfl
theorem d_X8_told_88 : decode (mB M_X8_told) 88 = .ok (.aload_n 0, 1) := by decide +kernel
theorem r_X8_told_88 {x1 x2 : Value} {a : Nat} {st : List Value} {h : AH} : Run M_X8_told 88 [.ref a, x1, x2] st h = Run M_X8_told 89 [.ref a, x1, x2] (.ref a :: st) h := R_aload_n d_X8_told_88 rfl
theorem d_X8_told_89 : decode (mB M_X8_told) 89 = .ok (.getfield 57, 3) := by decide +kernel
theorem r_X8_told_89 {x0 x1 x2 : Value} {a : Nat} {st : List Value} {h : AH} : Run M_X8_told 89 [x0, x1, x2] (.ref a :: st) h = if (gF h a 8 7).isSome = true then Run M_X8_told 92 [x0, x1, x2] ((gF h a 8 7).getD .null :: st) h else none := R_getfield d_X8_told_89 rfl
theorem d_X8_told_92 : decode (mB M_X8_told) 92 = .ok (.getfield 96, 3) := by decide +kernel
theorem r_X8_told_92 {x0 x1 x2 : Value} {a : Nat} {st : List Value} {h : AH} : Run M_X8_told 92 [x0, x1, x2] (.ref a :: st) h = if (gF h a 4 2).isSome = true then Run M_X8_told 95 [x0, x1, x2] ((gF h a 4 2).getD .null :: st) h else none := R_getfield d_X8_told_92 rfl
theorem d_X8_told_95 : decode (mB M_X8_told) 95 = .ok (.ireturn, 1) := by decide +kernel
theorem r_X8_told_95 {x0 x1 x2 : Value} {v : Int32} {h : AH} : Run M_X8_told 95 [x0, x1, x2] [.int v] h = some (h, some (.int v)) := R_ireturn d_X8_told_95 rfl rfl
theorem d_X8_told_96 : decode (mB M_X8_told) 96 = .ok (.aload_n 0, 1) := by decide +kernel
theorem r_X8_told_96 {x1 x2 : Value} {a : Nat} {st : List Value} {h : AH} : Run M_X8_told 96 [.ref a, x1, x2] st h = Run M_X8_told 97 [.ref a, x1, x2] (.ref a :: st) h := R_aload_n d_X8_told_96 rfl
theorem d_X8_told_97 : decode (mB M_X8_told) 97 = .ok (.getfield 57, 3) := by decide +kernel
theorem r_X8_told_97 {x0 x1 x2 : Value} {a : Nat} {st : List Value} {h : AH} : Run M_X8_told 97 [x0, x1, x2] (.ref a :: st) h = if (gF h a 8 7).isSome = true then Run M_X8_told 100 [x0, x1, x2] ((gF h a 8 7).getD .null :: st) h else none := R_getfield d_X8_told_97 rfl
theorem d_X8_told_100 : decode (mB M_X8_told) 100 = .ok (.getfield 99, 3) := by decide +kernel
theorem r_X8_told_100 {x0 x1 x2 : Value} {a : Nat} {st : List Value} {h : AH} : Run M_X8_told 100 [x0, x1, x2] (.ref a :: st) h = if (gF h a 4 3).isSome = true then Run M_X8_told 103 [x0, x1, x2] ((gF h a 4 3).getD .null :: st) h else none := R_getfield d_X8_told_100 rfl
theorem d_X8_told_103 : decode (mB M_X8_told) 103 = .ok (.ireturn, 1) := by decide +kernel
theorem r_X8_told_103 {x0 x1 x2 : Value} {v : Int32} {h : AH} : Run M_X8_told 103 [x0, x1, x2] [.int v] h = some (h, some (.int v)) := R_ireturn d_X8_told_103 rfl rfl
theorem d_X8_told_104 : decode (mB M_X8_told) 104 = .ok (.aload_n 0, 1) := by decide +kernel
theorem r_X8_told_104 {x1 x2 : Value} {a : Nat} {st : List Value} {h : AH} : Run M_X8_told 104 [.ref a, x1, x2] st h = Run M_X8_told 105 [.ref a, x1, x2] (.ref a :: st) h := R_aload_n d_X8_told_104 rfl
theorem d_X8_told_105 : decode (mB M_X8_told) 105 = .ok (.getfield 12, 3) := by decide +kernel
theorem r_X8_told_105 {x0 x1 x2 : Value} {a : Nat} {st : List Value} {h : AH} : Run M_X8_told 105 [x0, x1, x2] (.ref a :: st) h = if (gF h a 8 0).isSome = true then Run M_X8_told 108 [x0, x1, x2] ((gF h a 8 0).getD .null :: st) h else none := R_getfield d_X8_told_105 rfl
theorem d_X8_told_108 : decode (mB M_X8_told) 108 = .ok (.getfield 74, 3) := by decide +kernel
theorem r_X8_told_108 {x0 x1 x2 : Value} {a : Nat} {st : List Value} {h : AH} : Run M_X8_told 108 [x0, x1, x2] (.ref a :: st) h = if (gF h a 7 1).isSome = true then Run M_X8_told 111 [x0, x1, x2] ((gF h a 7 1).getD .null :: st) h else none := R_getfield d_X8_told_108 rfl
theorem d_X8_told_111 : decode (mB M_X8_told) 111 = .ok (.ireturn, 1) := by decide +kernel
theorem r_X8_told_111 {x0 x1 x2 : Value} {v : Int32} {h : AH} : Run M_X8_told 111 [x0, x1, x2] [.int v] h = some (h, some (.int v)) := R_ireturn d_X8_told_111 rfl rfl
theorem d_X8_told_112 : decode (mB M_X8_told) 112 = .ok (.aload_n 2, 1) := by decide +kernel
theorem r_X8_told_112 {x0 x1 : Value} {a : Nat} {st : List Value} {h : AH} : Run M_X8_told 112 [x0, x1, .ref a] st h = Run M_X8_told 113 [x0, x1, .ref a] (.ref a :: st) h := R_aload_n d_X8_told_112 rfl
theorem d_X8_told_113 : decode (mB M_X8_told) 113 = .ok (.getfield 102, 3) := by decide +kernel
theorem r_X8_told_113 {x0 x1 x2 : Value} {a : Nat} {st : List Value} {h : AH} : Run M_X8_told 113 [x0, x1, x2] (.ref a :: st) h = if (gF h a 0 3).isSome = true then Run M_X8_told 116 [x0, x1, x2] ((gF h a 0 3).getD .null :: st) h else none := R_getfield d_X8_told_113 rfl
theorem d_X8_told_116 : decode (mB M_X8_told) 116 = .ok (.ireturn, 1) := by decide +kernel
theorem r_X8_told_116 {x0 x1 x2 : Value} {v : Int32} {h : AH} : Run M_X8_told 116 [x0, x1, x2] [.int v] h = some (h, some (.int v)) := R_ireturn d_X8_told_116 rfl rfl
theorem d_X8_told_117 : decode (mB M_X8_told) 117 = .ok (.aload_n 2, 1) := by decide +kernel
theorem r_X8_told_117 {x0 x1 : Value} {a : Nat} {st : List Value} {h : AH} : Run M_X8_told 117 [x0, x1, .ref a] st h = Run M_X8_told 118 [x0, x1, .ref a] (.ref a :: st) h := R_aload_n d_X8_told_117 rfl
theorem d_X8_told_118 : decode (mB M_X8_told) 118 = .ok (.getfield 105, 3) := by decide +kernel
theorem r_X8_told_118 {x0 x1 x2 : Value} {a : Nat} {st : List Value} {h : AH} : Run M_X8_told 118 [x0, x1, x2] (.ref a :: st) h = if (gF h a 0 4).isSome = true then Run M_X8_told 121 [x0, x1, x2] ((gF h a 0 4).getD .null :: st) h else none := R_getfield d_X8_told_118 rfl
theorem d_X8_told_121 : decode (mB M_X8_told) 121 = .ok (.ireturn, 1) := by decide +kernel
theorem r_X8_told_121 {x0 x1 x2 : Value} {v : Int32} {h : AH} : Run M_X8_told 121 [x0, x1, x2] [.int v] h = some (h, some (.int v)) := R_ireturn d_X8_told_121 rfl rfl
theorem d_X8_told_122 : decode (mB M_X8_told) 122 = .ok (.aload_n 2, 1) := by decide +kernel
theorem r_X8_told_122 {x0 x1 : Value} {a : Nat} {st : List Value} {h : AH} : Run M_X8_told 122 [x0, x1, .ref a] st h = Run M_X8_told 123 [x0, x1, .ref a] (.ref a :: st) h := R_aload_n d_X8_told_122 rfl
theorem d_X8_told_123 : decode (mB M_X8_told) 123 = .ok (.getfield 108, 3) := by decide +kernel
theorem r_X8_told_123 {x0 x1 x2 : Value} {a : Nat} {st : List Value} {h : AH} : Run M_X8_told 123 [x0, x1, x2] (.ref a :: st) h = if (gF h a 0 0).isSome = true then Run M_X8_told 126 [x0, x1, x2] ((gF h a 0 0).getD .null :: st) h else none := R_getfield d_X8_told_123 rfl
theorem d_X8_told_126 : decode (mB M_X8_told) 126 = .ok (.ireturn, 1) := by decide +kernel
theorem r_X8_told_126 {x0 x1 x2 : Value} {v : Int32} {h : AH} : Run M_X8_told 126 [x0, x1, x2] [.int v] h = some (h, some (.int v)) := R_ireturn d_X8_told_126 rfl rfl
theorem d_X8_told_127 : decode (mB M_X8_told) 127 = .ok (.aload_n 2, 1) := by decide +kernel
theorem r_X8_told_127 {x0 x1 : Value} {a : Nat} {st : List Value} {h : AH} : Run M_X8_told 127 [x0, x1, .ref a] st h = Run M_X8_told 128 [x0, x1, .ref a] (.ref a :: st) h := R_aload_n d_X8_told_127 rfl
theorem d_X8_told_128 : decode (mB M_X8_told) 128 = .ok (.getfield 111, 3) := by decide +kernel
theorem r_X8_told_128 {x0 x1 x2 : Value} {a : Nat} {st : List Value} {h : AH} : Run M_X8_told 128 [x0, x1, x2] (.ref a :: st) h = if (gF h a 0 1).isSome = true then Run M_X8_told 131 [x0, x1, x2] ((gF h a 0 1).getD .null :: st) h else none := R_getfield d_X8_told_128 rfl
theorem d_X8_told_131 : decode (mB M_X8_told) 131 = .ok (.ireturn, 1) := by decide +kernel
theorem r_X8_told_131 {x0 x1 x2 : Value} {v : Int32} {h : AH} : Run M_X8_told 131 [x0, x1, x2] [.int v] h = some (h, some (.int v)) := R_ireturn d_X8_told_131 rfl rfl
theorem d_X8_told_132 : decode (mB M_X8_told) 132 = .ok (.aload_n 2, 1) := by decide +kernel
theorem r_X8_told_132 {x0 x1 : Value} {a : Nat} {st : List Value} {h : AH} : Run M_X8_told 132 [x0, x1, .ref a] st h = Run M_X8_told 133 [x0, x1, .ref a] (.ref a :: st) h := R_aload_n d_X8_told_132 rfl
theorem d_X8_told_133 : decode (mB M_X8_told) 133 = .ok (.getfield 114, 3) := by decide +kernel
theorem r_X8_told_133 {x0 x1 x2 : Value} {a : Nat} {st : List Value} {h : AH} : Run M_X8_told 133 [x0, x1, x2] (.ref a :: st) h = if (gF h a 0 2).isSome = true then Run M_X8_told 136 [x0, x1, x2] ((gF h a 0 2).getD .null :: st) h else none := R_getfield d_X8_told_133 rfl
theorem d_X8_told_136 : decode (mB M_X8_told) 136 = .ok (.ireturn, 1) := by decide +kernel
theorem r_X8_told_136 {x0 x1 x2 : Value} {v : Int32} {h : AH} : Run M_X8_told 136 [x0, x1, x2] [.int v] h = some (h, some (.int v)) := R_ireturn d_X8_told_136 rfl rfl
theorem d_X8_told_137 : decode (mB M_X8_told) 137 = .ok (.aload_n 2, 1) := by decide +kernel
theorem r_X8_told_137 {x0 x1 : Value} {a : Nat} {st : List Value} {h : AH} : Run M_X8_told 137 [x0, x1, .ref a] st h = Run M_X8_told 138 [x0, x1, .ref a] (.ref a :: st) h := R_aload_n d_X8_told_137 rfl
theorem d_X8_told_138 : decode (mB M_X8_told) 138 = .ok (.getfield 117, 3) := by decide +kernel
theorem r_X8_told_138 {x0 x1 x2 : Value} {a : Nat} {st : List Value} {h : AH} : Run M_X8_told 138 [x0, x1, x2] (.ref a :: st) h = if (gF h a 0 7).isSome = true then Run M_X8_told 141 [x0, x1, x2] ((gF h a 0 7).getD .null :: st) h else none := R_getfield d_X8_told_138 rfl
theorem d_X8_told_141 : decode (mB M_X8_told) 141 = .ok (.ireturn, 1) := by decide +kernel
theorem r_X8_told_141 {x0 x1 x2 : Value} {v : Int32} {h : AH} : Run M_X8_told 141 [x0, x1, x2] [.int v] h = some (h, some (.int v)) := R_ireturn d_X8_told_141 rfl rfl
theorem d_X8_told_142 : decode (mB M_X8_told) 142 = .ok (.aload_n 2, 1) := by decide +kernel
theorem r_X8_told_142 {x0 x1 : Value} {a : Nat} {st : List Value} {h : AH} : Run M_X8_told 142 [x0, x1, .ref a] st h = Run M_X8_told 143 [x0, x1, .ref a] (.ref a :: st) h := R_aload_n d_X8_told_142 rfl
theorem d_X8_told_143 : decode (mB M_X8_told) 143 = .ok (.getfield 120, 3) := by decide +kernel
theorem r_X8_told_143 {x0 x1 x2 : Value} {a : Nat} {st : List Value} {h : AH} : Run M_X8_told 143 [x0, x1, x2] (.ref a :: st) h = if (gF h a 0 8).isSome = true then Run M_X8_told 146 [x0, x1, x2] ((gF h a 0 8).getD .null :: st) h else none := R_getfield d_X8_told_143 rfl
theorem d_X8_told_146 : decode (mB M_X8_told) 146 = .ok (.ireturn, 1) := by decide +kernel
theorem r_X8_told_146 {x0 x1 x2 : Value} {v : Int32} {h : AH} : Run M_X8_told 146 [x0, x1, x2] [.int v] h = some (h, some (.int v)) := R_ireturn d_X8_told_146 rfl rfl
theorem d_X8_told_147 : decode (mB M_X8_told) 147 = .ok (.aload_n 2, 1) := by decide +kernel
theorem r_X8_told_147 {x0 x1 : Value} {a : Nat} {st : List Value} {h : AH} : Run M_X8_told 147 [x0, x1, .ref a] st h = Run M_X8_told 148 [x0, x1, .ref a] (.ref a :: st) h := R_aload_n d_X8_told_147 rfl
theorem d_X8_told_148 : decode (mB M_X8_told) 148 = .ok (.getfield 123, 3) := by decide +kernel
theorem r_X8_told_148 {x0 x1 x2 : Value} {a : Nat} {st : List Value} {h : AH} : Run M_X8_told 148 [x0, x1, x2] (.ref a :: st) h = if (gF h a 0 9).isSome = true then Run M_X8_told 151 [x0, x1, x2] ((gF h a 0 9).getD .null :: st) h else none := R_getfield d_X8_told_148 rfl
theorem d_X8_told_151 : decode (mB M_X8_told) 151 = .ok (.ireturn, 1) := by decide +kernel
theorem r_X8_told_151 {x0 x1 x2 : Value} {v : Int32} {h : AH} : Run M_X8_told 151 [x0, x1, x2] [.int v] h = some (h, some (.int v)) := R_ireturn d_X8_told_151 rfl rfl
theorem d_X8_told_152 : decode (mB M_X8_told) 152 = .ok (.aload_n 0, 1) := by decide +kernel
theorem r_X8_told_152 {x1 x2 : Value} {a : Nat} {st : List Value} {h : AH} : Run M_X8_told 152 [.ref a, x1, x2] st h = Run M_X8_told 153 [.ref a, x1, x2] (.ref a :: st) h := R_aload_n d_X8_told_152 rfl
theorem d_X8_told_153 : decode (mB M_X8_told) 153 = .ok (.getfield 33, 3) := by decide +kernel
theorem r_X8_told_153 {x0 x1 x2 : Value} {a : Nat} {st : List Value} {h : AH} : Run M_X8_told 153 [x0, x1, x2] (.ref a :: st) h = if (gF h a 8 3).isSome = true then Run M_X8_told 156 [x0, x1, x2] ((gF h a 8 3).getD .null :: st) h else none := R_getfield d_X8_told_153 rfl
theorem d_X8_told_156 : decode (mB M_X8_told) 156 = .ok (.getfield 126, 3) := by decide +kernel
theorem r_X8_told_156 {x0 x1 x2 : Value} {a : Nat} {st : List Value} {h : AH} : Run M_X8_told 156 [x0, x1, x2] (.ref a :: st) h = if (gF h a 3 2).isSome = true then Run M_X8_told 159 [x0, x1, x2] ((gF h a 3 2).getD .null :: st) h else none := R_getfield d_X8_told_156 rfl
theorem d_X8_told_159 : decode (mB M_X8_told) 159 = .ok (.ireturn, 1) := by decide +kernel
theorem r_X8_told_159 {x0 x1 x2 : Value} {v : Int32} {h : AH} : Run M_X8_told 159 [x0, x1, x2] [.int v] h = some (h, some (.int v)) := R_ireturn d_X8_told_159 rfl rfl
theorem d_X8_told_160 : decode (mB M_X8_told) 160 = .ok (.aload_n 0, 1) := by decide +kernel
theorem r_X8_told_160 {x1 x2 : Value} {a : Nat} {st : List Value} {h : AH} : Run M_X8_told 160 [.ref a, x1, x2] st h = Run M_X8_told 161 [.ref a, x1, x2] (.ref a :: st) h := R_aload_n d_X8_told_160 rfl
theorem d_X8_told_161 : decode (mB M_X8_told) 161 = .ok (.getfield 40, 3) := by decide +kernel
theorem r_X8_told_161 {x0 x1 x2 : Value} {a : Nat} {st : List Value} {h : AH} : Run M_X8_told 161 [x0, x1, x2] (.ref a :: st) h = if (gF h a 8 4).isSome = true then Run M_X8_told 164 [x0, x1, x2] ((gF h a 8 4).getD .null :: st) h else none := R_getfield d_X8_told_161 rfl
theorem d_X8_told_164 : decode (mB M_X8_told) 164 = .ok (.getfield 127, 3) := by decide +kernel
theorem r_X8_told_164 {x0 x1 x2 : Value} {a : Nat} {st : List Value} {h : AH} : Run M_X8_told 164 [x0, x1, x2] (.ref a :: st) h = if (gF h a 1 2).isSome = true then Run M_X8_told 167 [x0, x1, x2] ((gF h a 1 2).getD .null :: st) h else none := R_getfield d_X8_told_164 rfl
theorem d_X8_told_167 : decode (mB M_X8_told) 167 = .ok (.ireturn, 1) := by decide +kernel
theorem r_X8_told_167 {x0 x1 x2 : Value} {v : Int32} {h : AH} : Run M_X8_told 167 [x0, x1, x2] [.int v] h = some (h, some (.int v)) := R_ireturn d_X8_told_167 rfl rfl
theorem d_X8_told_168 : decode (mB M_X8_told) 168 = .ok (.ldc 69, 2) := by decide +kernel
theorem r_X8_told_168 {x0 x1 x2 : Value} {st : List Value} {h : AH} : Run M_X8_told 168 [x0, x1, x2] st h = Run M_X8_told 170 [x0, x1, x2] (.int (-1000000002) :: st) h := R_ldc d_X8_told_168 (by decide)
theorem d_X8_told_170 : decode (mB M_X8_told) 170 = .ok (.ireturn, 1) := by decide +kernel
theorem r_X8_told_170 {x0 x1 x2 : Value} {v : Int32} {h : AH} : Run M_X8_told 170 [x0, x1, x2] [.int v] h = some (h, some (.int v)) := R_ireturn d_X8_told_170 rfl rfl
theorem d_X8_part_0 : decode (mB M_X8_part) 0 = .ok (.aload_n 0, 1) := by decide +kernel
theorem r_X8_part_0 {x1 x2 x3 : Value} {a : Nat} {st : List Value} {h : AH} : Run M_X8_part 0 [.ref a, x1, x2, x3] st h = Run M_X8_part 1 [.ref a, x1, x2, x3] (.ref a :: st) h := R_aload_n d_X8_part_0 rfl
theorem d_X8_part_1 : decode (mB M_X8_part) 1 = .ok (.getfield 57, 3) := by decide +kernel
theorem r_X8_part_1 {x0 x1 x2 x3 : Value} {a : Nat} {st : List Value} {h : AH} : Run M_X8_part 1 [x0, x1, x2, x3] (.ref a :: st) h = if (gF h a 8 7).isSome = true then Run M_X8_part 4 [x0, x1, x2, x3] ((gF h a 8 7).getD .null :: st) h else none := R_getfield d_X8_part_1 rfl
theorem d_X8_part_4 : decode (mB M_X8_part) 4 = .ok (.iload_n 1, 1) := by decide +kernel
theorem r_X8_part_4 {x0 x2 x3 : Value} {a : Int32} {st : List Value} {h : AH} : Run M_X8_part 4 [x0, .int a, x2, x3] st h = Run M_X8_part 5 [x0, .int a, x2, x3] (.int a :: st) h := R_iload_n d_X8_part_4 rfl
theorem d_X8_part_5 : decode (mB M_X8_part) 5 = .ok (.invokevirtual 128, 3) := by decide +kernel
theorem r_X8_part_5 {x0 x1 x2 x3 : Value} {p0 : Int32} {a : Nat} {h : AH} : Run M_X8_part 5 [x0, x1, x2, x3] (.int p0 :: .ref a :: []) h = if refO h 4 (some (.ref a)) = true then (if (Call M_X4_hasPart h [.ref a, .int p0]).isSome = true then Run M_X8_part 8 [x0, x1, x2, x3] (rL (Call M_X4_hasPart h [.ref a, .int p0]) ++ []) (cH (Call M_X4_hasPart h [.ref a, .int p0])) else none) else none := R_virt d_X8_part_5 rfl rfl rfl rfl rfl (Nat.le_of_ble_eq_true rfl)
theorem d_X8_part_8 : decode (mB M_X8_part) 8 = .ok (.ifCond .ne 6, 3) := by decide +kernel
theorem r_X8_part_8 {x0 x1 x2 x3 : Value} {x : Int32} {st : List Value} {h : AH} : Run M_X8_part 8 [x0, x1, x2, x3] (.int x :: st) h = if x = nI 0 then Run M_X8_part 11 [x0, x1, x2, x3] st h else Run M_X8_part 14 [x0, x1, x2, x3] st h := R_if_ne d_X8_part_8 (by decide)
theorem d_X8_part_11 : decode (mB M_X8_part) 11 = .ok (.ldc 131, 2) := by decide +kernel
theorem r_X8_part_11 {x0 x1 x2 x3 : Value} {st : List Value} {h : AH} : Run M_X8_part 11 [x0, x1, x2, x3] st h = Run M_X8_part 13 [x0, x1, x2, x3] (.int (-1000000001) :: st) h := R_ldc d_X8_part_11 (by decide)
theorem d_X8_part_13 : decode (mB M_X8_part) 13 = .ok (.ireturn, 1) := by decide +kernel
theorem r_X8_part_13 {x0 x1 x2 x3 : Value} {v : Int32} {h : AH} : Run M_X8_part 13 [x0, x1, x2, x3] [.int v] h = some (h, some (.int v)) := R_ireturn d_X8_part_13 rfl rfl
theorem d_X8_part_14 : decode (mB M_X8_part) 14 = .ok (.aload_n 0, 1) := by decide +kernel
theorem r_X8_part_14 {x1 x2 x3 : Value} {a : Nat} {st : List Value} {h : AH} : Run M_X8_part 14 [.ref a, x1, x2, x3] st h = Run M_X8_part 15 [.ref a, x1, x2, x3] (.ref a :: st) h := R_aload_n d_X8_part_14 rfl
theorem d_X8_part_15 : decode (mB M_X8_part) 15 = .ok (.getfield 57, 3) := by decide +kernel
theorem r_X8_part_15 {x0 x1 x2 x3 : Value} {a : Nat} {st : List Value} {h : AH} : Run M_X8_part 15 [x0, x1, x2, x3] (.ref a :: st) h = if (gF h a 8 7).isSome = true then Run M_X8_part 18 [x0, x1, x2, x3] ((gF h a 8 7).getD .null :: st) h else none := R_getfield d_X8_part_15 rfl
theorem d_X8_part_18 : decode (mB M_X8_part) 18 = .ok (.getfield 132, 3) := by decide +kernel
theorem r_X8_part_18 {x0 x1 x2 x3 : Value} {a : Nat} {st : List Value} {h : AH} : Run M_X8_part 18 [x0, x1, x2, x3] (.ref a :: st) h = if (gF h a 4 1).isSome = true then Run M_X8_part 21 [x0, x1, x2, x3] ((gF h a 4 1).getD .null :: st) h else none := R_getfield d_X8_part_18 rfl
theorem d_X8_part_21 : decode (mB M_X8_part) 21 = .ok (.iload_n 1, 1) := by decide +kernel
theorem r_X8_part_21 {x0 x2 x3 : Value} {a : Int32} {st : List Value} {h : AH} : Run M_X8_part 21 [x0, .int a, x2, x3] st h = Run M_X8_part 22 [x0, .int a, x2, x3] (.int a :: st) h := R_iload_n d_X8_part_21 rfl
theorem d_X8_part_22 : decode (mB M_X8_part) 22 = .ok (.aaload, 1) := by decide +kernel
theorem r_X8_part_22 {x0 x1 x2 x3 : Value} {a : Nat} {i : Int32} {st : List Value} {h : AH} : Run M_X8_part 22 [x0, x1, x2, x3] (.int i :: .ref a :: st) h = if (gR h a i).isSome = true then Run M_X8_part 23 [x0, x1, x2, x3] (.ref ((gR h a i).getD 0) :: st) h else none := R_aaload d_X8_part_22
theorem d_X8_part_23 : decode (mB M_X8_part) 23 = .ok (.astore_n 3, 1) := by decide +kernel
theorem r_X8_part_23 {x0 x1 x2 x3 : Value} {a : Nat} {st : List Value} {h : AH} (hc : x2.category = 1) : Run M_X8_part 23 [x0, x1, x2, x3] (.ref a :: st) h = Run M_X8_part 24 [x0, x1, x2, .ref a] st h := R_astore_n d_X8_part_23 (Nat.lt_of_lt_of_le (by decide : 3 < 4) (Nat.le_refl 4)) (catP_of rfl hc)
theorem d_X8_part_24 : decode (mB M_X8_part) 24 = .ok (.iload_n 2, 1) := by decide +kernel
theorem r_X8_part_24 {x0 x1 x3 : Value} {a : Int32} {st : List Value} {h : AH} : Run M_X8_part 24 [x0, x1, .int a, x3] st h = Run M_X8_part 25 [x0, x1, .int a, x3] (.int a :: st) h := R_iload_n d_X8_part_24 rfl
theorem d_X8_part_25 : decode (mB M_X8_part) 25 = .ok (.tableswitch 51 0 3 #[31, 36, 41, 46], 31) := by decide +kernel
theorem r_X8_part_25 {x0 x1 x2 x3 : Value} {x : Int32} {st : List Value} {h : AH} : Run M_X8_part 25 [x0, x1, x2, x3] (.int x :: st) h = if x = (nI 0) then Run M_X8_part 56 [x0, x1, x2, x3] st h else if x = (nI 1) then Run M_X8_part 61 [x0, x1, x2, x3] st h else if x = (nI 2) then Run M_X8_part 66 [x0, x1, x2, x3] st h else if x = (nI 3) then Run M_X8_part 71 [x0, x1, x2, x3] st h else Run M_X8_part 76 [x0, x1, x2, x3] st h := by
  by_cases h0 : x = (nI 0)
  · subst h0; rw [if_pos rfl]; exact R_tabIn (off := 31) d_X8_part_25 (by decide) (by decide) (by decide) (by decide)
  rw [if_neg h0]
  by_cases h1 : x = (nI 1)
  · subst h1; rw [if_pos rfl]; exact R_tabIn (off := 36) d_X8_part_25 (by decide) (by decide) (by decide) (by decide)
  rw [if_neg h1]
  by_cases h2 : x = (nI 2)
  · subst h2; rw [if_pos rfl]; exact R_tabIn (off := 41) d_X8_part_25 (by decide) (by decide) (by decide) (by decide)
  rw [if_neg h2]
  by_cases h3 : x = (nI 3)
  · subst h3; rw [if_pos rfl]; exact R_tabIn (off := 46) d_X8_part_25 (by decide) (by decide) (by decide) (by decide)
  rw [if_neg h3]
  refine R_tabOut d_X8_part_25 (by decide) ?_ (by decide)
  have e0 : ¬ x.toInt = 0 := lv_neT h0 (by decide)
  have e1 : ¬ x.toInt = 1 := lv_neT h1 (by decide)
  have e2 : ¬ x.toInt = 2 := lv_neT h2 (by decide)
  have e3 : ¬ x.toInt = 3 := lv_neT h3 (by decide)
  omega
theorem d_X8_part_56 : decode (mB M_X8_part) 56 = .ok (.aload_n 3, 1) := by decide +kernel
theorem r_X8_part_56 {x0 x1 x2 : Value} {a : Nat} {st : List Value} {h : AH} : Run M_X8_part 56 [x0, x1, x2, .ref a] st h = Run M_X8_part 57 [x0, x1, x2, .ref a] (.ref a :: st) h := R_aload_n d_X8_part_56 rfl
theorem d_X8_part_57 : decode (mB M_X8_part) 57 = .ok (.getfield 136, 3) := by decide +kernel
theorem r_X8_part_57 {x0 x1 x2 x3 : Value} {a : Nat} {st : List Value} {h : AH} : Run M_X8_part 57 [x0, x1, x2, x3] (.ref a :: st) h = if (gF h a 6 0).isSome = true then Run M_X8_part 60 [x0, x1, x2, x3] ((gF h a 6 0).getD .null :: st) h else none := R_getfield d_X8_part_57 rfl
theorem d_X8_part_60 : decode (mB M_X8_part) 60 = .ok (.ireturn, 1) := by decide +kernel
theorem r_X8_part_60 {x0 x1 x2 x3 : Value} {v : Int32} {h : AH} : Run M_X8_part 60 [x0, x1, x2, x3] [.int v] h = some (h, some (.int v)) := R_ireturn d_X8_part_60 rfl rfl
theorem d_X8_part_61 : decode (mB M_X8_part) 61 = .ok (.aload_n 3, 1) := by decide +kernel
theorem r_X8_part_61 {x0 x1 x2 : Value} {a : Nat} {st : List Value} {h : AH} : Run M_X8_part 61 [x0, x1, x2, .ref a] st h = Run M_X8_part 62 [x0, x1, x2, .ref a] (.ref a :: st) h := R_aload_n d_X8_part_61 rfl
theorem d_X8_part_62 : decode (mB M_X8_part) 62 = .ok (.getfield 141, 3) := by decide +kernel
theorem r_X8_part_62 {x0 x1 x2 x3 : Value} {a : Nat} {st : List Value} {h : AH} : Run M_X8_part 62 [x0, x1, x2, x3] (.ref a :: st) h = if (gF h a 6 1).isSome = true then Run M_X8_part 65 [x0, x1, x2, x3] ((gF h a 6 1).getD .null :: st) h else none := R_getfield d_X8_part_62 rfl
theorem d_X8_part_65 : decode (mB M_X8_part) 65 = .ok (.ireturn, 1) := by decide +kernel
theorem r_X8_part_65 {x0 x1 x2 x3 : Value} {v : Int32} {h : AH} : Run M_X8_part 65 [x0, x1, x2, x3] [.int v] h = some (h, some (.int v)) := R_ireturn d_X8_part_65 rfl rfl
theorem d_X8_part_66 : decode (mB M_X8_part) 66 = .ok (.aload_n 3, 1) := by decide +kernel
theorem r_X8_part_66 {x0 x1 x2 : Value} {a : Nat} {st : List Value} {h : AH} : Run M_X8_part 66 [x0, x1, x2, .ref a] st h = Run M_X8_part 67 [x0, x1, x2, .ref a] (.ref a :: st) h := R_aload_n d_X8_part_66 rfl
theorem d_X8_part_67 : decode (mB M_X8_part) 67 = .ok (.getfield 144, 3) := by decide +kernel
theorem r_X8_part_67 {x0 x1 x2 x3 : Value} {a : Nat} {st : List Value} {h : AH} : Run M_X8_part 67 [x0, x1, x2, x3] (.ref a :: st) h = if (gF h a 6 2).isSome = true then Run M_X8_part 70 [x0, x1, x2, x3] ((gF h a 6 2).getD .null :: st) h else none := R_getfield d_X8_part_67 rfl
theorem d_X8_part_70 : decode (mB M_X8_part) 70 = .ok (.ireturn, 1) := by decide +kernel
theorem r_X8_part_70 {x0 x1 x2 x3 : Value} {v : Int32} {h : AH} : Run M_X8_part 70 [x0, x1, x2, x3] [.int v] h = some (h, some (.int v)) := R_ireturn d_X8_part_70 rfl rfl
theorem d_X8_part_71 : decode (mB M_X8_part) 71 = .ok (.aload_n 3, 1) := by decide +kernel
theorem r_X8_part_71 {x0 x1 x2 : Value} {a : Nat} {st : List Value} {h : AH} : Run M_X8_part 71 [x0, x1, x2, .ref a] st h = Run M_X8_part 72 [x0, x1, x2, .ref a] (.ref a :: st) h := R_aload_n d_X8_part_71 rfl
theorem d_X8_part_72 : decode (mB M_X8_part) 72 = .ok (.getfield 147, 3) := by decide +kernel
theorem r_X8_part_72 {x0 x1 x2 x3 : Value} {a : Nat} {st : List Value} {h : AH} : Run M_X8_part 72 [x0, x1, x2, x3] (.ref a :: st) h = if (gF h a 6 3).isSome = true then Run M_X8_part 75 [x0, x1, x2, x3] ((gF h a 6 3).getD .null :: st) h else none := R_getfield d_X8_part_72 rfl
theorem d_X8_part_75 : decode (mB M_X8_part) 75 = .ok (.ireturn, 1) := by decide +kernel
theorem r_X8_part_75 {x0 x1 x2 x3 : Value} {v : Int32} {h : AH} : Run M_X8_part 75 [x0, x1, x2, x3] [.int v] h = some (h, some (.int v)) := R_ireturn d_X8_part_75 rfl rfl
theorem d_X8_part_76 : decode (mB M_X8_part) 76 = .ok (.ldc 69, 2) := by decide +kernel
theorem r_X8_part_76 {x0 x1 x2 x3 : Value} {st : List Value} {h : AH} : Run M_X8_part 76 [x0, x1, x2, x3] st h = Run M_X8_part 78 [x0, x1, x2, x3] (.int (-1000000002) :: st) h := R_ldc d_X8_part_76 (by decide)
theorem d_X8_part_78 : decode (mB M_X8_part) 78 = .ok (.ireturn, 1) := by decide +kernel
theorem r_X8_part_78 {x0 x1 x2 x3 : Value} {v : Int32} {h : AH} : Run M_X8_part 78 [x0, x1, x2, x3] [.int v] h = some (h, some (.int v)) := R_ireturn d_X8_part_78 rfl rfl
theorem d_X8_length_0 : decode (mB M_X8_length) 0 = .ok (.aload_n 0, 1) := by decide +kernel
theorem r_X8_length_0 {x1 x2 x3 : Value} {a : Nat} {st : List Value} {h : AH} : Run M_X8_length 0 [.ref a, x1, x2, x3] st h = Run M_X8_length 1 [.ref a, x1, x2, x3] (.ref a :: st) h := R_aload_n d_X8_length_0 rfl
theorem d_X8_length_1 : decode (mB M_X8_length) 1 = .ok (.getfield 57, 3) := by decide +kernel
theorem r_X8_length_1 {x0 x1 x2 x3 : Value} {a : Nat} {st : List Value} {h : AH} : Run M_X8_length 1 [x0, x1, x2, x3] (.ref a :: st) h = if (gF h a 8 7).isSome = true then Run M_X8_length 4 [x0, x1, x2, x3] ((gF h a 8 7).getD .null :: st) h else none := R_getfield d_X8_length_1 rfl
theorem d_X8_length_4 : decode (mB M_X8_length) 4 = .ok (.iload_n 1, 1) := by decide +kernel
theorem r_X8_length_4 {x0 x2 x3 : Value} {a : Int32} {st : List Value} {h : AH} : Run M_X8_length 4 [x0, .int a, x2, x3] st h = Run M_X8_length 5 [x0, .int a, x2, x3] (.int a :: st) h := R_iload_n d_X8_length_4 rfl
theorem d_X8_length_5 : decode (mB M_X8_length) 5 = .ok (.invokevirtual 128, 3) := by decide +kernel
theorem r_X8_length_5 {x0 x1 x2 x3 : Value} {p0 : Int32} {a : Nat} {h : AH} : Run M_X8_length 5 [x0, x1, x2, x3] (.int p0 :: .ref a :: []) h = if refO h 4 (some (.ref a)) = true then (if (Call M_X4_hasPart h [.ref a, .int p0]).isSome = true then Run M_X8_length 8 [x0, x1, x2, x3] (rL (Call M_X4_hasPart h [.ref a, .int p0]) ++ []) (cH (Call M_X4_hasPart h [.ref a, .int p0])) else none) else none := R_virt d_X8_length_5 rfl rfl rfl rfl rfl (Nat.le_of_ble_eq_true rfl)
theorem d_X8_length_8 : decode (mB M_X8_length) 8 = .ok (.ifCond .ne 6, 3) := by decide +kernel
theorem r_X8_length_8 {x0 x1 x2 x3 : Value} {x : Int32} {st : List Value} {h : AH} : Run M_X8_length 8 [x0, x1, x2, x3] (.int x :: st) h = if x = nI 0 then Run M_X8_length 11 [x0, x1, x2, x3] st h else Run M_X8_length 14 [x0, x1, x2, x3] st h := R_if_ne d_X8_length_8 (by decide)
theorem d_X8_length_11 : decode (mB M_X8_length) 11 = .ok (.ldc 131, 2) := by decide +kernel
theorem r_X8_length_11 {x0 x1 x2 x3 : Value} {st : List Value} {h : AH} : Run M_X8_length 11 [x0, x1, x2, x3] st h = Run M_X8_length 13 [x0, x1, x2, x3] (.int (-1000000001) :: st) h := R_ldc d_X8_length_11 (by decide)
theorem d_X8_length_13 : decode (mB M_X8_length) 13 = .ok (.ireturn, 1) := by decide +kernel
theorem r_X8_length_13 {x0 x1 x2 x3 : Value} {v : Int32} {h : AH} : Run M_X8_length 13 [x0, x1, x2, x3] [.int v] h = some (h, some (.int v)) := R_ireturn d_X8_length_13 rfl rfl
theorem d_X8_length_14 : decode (mB M_X8_length) 14 = .ok (.aload_n 0, 1) := by decide +kernel
theorem r_X8_length_14 {x1 x2 x3 : Value} {a : Nat} {st : List Value} {h : AH} : Run M_X8_length 14 [.ref a, x1, x2, x3] st h = Run M_X8_length 15 [.ref a, x1, x2, x3] (.ref a :: st) h := R_aload_n d_X8_length_14 rfl
theorem d_X8_length_15 : decode (mB M_X8_length) 15 = .ok (.getfield 57, 3) := by decide +kernel
theorem r_X8_length_15 {x0 x1 x2 x3 : Value} {a : Nat} {st : List Value} {h : AH} : Run M_X8_length 15 [x0, x1, x2, x3] (.ref a :: st) h = if (gF h a 8 7).isSome = true then Run M_X8_length 18 [x0, x1, x2, x3] ((gF h a 8 7).getD .null :: st) h else none := R_getfield d_X8_length_15 rfl
theorem d_X8_length_18 : decode (mB M_X8_length) 18 = .ok (.getfield 132, 3) := by decide +kernel
theorem r_X8_length_18 {x0 x1 x2 x3 : Value} {a : Nat} {st : List Value} {h : AH} : Run M_X8_length 18 [x0, x1, x2, x3] (.ref a :: st) h = if (gF h a 4 1).isSome = true then Run M_X8_length 21 [x0, x1, x2, x3] ((gF h a 4 1).getD .null :: st) h else none := R_getfield d_X8_length_18 rfl
theorem d_X8_length_21 : decode (mB M_X8_length) 21 = .ok (.iload_n 1, 1) := by decide +kernel
theorem r_X8_length_21 {x0 x2 x3 : Value} {a : Int32} {st : List Value} {h : AH} : Run M_X8_length 21 [x0, .int a, x2, x3] st h = Run M_X8_length 22 [x0, .int a, x2, x3] (.int a :: st) h := R_iload_n d_X8_length_21 rfl
theorem d_X8_length_22 : decode (mB M_X8_length) 22 = .ok (.aaload, 1) := by decide +kernel
theorem r_X8_length_22 {x0 x1 x2 x3 : Value} {a : Nat} {i : Int32} {st : List Value} {h : AH} : Run M_X8_length 22 [x0, x1, x2, x3] (.int i :: .ref a :: st) h = if (gR h a i).isSome = true then Run M_X8_length 23 [x0, x1, x2, x3] (.ref ((gR h a i).getD 0) :: st) h else none := R_aaload d_X8_length_22
theorem d_X8_length_23 : decode (mB M_X8_length) 23 = .ok (.astore_n 3, 1) := by decide +kernel
theorem r_X8_length_23 {x0 x1 x2 x3 : Value} {a : Nat} {st : List Value} {h : AH} (hc : x2.category = 1) : Run M_X8_length 23 [x0, x1, x2, x3] (.ref a :: st) h = Run M_X8_length 24 [x0, x1, x2, .ref a] st h := R_astore_n d_X8_length_23 (Nat.lt_of_lt_of_le (by decide : 3 < 4) (Nat.le_refl 4)) (catP_of rfl hc)
theorem d_X8_length_24 : decode (mB M_X8_length) 24 = .ok (.iload_n 2, 1) := by decide +kernel
theorem r_X8_length_24 {x0 x1 x3 : Value} {a : Int32} {st : List Value} {h : AH} : Run M_X8_length 24 [x0, x1, .int a, x3] st h = Run M_X8_length 25 [x0, x1, .int a, x3] (.int a :: st) h := R_iload_n d_X8_length_24 rfl
theorem d_X8_length_25 : decode (mB M_X8_length) 25 = .ok (.iconst 0, 1) := by decide +kernel
theorem r_X8_length_25 {x0 x1 x2 x3 : Value} {st : List Value} {h : AH} : Run M_X8_length 25 [x0, x1, x2, x3] st h = Run M_X8_length 26 [x0, x1, x2, x3] (.int (nI 0) :: st) h := R_iconst d_X8_length_25 (by decide)
theorem d_X8_length_26 : decode (mB M_X8_length) 26 = .ok (.aload_n 3, 1) := by decide +kernel
theorem r_X8_length_26 {x0 x1 x2 : Value} {a : Nat} {st : List Value} {h : AH} : Run M_X8_length 26 [x0, x1, x2, .ref a] st h = Run M_X8_length 27 [x0, x1, x2, .ref a] (.ref a :: st) h := R_aload_n d_X8_length_26 rfl
theorem d_X8_length_27 : decode (mB M_X8_length) 27 = .ok (.getfield 147, 3) := by decide +kernel
theorem r_X8_length_27 {x0 x1 x2 x3 : Value} {a : Nat} {st : List Value} {h : AH} : Run M_X8_length 27 [x0, x1, x2, x3] (.ref a :: st) h = if (gF h a 6 3).isSome = true then Run M_X8_length 30 [x0, x1, x2, x3] ((gF h a 6 3).getD .null :: st) h else none := R_getfield d_X8_length_27 rfl
theorem d_X8_length_30 : decode (mB M_X8_length) 30 = .ok (.iconst 1, 1) := by decide +kernel
theorem r_X8_length_30 {x0 x1 x2 x3 : Value} {st : List Value} {h : AH} : Run M_X8_length 30 [x0, x1, x2, x3] st h = Run M_X8_length 31 [x0, x1, x2, x3] (.int (nI 1) :: st) h := R_iconst d_X8_length_30 (by decide)
theorem d_X8_length_31 : decode (mB M_X8_length) 31 = .ok (.isub, 1) := by decide +kernel
theorem r_X8_length_31 {x0 x1 x2 x3 : Value} {x y : Int32} {st : List Value} {h : AH} : Run M_X8_length 31 [x0, x1, x2, x3] (.int y :: .int x :: st) h = Run M_X8_length 32 [x0, x1, x2, x3] (.int (x - y) :: st) h := R_isub d_X8_length_31
theorem d_X8_length_32 : decode (mB M_X8_length) 32 = .ok (.invokestatic 65, 3) := by decide +kernel
theorem r_X8_length_32 {x0 x1 x2 x3 : Value} {p0 : Int32} {p1 : Int32} {p2 : Int32} {h : AH} : Run M_X8_length 32 [x0, x1, x2, x3] (.int p2 :: .int p1 :: .int p0 :: []) h = if (Call M_X8_within h [.int p0, .int p1, .int p2]).isSome = true then Run M_X8_length 35 [x0, x1, x2, x3] (rL (Call M_X8_within h [.int p0, .int p1, .int p2]) ++ []) (cH (Call M_X8_within h [.int p0, .int p1, .int p2])) else none := R_stat d_X8_length_32 rfl rfl rfl rfl (Nat.le_of_ble_eq_true rfl)
theorem d_X8_length_35 : decode (mB M_X8_length) 35 = .ok (.ifCond .eq 12, 3) := by decide +kernel
theorem r_X8_length_35 {x0 x1 x2 x3 : Value} {x : Int32} {st : List Value} {h : AH} : Run M_X8_length 35 [x0, x1, x2, x3] (.int x :: st) h = if x = nI 0 then Run M_X8_length 47 [x0, x1, x2, x3] st h else Run M_X8_length 38 [x0, x1, x2, x3] st h := R_if_eq d_X8_length_35 (by decide)
theorem d_X8_length_38 : decode (mB M_X8_length) 38 = .ok (.aload_n 3, 1) := by decide +kernel
theorem r_X8_length_38 {x0 x1 x2 : Value} {a : Nat} {st : List Value} {h : AH} : Run M_X8_length 38 [x0, x1, x2, .ref a] st h = Run M_X8_length 39 [x0, x1, x2, .ref a] (.ref a :: st) h := R_aload_n d_X8_length_38 rfl
theorem d_X8_length_39 : decode (mB M_X8_length) 39 = .ok (.getfield 150, 3) := by decide +kernel
theorem r_X8_length_39 {x0 x1 x2 x3 : Value} {a : Nat} {st : List Value} {h : AH} : Run M_X8_length 39 [x0, x1, x2, x3] (.ref a :: st) h = if (gF h a 6 4).isSome = true then Run M_X8_length 42 [x0, x1, x2, x3] ((gF h a 6 4).getD .null :: st) h else none := R_getfield d_X8_length_39 rfl
theorem d_X8_length_42 : decode (mB M_X8_length) 42 = .ok (.iload_n 2, 1) := by decide +kernel
theorem r_X8_length_42 {x0 x1 x3 : Value} {a : Int32} {st : List Value} {h : AH} : Run M_X8_length 42 [x0, x1, .int a, x3] st h = Run M_X8_length 43 [x0, x1, .int a, x3] (.int a :: st) h := R_iload_n d_X8_length_42 rfl
theorem d_X8_length_43 : decode (mB M_X8_length) 43 = .ok (.iaload, 1) := by decide +kernel
theorem r_X8_length_43 {x0 x1 x2 x3 : Value} {a : Nat} {i : Int32} {st : List Value} {h : AH} : Run M_X8_length 43 [x0, x1, x2, x3] (.int i :: .ref a :: st) h = if (gI 0 h a i).isSome = true then Run M_X8_length 44 [x0, x1, x2, x3] (.int ((gI 0 h a i).getD 0) :: st) h else none := R_iaload d_X8_length_43
theorem d_X8_length_44 : decode (mB M_X8_length) 44 = .ok (.goto 4, 3) := by decide +kernel
theorem r_X8_length_44 {x0 x1 x2 x3 : Value} {st : List Value} {h : AH} : Run M_X8_length 44 [x0, x1, x2, x3] st h = Run M_X8_length 48 [x0, x1, x2, x3] st h := R_goto d_X8_length_44 (by decide)
theorem d_X8_length_47 : decode (mB M_X8_length) 47 = .ok (.iconst (-1), 1) := by decide +kernel
theorem r_X8_length_47 {x0 x1 x2 x3 : Value} {st : List Value} {h : AH} : Run M_X8_length 47 [x0, x1, x2, x3] st h = Run M_X8_length 48 [x0, x1, x2, x3] (.int (-1) :: st) h := R_iconst d_X8_length_47 (by decide)
theorem d_X8_length_48 : decode (mB M_X8_length) 48 = .ok (.ireturn, 1) := by decide +kernel
theorem r_X8_length_48 {x0 x1 x2 x3 : Value} {v : Int32} {h : AH} : Run M_X8_length 48 [x0, x1, x2, x3] [.int v] h = some (h, some (.int v)) := R_ireturn d_X8_length_48 rfl rfl
theorem d_X8_player_0 : decode (mB M_X8_player) 0 = .ok (.aload_n 0, 1) := by decide +kernel
theorem r_X8_player_0 {x1 x2 : Value} {a : Nat} {st : List Value} {h : AH} : Run M_X8_player 0 [.ref a, x1, x2] st h = Run M_X8_player 1 [.ref a, x1, x2] (.ref a :: st) h := R_aload_n d_X8_player_0 rfl
theorem d_X8_player_1 : decode (mB M_X8_player) 1 = .ok (.getfield 57, 3) := by decide +kernel
theorem r_X8_player_1 {x0 x1 x2 : Value} {a : Nat} {st : List Value} {h : AH} : Run M_X8_player 1 [x0, x1, x2] (.ref a :: st) h = if (gF h a 8 7).isSome = true then Run M_X8_player 4 [x0, x1, x2] ((gF h a 8 7).getD .null :: st) h else none := R_getfield d_X8_player_1 rfl
theorem d_X8_player_4 : decode (mB M_X8_player) 4 = .ok (.iload_n 1, 1) := by decide +kernel
theorem r_X8_player_4 {x0 x2 : Value} {a : Int32} {st : List Value} {h : AH} : Run M_X8_player 4 [x0, .int a, x2] st h = Run M_X8_player 5 [x0, .int a, x2] (.int a :: st) h := R_iload_n d_X8_player_4 rfl
theorem d_X8_player_5 : decode (mB M_X8_player) 5 = .ok (.invokevirtual 154, 3) := by decide +kernel
theorem r_X8_player_5 {x0 x1 x2 : Value} {p0 : Int32} {a : Nat} {h : AH} : Run M_X8_player 5 [x0, x1, x2] (.int p0 :: .ref a :: []) h = if refO h 4 (some (.ref a)) = true then (if (Call M_X4_hasPlayer h [.ref a, .int p0]).isSome = true then Run M_X8_player 8 [x0, x1, x2] (rL (Call M_X4_hasPlayer h [.ref a, .int p0]) ++ []) (cH (Call M_X4_hasPlayer h [.ref a, .int p0])) else none) else none := R_virt d_X8_player_5 rfl rfl rfl rfl rfl (Nat.le_of_ble_eq_true rfl)
theorem d_X8_player_8 : decode (mB M_X8_player) 8 = .ok (.ifCond .ne 6, 3) := by decide +kernel
theorem r_X8_player_8 {x0 x1 x2 : Value} {x : Int32} {st : List Value} {h : AH} : Run M_X8_player 8 [x0, x1, x2] (.int x :: st) h = if x = nI 0 then Run M_X8_player 11 [x0, x1, x2] st h else Run M_X8_player 14 [x0, x1, x2] st h := R_if_ne d_X8_player_8 (by decide)
theorem d_X8_player_11 : decode (mB M_X8_player) 11 = .ok (.ldc 131, 2) := by decide +kernel
theorem r_X8_player_11 {x0 x1 x2 : Value} {st : List Value} {h : AH} : Run M_X8_player 11 [x0, x1, x2] st h = Run M_X8_player 13 [x0, x1, x2] (.int (-1000000001) :: st) h := R_ldc d_X8_player_11 (by decide)
theorem d_X8_player_13 : decode (mB M_X8_player) 13 = .ok (.ireturn, 1) := by decide +kernel
theorem r_X8_player_13 {x0 x1 x2 : Value} {v : Int32} {h : AH} : Run M_X8_player 13 [x0, x1, x2] [.int v] h = some (h, some (.int v)) := R_ireturn d_X8_player_13 rfl rfl
theorem d_X8_player_14 : decode (mB M_X8_player) 14 = .ok (.iload_n 2, 1) := by decide +kernel
theorem r_X8_player_14 {x0 x1 : Value} {a : Int32} {st : List Value} {h : AH} : Run M_X8_player 14 [x0, x1, .int a] st h = Run M_X8_player 15 [x0, x1, .int a] (.int a :: st) h := R_iload_n d_X8_player_14 rfl
theorem d_X8_player_15 : decode (mB M_X8_player) 15 = .ok (.lookupswitch 51 #[(0, 25), (1, 38)], 25) := by decide +kernel
theorem r_X8_player_15 {x0 x1 x2 : Value} {x : Int32} {st : List Value} {h : AH} : Run M_X8_player 15 [x0, x1, x2] (.int x :: st) h = if x = (nI 0) then Run M_X8_player 40 [x0, x1, x2] st h else if x = (nI 1) then Run M_X8_player 53 [x0, x1, x2] st h else Run M_X8_player 66 [x0, x1, x2] st h := by
  by_cases h0 : x = (nI 0)
  · subst h0; rw [if_pos rfl]; exact R_lookup (off := 25) d_X8_player_15 (by decide) (by decide) (by decide) (by decide)
  rw [if_neg h0]
  by_cases h1 : x = (nI 1)
  · subst h1; rw [if_pos rfl]; exact R_lookup (off := 38) d_X8_player_15 (by decide) (by decide) (by decide) (by decide)
  rw [if_neg h1]
  refine R_lookup (off := 51) d_X8_player_15 (by decide) (by decide) ?_ (by decide)
  show Op.lookupswitch.offset [(0, 25), (1, 38)] 51 x.toInt = 51
  rw [lv_osw h0 (by decide), lv_osw h1 (by decide)]
  rfl
theorem d_X8_player_40 : decode (mB M_X8_player) 40 = .ok (.aload_n 0, 1) := by decide +kernel
theorem r_X8_player_40 {x1 x2 : Value} {a : Nat} {st : List Value} {h : AH} : Run M_X8_player 40 [.ref a, x1, x2] st h = Run M_X8_player 41 [.ref a, x1, x2] (.ref a :: st) h := R_aload_n d_X8_player_40 rfl
theorem d_X8_player_41 : decode (mB M_X8_player) 41 = .ok (.getfield 57, 3) := by decide +kernel
theorem r_X8_player_41 {x0 x1 x2 : Value} {a : Nat} {st : List Value} {h : AH} : Run M_X8_player 41 [x0, x1, x2] (.ref a :: st) h = if (gF h a 8 7).isSome = true then Run M_X8_player 44 [x0, x1, x2] ((gF h a 8 7).getD .null :: st) h else none := R_getfield d_X8_player_41 rfl
theorem d_X8_player_44 : decode (mB M_X8_player) 44 = .ok (.getfield 92, 3) := by decide +kernel
theorem r_X8_player_44 {x0 x1 x2 : Value} {a : Nat} {st : List Value} {h : AH} : Run M_X8_player 44 [x0, x1, x2] (.ref a :: st) h = if (gF h a 4 6).isSome = true then Run M_X8_player 47 [x0, x1, x2] ((gF h a 4 6).getD .null :: st) h else none := R_getfield d_X8_player_44 rfl
theorem d_X8_player_47 : decode (mB M_X8_player) 47 = .ok (.getfield 157, 3) := by decide +kernel
theorem r_X8_player_47 {x0 x1 x2 : Value} {a : Nat} {st : List Value} {h : AH} : Run M_X8_player 47 [x0, x1, x2] (.ref a :: st) h = if (gF h a 0 5).isSome = true then Run M_X8_player 50 [x0, x1, x2] ((gF h a 0 5).getD .null :: st) h else none := R_getfield d_X8_player_47 rfl
theorem d_X8_player_50 : decode (mB M_X8_player) 50 = .ok (.iload_n 1, 1) := by decide +kernel
theorem r_X8_player_50 {x0 x2 : Value} {a : Int32} {st : List Value} {h : AH} : Run M_X8_player 50 [x0, .int a, x2] st h = Run M_X8_player 51 [x0, .int a, x2] (.int a :: st) h := R_iload_n d_X8_player_50 rfl
theorem d_X8_player_51 : decode (mB M_X8_player) 51 = .ok (.iaload, 1) := by decide +kernel
theorem r_X8_player_51 {x0 x1 x2 : Value} {a : Nat} {i : Int32} {st : List Value} {h : AH} : Run M_X8_player 51 [x0, x1, x2] (.int i :: .ref a :: st) h = if (gI 0 h a i).isSome = true then Run M_X8_player 52 [x0, x1, x2] (.int ((gI 0 h a i).getD 0) :: st) h else none := R_iaload d_X8_player_51
theorem d_X8_player_52 : decode (mB M_X8_player) 52 = .ok (.ireturn, 1) := by decide +kernel
theorem r_X8_player_52 {x0 x1 x2 : Value} {v : Int32} {h : AH} : Run M_X8_player 52 [x0, x1, x2] [.int v] h = some (h, some (.int v)) := R_ireturn d_X8_player_52 rfl rfl
theorem d_X8_player_53 : decode (mB M_X8_player) 53 = .ok (.aload_n 0, 1) := by decide +kernel
theorem r_X8_player_53 {x1 x2 : Value} {a : Nat} {st : List Value} {h : AH} : Run M_X8_player 53 [.ref a, x1, x2] st h = Run M_X8_player 54 [.ref a, x1, x2] (.ref a :: st) h := R_aload_n d_X8_player_53 rfl
theorem d_X8_player_54 : decode (mB M_X8_player) 54 = .ok (.getfield 57, 3) := by decide +kernel
theorem r_X8_player_54 {x0 x1 x2 : Value} {a : Nat} {st : List Value} {h : AH} : Run M_X8_player 54 [x0, x1, x2] (.ref a :: st) h = if (gF h a 8 7).isSome = true then Run M_X8_player 57 [x0, x1, x2] ((gF h a 8 7).getD .null :: st) h else none := R_getfield d_X8_player_54 rfl
theorem d_X8_player_57 : decode (mB M_X8_player) 57 = .ok (.getfield 92, 3) := by decide +kernel
theorem r_X8_player_57 {x0 x1 x2 : Value} {a : Nat} {st : List Value} {h : AH} : Run M_X8_player 57 [x0, x1, x2] (.ref a :: st) h = if (gF h a 4 6).isSome = true then Run M_X8_player 60 [x0, x1, x2] ((gF h a 4 6).getD .null :: st) h else none := R_getfield d_X8_player_57 rfl
theorem d_X8_player_60 : decode (mB M_X8_player) 60 = .ok (.getfield 160, 3) := by decide +kernel
theorem r_X8_player_60 {x0 x1 x2 : Value} {a : Nat} {st : List Value} {h : AH} : Run M_X8_player 60 [x0, x1, x2] (.ref a :: st) h = if (gF h a 0 6).isSome = true then Run M_X8_player 63 [x0, x1, x2] ((gF h a 0 6).getD .null :: st) h else none := R_getfield d_X8_player_60 rfl
theorem d_X8_player_63 : decode (mB M_X8_player) 63 = .ok (.iload_n 1, 1) := by decide +kernel
theorem r_X8_player_63 {x0 x2 : Value} {a : Int32} {st : List Value} {h : AH} : Run M_X8_player 63 [x0, .int a, x2] st h = Run M_X8_player 64 [x0, .int a, x2] (.int a :: st) h := R_iload_n d_X8_player_63 rfl
theorem d_X8_player_64 : decode (mB M_X8_player) 64 = .ok (.iaload, 1) := by decide +kernel
theorem r_X8_player_64 {x0 x1 x2 : Value} {a : Nat} {i : Int32} {st : List Value} {h : AH} : Run M_X8_player 64 [x0, x1, x2] (.int i :: .ref a :: st) h = if (gI 0 h a i).isSome = true then Run M_X8_player 65 [x0, x1, x2] (.int ((gI 0 h a i).getD 0) :: st) h else none := R_iaload d_X8_player_64
theorem d_X8_player_65 : decode (mB M_X8_player) 65 = .ok (.ireturn, 1) := by decide +kernel
theorem r_X8_player_65 {x0 x1 x2 : Value} {v : Int32} {h : AH} : Run M_X8_player 65 [x0, x1, x2] [.int v] h = some (h, some (.int v)) := R_ireturn d_X8_player_65 rfl rfl
theorem d_X8_player_66 : decode (mB M_X8_player) 66 = .ok (.ldc 69, 2) := by decide +kernel
theorem r_X8_player_66 {x0 x1 x2 : Value} {st : List Value} {h : AH} : Run M_X8_player 66 [x0, x1, x2] st h = Run M_X8_player 68 [x0, x1, x2] (.int (-1000000002) :: st) h := R_ldc d_X8_player_66 (by decide)
theorem d_X8_player_68 : decode (mB M_X8_player) 68 = .ok (.ireturn, 1) := by decide +kernel
theorem r_X8_player_68 {x0 x1 x2 : Value} {v : Int32} {h : AH} : Run M_X8_player 68 [x0, x1, x2] [.int v] h = some (h, some (.int v)) := R_ireturn d_X8_player_68 rfl rfl
theorem d_X8_instrument_0 : decode (mB M_X8_instrument) 0 = .ok (.iload_n 1, 1) := by decide +kernel
theorem r_X8_instrument_0 {x0 x2 : Value} {a : Int32} {st : List Value} {h : AH} : Run M_X8_instrument 0 [x0, .int a, x2] st h = Run M_X8_instrument 1 [x0, .int a, x2] (.int a :: st) h := R_iload_n d_X8_instrument_0 rfl
theorem d_X8_instrument_1 : decode (mB M_X8_instrument) 1 = .ok (.iconst 0, 1) := by decide +kernel
theorem r_X8_instrument_1 {x0 x1 x2 : Value} {st : List Value} {h : AH} : Run M_X8_instrument 1 [x0, x1, x2] st h = Run M_X8_instrument 2 [x0, x1, x2] (.int (nI 0) :: st) h := R_iconst d_X8_instrument_1 (by decide)
theorem d_X8_instrument_2 : decode (mB M_X8_instrument) 2 = .ok (.aload_n 0, 1) := by decide +kernel
theorem r_X8_instrument_2 {x1 x2 : Value} {a : Nat} {st : List Value} {h : AH} : Run M_X8_instrument 2 [.ref a, x1, x2] st h = Run M_X8_instrument 3 [.ref a, x1, x2] (.ref a :: st) h := R_aload_n d_X8_instrument_2 rfl
theorem d_X8_instrument_3 : decode (mB M_X8_instrument) 3 = .ok (.getfield 57, 3) := by decide +kernel
theorem r_X8_instrument_3 {x0 x1 x2 : Value} {a : Nat} {st : List Value} {h : AH} : Run M_X8_instrument 3 [x0, x1, x2] (.ref a :: st) h = if (gF h a 8 7).isSome = true then Run M_X8_instrument 6 [x0, x1, x2] ((gF h a 8 7).getD .null :: st) h else none := R_getfield d_X8_instrument_3 rfl
theorem d_X8_instrument_6 : decode (mB M_X8_instrument) 6 = .ok (.getfield 99, 3) := by decide +kernel
theorem r_X8_instrument_6 {x0 x1 x2 : Value} {a : Nat} {st : List Value} {h : AH} : Run M_X8_instrument 6 [x0, x1, x2] (.ref a :: st) h = if (gF h a 4 3).isSome = true then Run M_X8_instrument 9 [x0, x1, x2] ((gF h a 4 3).getD .null :: st) h else none := R_getfield d_X8_instrument_6 rfl
theorem d_X8_instrument_9 : decode (mB M_X8_instrument) 9 = .ok (.iconst 1, 1) := by decide +kernel
theorem r_X8_instrument_9 {x0 x1 x2 : Value} {st : List Value} {h : AH} : Run M_X8_instrument 9 [x0, x1, x2] st h = Run M_X8_instrument 10 [x0, x1, x2] (.int (nI 1) :: st) h := R_iconst d_X8_instrument_9 (by decide)
theorem d_X8_instrument_10 : decode (mB M_X8_instrument) 10 = .ok (.isub, 1) := by decide +kernel
theorem r_X8_instrument_10 {x0 x1 x2 : Value} {x y : Int32} {st : List Value} {h : AH} : Run M_X8_instrument 10 [x0, x1, x2] (.int y :: .int x :: st) h = Run M_X8_instrument 11 [x0, x1, x2] (.int (x - y) :: st) h := R_isub d_X8_instrument_10
theorem d_X8_instrument_11 : decode (mB M_X8_instrument) 11 = .ok (.invokestatic 65, 3) := by decide +kernel
theorem r_X8_instrument_11 {x0 x1 x2 : Value} {p0 : Int32} {p1 : Int32} {p2 : Int32} {h : AH} : Run M_X8_instrument 11 [x0, x1, x2] (.int p2 :: .int p1 :: .int p0 :: []) h = if (Call M_X8_within h [.int p0, .int p1, .int p2]).isSome = true then Run M_X8_instrument 14 [x0, x1, x2] (rL (Call M_X8_within h [.int p0, .int p1, .int p2]) ++ []) (cH (Call M_X8_within h [.int p0, .int p1, .int p2])) else none := R_stat d_X8_instrument_11 rfl rfl rfl rfl (Nat.le_of_ble_eq_true rfl)
theorem d_X8_instrument_14 : decode (mB M_X8_instrument) 14 = .ok (.ifCond .ne 6, 3) := by decide +kernel
theorem r_X8_instrument_14 {x0 x1 x2 : Value} {x : Int32} {st : List Value} {h : AH} : Run M_X8_instrument 14 [x0, x1, x2] (.int x :: st) h = if x = nI 0 then Run M_X8_instrument 17 [x0, x1, x2] st h else Run M_X8_instrument 20 [x0, x1, x2] st h := R_if_ne d_X8_instrument_14 (by decide)
theorem d_X8_instrument_17 : decode (mB M_X8_instrument) 17 = .ok (.ldc 131, 2) := by decide +kernel
theorem r_X8_instrument_17 {x0 x1 x2 : Value} {st : List Value} {h : AH} : Run M_X8_instrument 17 [x0, x1, x2] st h = Run M_X8_instrument 19 [x0, x1, x2] (.int (-1000000001) :: st) h := R_ldc d_X8_instrument_17 (by decide)
theorem d_X8_instrument_19 : decode (mB M_X8_instrument) 19 = .ok (.ireturn, 1) := by decide +kernel
theorem r_X8_instrument_19 {x0 x1 x2 : Value} {v : Int32} {h : AH} : Run M_X8_instrument 19 [x0, x1, x2] [.int v] h = some (h, some (.int v)) := R_ireturn d_X8_instrument_19 rfl rfl
theorem d_X8_instrument_20 : decode (mB M_X8_instrument) 20 = .ok (.iload_n 2, 1) := by decide +kernel
theorem r_X8_instrument_20 {x0 x1 : Value} {a : Int32} {st : List Value} {h : AH} : Run M_X8_instrument 20 [x0, x1, .int a] st h = Run M_X8_instrument 21 [x0, x1, .int a] (.int a :: st) h := R_iload_n d_X8_instrument_20 rfl
theorem d_X8_instrument_21 : decode (mB M_X8_instrument) 21 = .ok (.lookupswitch 47 #[(0, 27), (1, 37)], 27) := by decide +kernel
theorem r_X8_instrument_21 {x0 x1 x2 : Value} {x : Int32} {st : List Value} {h : AH} : Run M_X8_instrument 21 [x0, x1, x2] (.int x :: st) h = if x = (nI 0) then Run M_X8_instrument 48 [x0, x1, x2] st h else if x = (nI 1) then Run M_X8_instrument 58 [x0, x1, x2] st h else Run M_X8_instrument 68 [x0, x1, x2] st h := by
  by_cases h0 : x = (nI 0)
  · subst h0; rw [if_pos rfl]; exact R_lookup (off := 27) d_X8_instrument_21 (by decide) (by decide) (by decide) (by decide)
  rw [if_neg h0]
  by_cases h1 : x = (nI 1)
  · subst h1; rw [if_pos rfl]; exact R_lookup (off := 37) d_X8_instrument_21 (by decide) (by decide) (by decide) (by decide)
  rw [if_neg h1]
  refine R_lookup (off := 47) d_X8_instrument_21 (by decide) (by decide) ?_ (by decide)
  show Op.lookupswitch.offset [(0, 27), (1, 37)] 47 x.toInt = 47
  rw [lv_osw h0 (by decide), lv_osw h1 (by decide)]
  rfl
theorem d_X8_instrument_48 : decode (mB M_X8_instrument) 48 = .ok (.aload_n 0, 1) := by decide +kernel
theorem r_X8_instrument_48 {x1 x2 : Value} {a : Nat} {st : List Value} {h : AH} : Run M_X8_instrument 48 [.ref a, x1, x2] st h = Run M_X8_instrument 49 [.ref a, x1, x2] (.ref a :: st) h := R_aload_n d_X8_instrument_48 rfl
theorem d_X8_instrument_49 : decode (mB M_X8_instrument) 49 = .ok (.getfield 57, 3) := by decide +kernel
theorem r_X8_instrument_49 {x0 x1 x2 : Value} {a : Nat} {st : List Value} {h : AH} : Run M_X8_instrument 49 [x0, x1, x2] (.ref a :: st) h = if (gF h a 8 7).isSome = true then Run M_X8_instrument 52 [x0, x1, x2] ((gF h a 8 7).getD .null :: st) h else none := R_getfield d_X8_instrument_49 rfl
theorem d_X8_instrument_52 : decode (mB M_X8_instrument) 52 = .ok (.getfield 163, 3) := by decide +kernel
theorem r_X8_instrument_52 {x0 x1 x2 : Value} {a : Nat} {st : List Value} {h : AH} : Run M_X8_instrument 52 [x0, x1, x2] (.ref a :: st) h = if (gF h a 4 4).isSome = true then Run M_X8_instrument 55 [x0, x1, x2] ((gF h a 4 4).getD .null :: st) h else none := R_getfield d_X8_instrument_52 rfl
theorem d_X8_instrument_55 : decode (mB M_X8_instrument) 55 = .ok (.iload_n 1, 1) := by decide +kernel
theorem r_X8_instrument_55 {x0 x2 : Value} {a : Int32} {st : List Value} {h : AH} : Run M_X8_instrument 55 [x0, .int a, x2] st h = Run M_X8_instrument 56 [x0, .int a, x2] (.int a :: st) h := R_iload_n d_X8_instrument_55 rfl
theorem d_X8_instrument_56 : decode (mB M_X8_instrument) 56 = .ok (.iaload, 1) := by decide +kernel
theorem r_X8_instrument_56 {x0 x1 x2 : Value} {a : Nat} {i : Int32} {st : List Value} {h : AH} : Run M_X8_instrument 56 [x0, x1, x2] (.int i :: .ref a :: st) h = if (gI 0 h a i).isSome = true then Run M_X8_instrument 57 [x0, x1, x2] (.int ((gI 0 h a i).getD 0) :: st) h else none := R_iaload d_X8_instrument_56
theorem d_X8_instrument_57 : decode (mB M_X8_instrument) 57 = .ok (.ireturn, 1) := by decide +kernel
theorem r_X8_instrument_57 {x0 x1 x2 : Value} {v : Int32} {h : AH} : Run M_X8_instrument 57 [x0, x1, x2] [.int v] h = some (h, some (.int v)) := R_ireturn d_X8_instrument_57 rfl rfl
theorem d_X8_instrument_58 : decode (mB M_X8_instrument) 58 = .ok (.aload_n 0, 1) := by decide +kernel
theorem r_X8_instrument_58 {x1 x2 : Value} {a : Nat} {st : List Value} {h : AH} : Run M_X8_instrument 58 [.ref a, x1, x2] st h = Run M_X8_instrument 59 [.ref a, x1, x2] (.ref a :: st) h := R_aload_n d_X8_instrument_58 rfl
theorem d_X8_instrument_59 : decode (mB M_X8_instrument) 59 = .ok (.getfield 57, 3) := by decide +kernel
theorem r_X8_instrument_59 {x0 x1 x2 : Value} {a : Nat} {st : List Value} {h : AH} : Run M_X8_instrument 59 [x0, x1, x2] (.ref a :: st) h = if (gF h a 8 7).isSome = true then Run M_X8_instrument 62 [x0, x1, x2] ((gF h a 8 7).getD .null :: st) h else none := R_getfield d_X8_instrument_59 rfl
theorem d_X8_instrument_62 : decode (mB M_X8_instrument) 62 = .ok (.getfield 166, 3) := by decide +kernel
theorem r_X8_instrument_62 {x0 x1 x2 : Value} {a : Nat} {st : List Value} {h : AH} : Run M_X8_instrument 62 [x0, x1, x2] (.ref a :: st) h = if (gF h a 4 5).isSome = true then Run M_X8_instrument 65 [x0, x1, x2] ((gF h a 4 5).getD .null :: st) h else none := R_getfield d_X8_instrument_62 rfl
theorem d_X8_instrument_65 : decode (mB M_X8_instrument) 65 = .ok (.iload_n 1, 1) := by decide +kernel
theorem r_X8_instrument_65 {x0 x2 : Value} {a : Int32} {st : List Value} {h : AH} : Run M_X8_instrument 65 [x0, .int a, x2] st h = Run M_X8_instrument 66 [x0, .int a, x2] (.int a :: st) h := R_iload_n d_X8_instrument_65 rfl
theorem d_X8_instrument_66 : decode (mB M_X8_instrument) 66 = .ok (.iaload, 1) := by decide +kernel
theorem r_X8_instrument_66 {x0 x1 x2 : Value} {a : Nat} {i : Int32} {st : List Value} {h : AH} : Run M_X8_instrument 66 [x0, x1, x2] (.int i :: .ref a :: st) h = if (gI 0 h a i).isSome = true then Run M_X8_instrument 67 [x0, x1, x2] (.int ((gI 0 h a i).getD 0) :: st) h else none := R_iaload d_X8_instrument_66
theorem d_X8_instrument_67 : decode (mB M_X8_instrument) 67 = .ok (.ireturn, 1) := by decide +kernel
theorem r_X8_instrument_67 {x0 x1 x2 : Value} {v : Int32} {h : AH} : Run M_X8_instrument 67 [x0, x1, x2] [.int v] h = some (h, some (.int v)) := R_ireturn d_X8_instrument_67 rfl rfl
theorem d_X8_instrument_68 : decode (mB M_X8_instrument) 68 = .ok (.ldc 69, 2) := by decide +kernel
theorem r_X8_instrument_68 {x0 x1 x2 : Value} {st : List Value} {h : AH} : Run M_X8_instrument 68 [x0, x1, x2] st h = Run M_X8_instrument 70 [x0, x1, x2] (.int (-1000000002) :: st) h := R_ldc d_X8_instrument_68 (by decide)
theorem d_X8_instrument_70 : decode (mB M_X8_instrument) 70 = .ok (.ireturn, 1) := by decide +kernel
theorem r_X8_instrument_70 {x0 x1 x2 : Value} {v : Int32} {h : AH} : Run M_X8_instrument 70 [x0, x1, x2] [.int v] h = some (h, some (.int v)) := R_ireturn d_X8_instrument_70 rfl rfl
theorem d_X8_costs_0 : decode (mB M_X8_costs) 0 = .ok (.iload_n 1, 1) := by decide +kernel
theorem r_X8_costs_0 {x0 x2 x3 x4 : Value} {a : Int32} {st : List Value} {h : AH} : Run M_X8_costs 0 [x0, .int a, x2, x3, x4] st h = Run M_X8_costs 1 [x0, .int a, x2, x3, x4] (.int a :: st) h := R_iload_n d_X8_costs_0 rfl
theorem d_X8_costs_1 : decode (mB M_X8_costs) 1 = .ok (.iconst 0, 1) := by decide +kernel
theorem r_X8_costs_1 {x0 x1 x2 x3 x4 : Value} {st : List Value} {h : AH} : Run M_X8_costs 1 [x0, x1, x2, x3, x4] st h = Run M_X8_costs 2 [x0, x1, x2, x3, x4] (.int (nI 0) :: st) h := R_iconst d_X8_costs_1 (by decide)
theorem d_X8_costs_2 : decode (mB M_X8_costs) 2 = .ok (.bipush 20, 2) := by decide +kernel
theorem r_X8_costs_2 {x0 x1 x2 x3 x4 : Value} {st : List Value} {h : AH} : Run M_X8_costs 2 [x0, x1, x2, x3, x4] st h = Run M_X8_costs 4 [x0, x1, x2, x3, x4] (.int (nI 20) :: st) h := R_bipush d_X8_costs_2 (by decide)
theorem d_X8_costs_4 : decode (mB M_X8_costs) 4 = .ok (.invokestatic 65, 3) := by decide +kernel
theorem r_X8_costs_4 {x0 x1 x2 x3 x4 : Value} {p0 : Int32} {p1 : Int32} {p2 : Int32} {h : AH} : Run M_X8_costs 4 [x0, x1, x2, x3, x4] (.int p2 :: .int p1 :: .int p0 :: []) h = if (Call M_X8_within h [.int p0, .int p1, .int p2]).isSome = true then Run M_X8_costs 7 [x0, x1, x2, x3, x4] (rL (Call M_X8_within h [.int p0, .int p1, .int p2]) ++ []) (cH (Call M_X8_within h [.int p0, .int p1, .int p2])) else none := R_stat d_X8_costs_4 rfl rfl rfl rfl (Nat.le_of_ble_eq_true rfl)
theorem d_X8_costs_7 : decode (mB M_X8_costs) 7 = .ok (.ifCond .eq 23, 3) := by decide +kernel
theorem r_X8_costs_7 {x0 x1 x2 x3 x4 : Value} {x : Int32} {st : List Value} {h : AH} : Run M_X8_costs 7 [x0, x1, x2, x3, x4] (.int x :: st) h = if x = nI 0 then Run M_X8_costs 30 [x0, x1, x2, x3, x4] st h else Run M_X8_costs 10 [x0, x1, x2, x3, x4] st h := R_if_eq d_X8_costs_7 (by decide)
theorem d_X8_costs_10 : decode (mB M_X8_costs) 10 = .ok (.iload_n 2, 1) := by decide +kernel
theorem r_X8_costs_10 {x0 x1 x3 x4 : Value} {a : Int32} {st : List Value} {h : AH} : Run M_X8_costs 10 [x0, x1, .int a, x3, x4] st h = Run M_X8_costs 11 [x0, x1, .int a, x3, x4] (.int a :: st) h := R_iload_n d_X8_costs_10 rfl
theorem d_X8_costs_11 : decode (mB M_X8_costs) 11 = .ok (.iconst 0, 1) := by decide +kernel
theorem r_X8_costs_11 {x0 x1 x2 x3 x4 : Value} {st : List Value} {h : AH} : Run M_X8_costs 11 [x0, x1, x2, x3, x4] st h = Run M_X8_costs 12 [x0, x1, x2, x3, x4] (.int (nI 0) :: st) h := R_iconst d_X8_costs_11 (by decide)
theorem d_X8_costs_12 : decode (mB M_X8_costs) 12 = .ok (.bipush 20, 2) := by decide +kernel
theorem r_X8_costs_12 {x0 x1 x2 x3 x4 : Value} {st : List Value} {h : AH} : Run M_X8_costs 12 [x0, x1, x2, x3, x4] st h = Run M_X8_costs 14 [x0, x1, x2, x3, x4] (.int (nI 20) :: st) h := R_bipush d_X8_costs_12 (by decide)
theorem d_X8_costs_14 : decode (mB M_X8_costs) 14 = .ok (.invokestatic 65, 3) := by decide +kernel
theorem r_X8_costs_14 {x0 x1 x2 x3 x4 : Value} {p0 : Int32} {p1 : Int32} {p2 : Int32} {h : AH} : Run M_X8_costs 14 [x0, x1, x2, x3, x4] (.int p2 :: .int p1 :: .int p0 :: []) h = if (Call M_X8_within h [.int p0, .int p1, .int p2]).isSome = true then Run M_X8_costs 17 [x0, x1, x2, x3, x4] (rL (Call M_X8_within h [.int p0, .int p1, .int p2]) ++ []) (cH (Call M_X8_within h [.int p0, .int p1, .int p2])) else none := R_stat d_X8_costs_14 rfl rfl rfl rfl (Nat.le_of_ble_eq_true rfl)
theorem d_X8_costs_17 : decode (mB M_X8_costs) 17 = .ok (.ifCond .eq 13, 3) := by decide +kernel
theorem r_X8_costs_17 {x0 x1 x2 x3 x4 : Value} {x : Int32} {st : List Value} {h : AH} : Run M_X8_costs 17 [x0, x1, x2, x3, x4] (.int x :: st) h = if x = nI 0 then Run M_X8_costs 30 [x0, x1, x2, x3, x4] st h else Run M_X8_costs 20 [x0, x1, x2, x3, x4] st h := R_if_eq d_X8_costs_17 (by decide)
theorem d_X8_costs_20 : decode (mB M_X8_costs) 20 = .ok (.iload_n 3, 1) := by decide +kernel
theorem r_X8_costs_20 {x0 x1 x2 x4 : Value} {a : Int32} {st : List Value} {h : AH} : Run M_X8_costs 20 [x0, x1, x2, .int a, x4] st h = Run M_X8_costs 21 [x0, x1, x2, .int a, x4] (.int a :: st) h := R_iload_n d_X8_costs_20 rfl
theorem d_X8_costs_21 : decode (mB M_X8_costs) 21 = .ok (.iconst 0, 1) := by decide +kernel
theorem r_X8_costs_21 {x0 x1 x2 x3 x4 : Value} {st : List Value} {h : AH} : Run M_X8_costs 21 [x0, x1, x2, x3, x4] st h = Run M_X8_costs 22 [x0, x1, x2, x3, x4] (.int (nI 0) :: st) h := R_iconst d_X8_costs_21 (by decide)
theorem d_X8_costs_22 : decode (mB M_X8_costs) 22 = .ok (.bipush 20, 2) := by decide +kernel
theorem r_X8_costs_22 {x0 x1 x2 x3 x4 : Value} {st : List Value} {h : AH} : Run M_X8_costs 22 [x0, x1, x2, x3, x4] st h = Run M_X8_costs 24 [x0, x1, x2, x3, x4] (.int (nI 20) :: st) h := R_bipush d_X8_costs_22 (by decide)
theorem d_X8_costs_24 : decode (mB M_X8_costs) 24 = .ok (.invokestatic 65, 3) := by decide +kernel
theorem r_X8_costs_24 {x0 x1 x2 x3 x4 : Value} {p0 : Int32} {p1 : Int32} {p2 : Int32} {h : AH} : Run M_X8_costs 24 [x0, x1, x2, x3, x4] (.int p2 :: .int p1 :: .int p0 :: []) h = if (Call M_X8_within h [.int p0, .int p1, .int p2]).isSome = true then Run M_X8_costs 27 [x0, x1, x2, x3, x4] (rL (Call M_X8_within h [.int p0, .int p1, .int p2]) ++ []) (cH (Call M_X8_within h [.int p0, .int p1, .int p2])) else none := R_stat d_X8_costs_24 rfl rfl rfl rfl (Nat.le_of_ble_eq_true rfl)
theorem d_X8_costs_27 : decode (mB M_X8_costs) 27 = .ok (.ifCond .ne 6, 3) := by decide +kernel
theorem r_X8_costs_27 {x0 x1 x2 x3 x4 : Value} {x : Int32} {st : List Value} {h : AH} : Run M_X8_costs 27 [x0, x1, x2, x3, x4] (.int x :: st) h = if x = nI 0 then Run M_X8_costs 30 [x0, x1, x2, x3, x4] st h else Run M_X8_costs 33 [x0, x1, x2, x3, x4] st h := R_if_ne d_X8_costs_27 (by decide)
theorem d_X8_costs_30 : decode (mB M_X8_costs) 30 = .ok (.ldc 69, 2) := by decide +kernel
theorem r_X8_costs_30 {x0 x1 x2 x3 x4 : Value} {st : List Value} {h : AH} : Run M_X8_costs 30 [x0, x1, x2, x3, x4] st h = Run M_X8_costs 32 [x0, x1, x2, x3, x4] (.int (-1000000002) :: st) h := R_ldc d_X8_costs_30 (by decide)
theorem d_X8_costs_32 : decode (mB M_X8_costs) 32 = .ok (.ireturn, 1) := by decide +kernel
theorem r_X8_costs_32 {x0 x1 x2 x3 x4 : Value} {v : Int32} {h : AH} : Run M_X8_costs 32 [x0, x1, x2, x3, x4] [.int v] h = some (h, some (.int v)) := R_ireturn d_X8_costs_32 rfl rfl
theorem d_X8_costs_33 : decode (mB M_X8_costs) 33 = .ok (.aload_n 0, 1) := by decide +kernel
theorem r_X8_costs_33 {x1 x2 x3 x4 : Value} {a : Nat} {st : List Value} {h : AH} : Run M_X8_costs 33 [.ref a, x1, x2, x3, x4] st h = Run M_X8_costs 34 [.ref a, x1, x2, x3, x4] (.ref a :: st) h := R_aload_n d_X8_costs_33 rfl
theorem d_X8_costs_34 : decode (mB M_X8_costs) 34 = .ok (.getfield 57, 3) := by decide +kernel
theorem r_X8_costs_34 {x0 x1 x2 x3 x4 : Value} {a : Nat} {st : List Value} {h : AH} : Run M_X8_costs 34 [x0, x1, x2, x3, x4] (.ref a :: st) h = if (gF h a 8 7).isSome = true then Run M_X8_costs 37 [x0, x1, x2, x3, x4] ((gF h a 8 7).getD .null :: st) h else none := R_getfield d_X8_costs_34 rfl
theorem d_X8_costs_37 : decode (mB M_X8_costs) 37 = .ok (.getfield 92, 3) := by decide +kernel
theorem r_X8_costs_37 {x0 x1 x2 x3 x4 : Value} {a : Nat} {st : List Value} {h : AH} : Run M_X8_costs 37 [x0, x1, x2, x3, x4] (.ref a :: st) h = if (gF h a 4 6).isSome = true then Run M_X8_costs 40 [x0, x1, x2, x3, x4] ((gF h a 4 6).getD .null :: st) h else none := R_getfield d_X8_costs_37 rfl
theorem d_X8_costs_40 : decode (mB M_X8_costs) 40 = .ok (.getfield 108, 3) := by decide +kernel
theorem r_X8_costs_40 {x0 x1 x2 x3 x4 : Value} {a : Nat} {st : List Value} {h : AH} : Run M_X8_costs 40 [x0, x1, x2, x3, x4] (.ref a :: st) h = if (gF h a 0 0).isSome = true then Run M_X8_costs 43 [x0, x1, x2, x3, x4] ((gF h a 0 0).getD .null :: st) h else none := R_getfield d_X8_costs_40 rfl
theorem d_X8_costs_43 : decode (mB M_X8_costs) 43 = .ok (.istore 4, 2) := by decide +kernel
theorem r_X8_costs_43 {x0 x1 x2 x3 x4 : Value} {a : Int32} {st : List Value} {h : AH} (hc : x3.category = 1) : Run M_X8_costs 43 [x0, x1, x2, x3, x4] (.int a :: st) h = Run M_X8_costs 45 [x0, x1, x2, x3, .int a] st h := R_istore d_X8_costs_43 (Nat.lt_of_lt_of_le (by decide : 4 < 5) (Nat.le_refl 5)) (catP_of rfl hc)
theorem d_X8_costs_45 : decode (mB M_X8_costs) 45 = .ok (.aload_n 0, 1) := by decide +kernel
theorem r_X8_costs_45 {x1 x2 x3 x4 : Value} {a : Nat} {st : List Value} {h : AH} : Run M_X8_costs 45 [.ref a, x1, x2, x3, x4] st h = Run M_X8_costs 46 [.ref a, x1, x2, x3, x4] (.ref a :: st) h := R_aload_n d_X8_costs_45 rfl
theorem d_X8_costs_46 : decode (mB M_X8_costs) 46 = .ok (.getfield 57, 3) := by decide +kernel
theorem r_X8_costs_46 {x0 x1 x2 x3 x4 : Value} {a : Nat} {st : List Value} {h : AH} : Run M_X8_costs 46 [x0, x1, x2, x3, x4] (.ref a :: st) h = if (gF h a 8 7).isSome = true then Run M_X8_costs 49 [x0, x1, x2, x3, x4] ((gF h a 8 7).getD .null :: st) h else none := R_getfield d_X8_costs_46 rfl
theorem d_X8_costs_49 : decode (mB M_X8_costs) 49 = .ok (.getfield 92, 3) := by decide +kernel
theorem r_X8_costs_49 {x0 x1 x2 x3 x4 : Value} {a : Nat} {st : List Value} {h : AH} : Run M_X8_costs 49 [x0, x1, x2, x3, x4] (.ref a :: st) h = if (gF h a 4 6).isSome = true then Run M_X8_costs 52 [x0, x1, x2, x3, x4] ((gF h a 4 6).getD .null :: st) h else none := R_getfield d_X8_costs_49 rfl
theorem d_X8_costs_52 : decode (mB M_X8_costs) 52 = .ok (.iload_n 1, 1) := by decide +kernel
theorem r_X8_costs_52 {x0 x2 x3 x4 : Value} {a : Int32} {st : List Value} {h : AH} : Run M_X8_costs 52 [x0, .int a, x2, x3, x4] st h = Run M_X8_costs 53 [x0, .int a, x2, x3, x4] (.int a :: st) h := R_iload_n d_X8_costs_52 rfl
theorem d_X8_costs_53 : decode (mB M_X8_costs) 53 = .ok (.iload_n 2, 1) := by decide +kernel
theorem r_X8_costs_53 {x0 x1 x3 x4 : Value} {a : Int32} {st : List Value} {h : AH} : Run M_X8_costs 53 [x0, x1, .int a, x3, x4] st h = Run M_X8_costs 54 [x0, x1, .int a, x3, x4] (.int a :: st) h := R_iload_n d_X8_costs_53 rfl
theorem d_X8_costs_54 : decode (mB M_X8_costs) 54 = .ok (.iload_n 3, 1) := by decide +kernel
theorem r_X8_costs_54 {x0 x1 x2 x4 : Value} {a : Int32} {st : List Value} {h : AH} : Run M_X8_costs 54 [x0, x1, x2, .int a, x4] st h = Run M_X8_costs 55 [x0, x1, x2, .int a, x4] (.int a :: st) h := R_iload_n d_X8_costs_54 rfl
theorem d_X8_costs_55 : decode (mB M_X8_costs) 55 = .ok (.invokevirtual 169, 3) := by decide +kernel
theorem r_X8_costs_55 {x0 x1 x2 x3 x4 : Value} {p0 : Int32} {p1 : Int32} {p2 : Int32} {a : Nat} {h : AH} : Run M_X8_costs 55 [x0, x1, x2, x3, x4] (.int p2 :: .int p1 :: .int p0 :: .ref a :: []) h = if refO h 0 (some (.ref a)) = true then (if (Call M_X0_setCosts h [.ref a, .int p0, .int p1, .int p2]).isSome = true then Run M_X8_costs 58 [x0, x1, x2, x3, x4] (rL (Call M_X0_setCosts h [.ref a, .int p0, .int p1, .int p2]) ++ []) (cH (Call M_X0_setCosts h [.ref a, .int p0, .int p1, .int p2])) else none) else none := R_virt d_X8_costs_55 rfl rfl rfl rfl rfl (Nat.le_of_ble_eq_true rfl)
theorem d_X8_costs_58 : decode (mB M_X8_costs) 58 = .ok (.iload 4, 2) := by decide +kernel
theorem r_X8_costs_58 {x0 x1 x2 x3 : Value} {a : Int32} {st : List Value} {h : AH} : Run M_X8_costs 58 [x0, x1, x2, x3, .int a] st h = Run M_X8_costs 60 [x0, x1, x2, x3, .int a] (.int a :: st) h := R_iload d_X8_costs_58 rfl
theorem d_X8_costs_60 : decode (mB M_X8_costs) 60 = .ok (.ireturn, 1) := by decide +kernel
theorem r_X8_costs_60 {x0 x1 x2 x3 x4 : Value} {v : Int32} {h : AH} : Run M_X8_costs 60 [x0, x1, x2, x3, x4] [.int v] h = some (h, some (.int v)) := R_ireturn d_X8_costs_60 rfl rfl
theorem d_X8_sign_0 : decode (mB M_X8_sign) 0 = .ok (.iload_n 1, 1) := by decide +kernel
theorem r_X8_sign_0 {x0 x2 x3 : Value} {a : Int32} {st : List Value} {h : AH} : Run M_X8_sign 0 [x0, .int a, x2, x3] st h = Run M_X8_sign 1 [x0, .int a, x2, x3] (.int a :: st) h := R_iload_n d_X8_sign_0 rfl
theorem d_X8_sign_1 : decode (mB M_X8_sign) 1 = .ok (.iconst 0, 1) := by decide +kernel
theorem r_X8_sign_1 {x0 x1 x2 x3 : Value} {st : List Value} {h : AH} : Run M_X8_sign 1 [x0, x1, x2, x3] st h = Run M_X8_sign 2 [x0, x1, x2, x3] (.int (nI 0) :: st) h := R_iconst d_X8_sign_1 (by decide)
theorem d_X8_sign_2 : decode (mB M_X8_sign) 2 = .ok (.bipush 8, 2) := by decide +kernel
theorem r_X8_sign_2 {x0 x1 x2 x3 : Value} {st : List Value} {h : AH} : Run M_X8_sign 2 [x0, x1, x2, x3] st h = Run M_X8_sign 4 [x0, x1, x2, x3] (.int (nI 8) :: st) h := R_bipush d_X8_sign_2 (by decide)
theorem d_X8_sign_4 : decode (mB M_X8_sign) 4 = .ok (.invokestatic 65, 3) := by decide +kernel
theorem r_X8_sign_4 {x0 x1 x2 x3 : Value} {p0 : Int32} {p1 : Int32} {p2 : Int32} {h : AH} : Run M_X8_sign 4 [x0, x1, x2, x3] (.int p2 :: .int p1 :: .int p0 :: []) h = if (Call M_X8_within h [.int p0, .int p1, .int p2]).isSome = true then Run M_X8_sign 7 [x0, x1, x2, x3] (rL (Call M_X8_within h [.int p0, .int p1, .int p2]) ++ []) (cH (Call M_X8_within h [.int p0, .int p1, .int p2])) else none := R_stat d_X8_sign_4 rfl rfl rfl rfl (Nat.le_of_ble_eq_true rfl)
theorem d_X8_sign_7 : decode (mB M_X8_sign) 7 = .ok (.ifCond .eq 13, 3) := by decide +kernel
theorem r_X8_sign_7 {x0 x1 x2 x3 : Value} {x : Int32} {st : List Value} {h : AH} : Run M_X8_sign 7 [x0, x1, x2, x3] (.int x :: st) h = if x = nI 0 then Run M_X8_sign 20 [x0, x1, x2, x3] st h else Run M_X8_sign 10 [x0, x1, x2, x3] st h := R_if_eq d_X8_sign_7 (by decide)
theorem d_X8_sign_10 : decode (mB M_X8_sign) 10 = .ok (.iload_n 2, 1) := by decide +kernel
theorem r_X8_sign_10 {x0 x1 x3 : Value} {a : Int32} {st : List Value} {h : AH} : Run M_X8_sign 10 [x0, x1, .int a, x3] st h = Run M_X8_sign 11 [x0, x1, .int a, x3] (.int a :: st) h := R_iload_n d_X8_sign_10 rfl
theorem d_X8_sign_11 : decode (mB M_X8_sign) 11 = .ok (.iconst 0, 1) := by decide +kernel
theorem r_X8_sign_11 {x0 x1 x2 x3 : Value} {st : List Value} {h : AH} : Run M_X8_sign 11 [x0, x1, x2, x3] st h = Run M_X8_sign 12 [x0, x1, x2, x3] (.int (nI 0) :: st) h := R_iconst d_X8_sign_11 (by decide)
theorem d_X8_sign_12 : decode (mB M_X8_sign) 12 = .ok (.bipush 8, 2) := by decide +kernel
theorem r_X8_sign_12 {x0 x1 x2 x3 : Value} {st : List Value} {h : AH} : Run M_X8_sign 12 [x0, x1, x2, x3] st h = Run M_X8_sign 14 [x0, x1, x2, x3] (.int (nI 8) :: st) h := R_bipush d_X8_sign_12 (by decide)
theorem d_X8_sign_14 : decode (mB M_X8_sign) 14 = .ok (.invokestatic 65, 3) := by decide +kernel
theorem r_X8_sign_14 {x0 x1 x2 x3 : Value} {p0 : Int32} {p1 : Int32} {p2 : Int32} {h : AH} : Run M_X8_sign 14 [x0, x1, x2, x3] (.int p2 :: .int p1 :: .int p0 :: []) h = if (Call M_X8_within h [.int p0, .int p1, .int p2]).isSome = true then Run M_X8_sign 17 [x0, x1, x2, x3] (rL (Call M_X8_within h [.int p0, .int p1, .int p2]) ++ []) (cH (Call M_X8_within h [.int p0, .int p1, .int p2])) else none := R_stat d_X8_sign_14 rfl rfl rfl rfl (Nat.le_of_ble_eq_true rfl)
theorem d_X8_sign_17 : decode (mB M_X8_sign) 17 = .ok (.ifCond .ne 6, 3) := by decide +kernel
theorem r_X8_sign_17 {x0 x1 x2 x3 : Value} {x : Int32} {st : List Value} {h : AH} : Run M_X8_sign 17 [x0, x1, x2, x3] (.int x :: st) h = if x = nI 0 then Run M_X8_sign 20 [x0, x1, x2, x3] st h else Run M_X8_sign 23 [x0, x1, x2, x3] st h := R_if_ne d_X8_sign_17 (by decide)
theorem d_X8_sign_20 : decode (mB M_X8_sign) 20 = .ok (.ldc 69, 2) := by decide +kernel
theorem r_X8_sign_20 {x0 x1 x2 x3 : Value} {st : List Value} {h : AH} : Run M_X8_sign 20 [x0, x1, x2, x3] st h = Run M_X8_sign 22 [x0, x1, x2, x3] (.int (-1000000002) :: st) h := R_ldc d_X8_sign_20 (by decide)
theorem d_X8_sign_22 : decode (mB M_X8_sign) 22 = .ok (.ireturn, 1) := by decide +kernel
theorem r_X8_sign_22 {x0 x1 x2 x3 : Value} {v : Int32} {h : AH} : Run M_X8_sign 22 [x0, x1, x2, x3] [.int v] h = some (h, some (.int v)) := R_ireturn d_X8_sign_22 rfl rfl
theorem d_X8_sign_23 : decode (mB M_X8_sign) 23 = .ok (.aload_n 0, 1) := by decide +kernel
theorem r_X8_sign_23 {x1 x2 x3 : Value} {a : Nat} {st : List Value} {h : AH} : Run M_X8_sign 23 [.ref a, x1, x2, x3] st h = Run M_X8_sign 24 [.ref a, x1, x2, x3] (.ref a :: st) h := R_aload_n d_X8_sign_23 rfl
theorem d_X8_sign_24 : decode (mB M_X8_sign) 24 = .ok (.getfield 57, 3) := by decide +kernel
theorem r_X8_sign_24 {x0 x1 x2 x3 : Value} {a : Nat} {st : List Value} {h : AH} : Run M_X8_sign 24 [x0, x1, x2, x3] (.ref a :: st) h = if (gF h a 8 7).isSome = true then Run M_X8_sign 27 [x0, x1, x2, x3] ((gF h a 8 7).getD .null :: st) h else none := R_getfield d_X8_sign_24 rfl
theorem d_X8_sign_27 : decode (mB M_X8_sign) 27 = .ok (.getfield 92, 3) := by decide +kernel
theorem r_X8_sign_27 {x0 x1 x2 x3 : Value} {a : Nat} {st : List Value} {h : AH} : Run M_X8_sign 27 [x0, x1, x2, x3] (.ref a :: st) h = if (gF h a 4 6).isSome = true then Run M_X8_sign 30 [x0, x1, x2, x3] ((gF h a 4 6).getD .null :: st) h else none := R_getfield d_X8_sign_27 rfl
theorem d_X8_sign_30 : decode (mB M_X8_sign) 30 = .ok (.getfield 102, 3) := by decide +kernel
theorem r_X8_sign_30 {x0 x1 x2 x3 : Value} {a : Nat} {st : List Value} {h : AH} : Run M_X8_sign 30 [x0, x1, x2, x3] (.ref a :: st) h = if (gF h a 0 3).isSome = true then Run M_X8_sign 33 [x0, x1, x2, x3] ((gF h a 0 3).getD .null :: st) h else none := R_getfield d_X8_sign_30 rfl
theorem d_X8_sign_33 : decode (mB M_X8_sign) 33 = .ok (.istore_n 3, 1) := by decide +kernel
theorem r_X8_sign_33 {x0 x1 x2 x3 : Value} {a : Int32} {st : List Value} {h : AH} (hc : x2.category = 1) : Run M_X8_sign 33 [x0, x1, x2, x3] (.int a :: st) h = Run M_X8_sign 34 [x0, x1, x2, .int a] st h := R_istore_n d_X8_sign_33 (Nat.lt_of_lt_of_le (by decide : 3 < 4) (Nat.le_refl 4)) (catP_of rfl hc)
theorem d_X8_sign_34 : decode (mB M_X8_sign) 34 = .ok (.aload_n 0, 1) := by decide +kernel
theorem r_X8_sign_34 {x1 x2 x3 : Value} {a : Nat} {st : List Value} {h : AH} : Run M_X8_sign 34 [.ref a, x1, x2, x3] st h = Run M_X8_sign 35 [.ref a, x1, x2, x3] (.ref a :: st) h := R_aload_n d_X8_sign_34 rfl
theorem d_X8_sign_35 : decode (mB M_X8_sign) 35 = .ok (.getfield 57, 3) := by decide +kernel
theorem r_X8_sign_35 {x0 x1 x2 x3 : Value} {a : Nat} {st : List Value} {h : AH} : Run M_X8_sign 35 [x0, x1, x2, x3] (.ref a :: st) h = if (gF h a 8 7).isSome = true then Run M_X8_sign 38 [x0, x1, x2, x3] ((gF h a 8 7).getD .null :: st) h else none := R_getfield d_X8_sign_35 rfl
theorem d_X8_sign_38 : decode (mB M_X8_sign) 38 = .ok (.getfield 92, 3) := by decide +kernel
theorem r_X8_sign_38 {x0 x1 x2 x3 : Value} {a : Nat} {st : List Value} {h : AH} : Run M_X8_sign 38 [x0, x1, x2, x3] (.ref a :: st) h = if (gF h a 4 6).isSome = true then Run M_X8_sign 41 [x0, x1, x2, x3] ((gF h a 4 6).getD .null :: st) h else none := R_getfield d_X8_sign_38 rfl
theorem d_X8_sign_41 : decode (mB M_X8_sign) 41 = .ok (.iload_n 1, 1) := by decide +kernel
theorem r_X8_sign_41 {x0 x2 x3 : Value} {a : Int32} {st : List Value} {h : AH} : Run M_X8_sign 41 [x0, .int a, x2, x3] st h = Run M_X8_sign 42 [x0, .int a, x2, x3] (.int a :: st) h := R_iload_n d_X8_sign_41 rfl
theorem d_X8_sign_42 : decode (mB M_X8_sign) 42 = .ok (.iload_n 2, 1) := by decide +kernel
theorem r_X8_sign_42 {x0 x1 x3 : Value} {a : Int32} {st : List Value} {h : AH} : Run M_X8_sign 42 [x0, x1, .int a, x3] st h = Run M_X8_sign 43 [x0, x1, .int a, x3] (.int a :: st) h := R_iload_n d_X8_sign_42 rfl
theorem d_X8_sign_43 : decode (mB M_X8_sign) 43 = .ok (.invokevirtual 173, 3) := by decide +kernel
theorem r_X8_sign_43 {x0 x1 x2 x3 : Value} {p0 : Int32} {p1 : Int32} {a : Nat} {h : AH} : Run M_X8_sign 43 [x0, x1, x2, x3] (.int p1 :: .int p0 :: .ref a :: []) h = if refO h 0 (some (.ref a)) = true then (if (Call M_X0_setSign h [.ref a, .int p0, .int p1]).isSome = true then Run M_X8_sign 46 [x0, x1, x2, x3] (rL (Call M_X0_setSign h [.ref a, .int p0, .int p1]) ++ []) (cH (Call M_X0_setSign h [.ref a, .int p0, .int p1])) else none) else none := R_virt d_X8_sign_43 rfl rfl rfl rfl rfl (Nat.le_of_ble_eq_true rfl)
theorem d_X8_sign_46 : decode (mB M_X8_sign) 46 = .ok (.iload_n 3, 1) := by decide +kernel
theorem r_X8_sign_46 {x0 x1 x2 : Value} {a : Int32} {st : List Value} {h : AH} : Run M_X8_sign 46 [x0, x1, x2, .int a] st h = Run M_X8_sign 47 [x0, x1, x2, .int a] (.int a :: st) h := R_iload_n d_X8_sign_46 rfl
theorem d_X8_sign_47 : decode (mB M_X8_sign) 47 = .ok (.ireturn, 1) := by decide +kernel
theorem r_X8_sign_47 {x0 x1 x2 x3 : Value} {v : Int32} {h : AH} : Run M_X8_sign 47 [x0, x1, x2, x3] [.int v] h = some (h, some (.int v)) := R_ireturn d_X8_sign_47 rfl rfl
theorem d_X8_lags_0 : decode (mB M_X8_lags) 0 = .ok (.aload_n 0, 1) := by decide +kernel
theorem r_X8_lags_0 {x1 x2 x3 x4 : Value} {a : Nat} {st : List Value} {h : AH} : Run M_X8_lags 0 [.ref a, x1, x2, x3, x4] st h = Run M_X8_lags 1 [.ref a, x1, x2, x3, x4] (.ref a :: st) h := R_aload_n d_X8_lags_0 rfl
theorem d_X8_lags_1 : decode (mB M_X8_lags) 1 = .ok (.getfield 57, 3) := by decide +kernel
theorem r_X8_lags_1 {x0 x1 x2 x3 x4 : Value} {a : Nat} {st : List Value} {h : AH} : Run M_X8_lags 1 [x0, x1, x2, x3, x4] (.ref a :: st) h = if (gF h a 8 7).isSome = true then Run M_X8_lags 4 [x0, x1, x2, x3, x4] ((gF h a 8 7).getD .null :: st) h else none := R_getfield d_X8_lags_1 rfl
theorem d_X8_lags_4 : decode (mB M_X8_lags) 4 = .ok (.iload_n 1, 1) := by decide +kernel
theorem r_X8_lags_4 {x0 x2 x3 x4 : Value} {a : Int32} {st : List Value} {h : AH} : Run M_X8_lags 4 [x0, .int a, x2, x3, x4] st h = Run M_X8_lags 5 [x0, .int a, x2, x3, x4] (.int a :: st) h := R_iload_n d_X8_lags_4 rfl
theorem d_X8_lags_5 : decode (mB M_X8_lags) 5 = .ok (.invokevirtual 154, 3) := by decide +kernel
theorem r_X8_lags_5 {x0 x1 x2 x3 x4 : Value} {p0 : Int32} {a : Nat} {h : AH} : Run M_X8_lags 5 [x0, x1, x2, x3, x4] (.int p0 :: .ref a :: []) h = if refO h 4 (some (.ref a)) = true then (if (Call M_X4_hasPlayer h [.ref a, .int p0]).isSome = true then Run M_X8_lags 8 [x0, x1, x2, x3, x4] (rL (Call M_X4_hasPlayer h [.ref a, .int p0]) ++ []) (cH (Call M_X4_hasPlayer h [.ref a, .int p0])) else none) else none := R_virt d_X8_lags_5 rfl rfl rfl rfl rfl (Nat.le_of_ble_eq_true rfl)
theorem d_X8_lags_8 : decode (mB M_X8_lags) 8 = .ok (.ifCond .ne 6, 3) := by decide +kernel
theorem r_X8_lags_8 {x0 x1 x2 x3 x4 : Value} {x : Int32} {st : List Value} {h : AH} : Run M_X8_lags 8 [x0, x1, x2, x3, x4] (.int x :: st) h = if x = nI 0 then Run M_X8_lags 11 [x0, x1, x2, x3, x4] st h else Run M_X8_lags 14 [x0, x1, x2, x3, x4] st h := R_if_ne d_X8_lags_8 (by decide)
theorem d_X8_lags_11 : decode (mB M_X8_lags) 11 = .ok (.ldc 131, 2) := by decide +kernel
theorem r_X8_lags_11 {x0 x1 x2 x3 x4 : Value} {st : List Value} {h : AH} : Run M_X8_lags 11 [x0, x1, x2, x3, x4] st h = Run M_X8_lags 13 [x0, x1, x2, x3, x4] (.int (-1000000001) :: st) h := R_ldc d_X8_lags_11 (by decide)
theorem d_X8_lags_13 : decode (mB M_X8_lags) 13 = .ok (.ireturn, 1) := by decide +kernel
theorem r_X8_lags_13 {x0 x1 x2 x3 x4 : Value} {v : Int32} {h : AH} : Run M_X8_lags 13 [x0, x1, x2, x3, x4] [.int v] h = some (h, some (.int v)) := R_ireturn d_X8_lags_13 rfl rfl
theorem d_X8_lags_14 : decode (mB M_X8_lags) 14 = .ok (.iload_n 2, 1) := by decide +kernel
theorem r_X8_lags_14 {x0 x1 x3 x4 : Value} {a : Int32} {st : List Value} {h : AH} : Run M_X8_lags 14 [x0, x1, .int a, x3, x4] st h = Run M_X8_lags 15 [x0, x1, .int a, x3, x4] (.int a :: st) h := R_iload_n d_X8_lags_14 rfl
theorem d_X8_lags_15 : decode (mB M_X8_lags) 15 = .ok (.iconst 0, 1) := by decide +kernel
theorem r_X8_lags_15 {x0 x1 x2 x3 x4 : Value} {st : List Value} {h : AH} : Run M_X8_lags 15 [x0, x1, x2, x3, x4] st h = Run M_X8_lags 16 [x0, x1, x2, x3, x4] (.int (nI 0) :: st) h := R_iconst d_X8_lags_15 (by decide)
theorem d_X8_lags_16 : decode (mB M_X8_lags) 16 = .ok (.bipush 30, 2) := by decide +kernel
theorem r_X8_lags_16 {x0 x1 x2 x3 x4 : Value} {st : List Value} {h : AH} : Run M_X8_lags 16 [x0, x1, x2, x3, x4] st h = Run M_X8_lags 18 [x0, x1, x2, x3, x4] (.int (nI 30) :: st) h := R_bipush d_X8_lags_16 (by decide)
theorem d_X8_lags_18 : decode (mB M_X8_lags) 18 = .ok (.invokestatic 65, 3) := by decide +kernel
theorem r_X8_lags_18 {x0 x1 x2 x3 x4 : Value} {p0 : Int32} {p1 : Int32} {p2 : Int32} {h : AH} : Run M_X8_lags 18 [x0, x1, x2, x3, x4] (.int p2 :: .int p1 :: .int p0 :: []) h = if (Call M_X8_within h [.int p0, .int p1, .int p2]).isSome = true then Run M_X8_lags 21 [x0, x1, x2, x3, x4] (rL (Call M_X8_within h [.int p0, .int p1, .int p2]) ++ []) (cH (Call M_X8_within h [.int p0, .int p1, .int p2])) else none := R_stat d_X8_lags_18 rfl rfl rfl rfl (Nat.le_of_ble_eq_true rfl)
theorem d_X8_lags_21 : decode (mB M_X8_lags) 21 = .ok (.ifCond .eq 13, 3) := by decide +kernel
theorem r_X8_lags_21 {x0 x1 x2 x3 x4 : Value} {x : Int32} {st : List Value} {h : AH} : Run M_X8_lags 21 [x0, x1, x2, x3, x4] (.int x :: st) h = if x = nI 0 then Run M_X8_lags 34 [x0, x1, x2, x3, x4] st h else Run M_X8_lags 24 [x0, x1, x2, x3, x4] st h := R_if_eq d_X8_lags_21 (by decide)
theorem d_X8_lags_24 : decode (mB M_X8_lags) 24 = .ok (.iload_n 3, 1) := by decide +kernel
theorem r_X8_lags_24 {x0 x1 x2 x4 : Value} {a : Int32} {st : List Value} {h : AH} : Run M_X8_lags 24 [x0, x1, x2, .int a, x4] st h = Run M_X8_lags 25 [x0, x1, x2, .int a, x4] (.int a :: st) h := R_iload_n d_X8_lags_24 rfl
theorem d_X8_lags_25 : decode (mB M_X8_lags) 25 = .ok (.iconst 0, 1) := by decide +kernel
theorem r_X8_lags_25 {x0 x1 x2 x3 x4 : Value} {st : List Value} {h : AH} : Run M_X8_lags 25 [x0, x1, x2, x3, x4] st h = Run M_X8_lags 26 [x0, x1, x2, x3, x4] (.int (nI 0) :: st) h := R_iconst d_X8_lags_25 (by decide)
theorem d_X8_lags_26 : decode (mB M_X8_lags) 26 = .ok (.bipush 30, 2) := by decide +kernel
theorem r_X8_lags_26 {x0 x1 x2 x3 x4 : Value} {st : List Value} {h : AH} : Run M_X8_lags 26 [x0, x1, x2, x3, x4] st h = Run M_X8_lags 28 [x0, x1, x2, x3, x4] (.int (nI 30) :: st) h := R_bipush d_X8_lags_26 (by decide)
theorem d_X8_lags_28 : decode (mB M_X8_lags) 28 = .ok (.invokestatic 65, 3) := by decide +kernel
theorem r_X8_lags_28 {x0 x1 x2 x3 x4 : Value} {p0 : Int32} {p1 : Int32} {p2 : Int32} {h : AH} : Run M_X8_lags 28 [x0, x1, x2, x3, x4] (.int p2 :: .int p1 :: .int p0 :: []) h = if (Call M_X8_within h [.int p0, .int p1, .int p2]).isSome = true then Run M_X8_lags 31 [x0, x1, x2, x3, x4] (rL (Call M_X8_within h [.int p0, .int p1, .int p2]) ++ []) (cH (Call M_X8_within h [.int p0, .int p1, .int p2])) else none := R_stat d_X8_lags_28 rfl rfl rfl rfl (Nat.le_of_ble_eq_true rfl)
theorem d_X8_lags_31 : decode (mB M_X8_lags) 31 = .ok (.ifCond .ne 6, 3) := by decide +kernel
theorem r_X8_lags_31 {x0 x1 x2 x3 x4 : Value} {x : Int32} {st : List Value} {h : AH} : Run M_X8_lags 31 [x0, x1, x2, x3, x4] (.int x :: st) h = if x = nI 0 then Run M_X8_lags 34 [x0, x1, x2, x3, x4] st h else Run M_X8_lags 37 [x0, x1, x2, x3, x4] st h := R_if_ne d_X8_lags_31 (by decide)
theorem d_X8_lags_34 : decode (mB M_X8_lags) 34 = .ok (.ldc 69, 2) := by decide +kernel
theorem r_X8_lags_34 {x0 x1 x2 x3 x4 : Value} {st : List Value} {h : AH} : Run M_X8_lags 34 [x0, x1, x2, x3, x4] st h = Run M_X8_lags 36 [x0, x1, x2, x3, x4] (.int (-1000000002) :: st) h := R_ldc d_X8_lags_34 (by decide)
theorem d_X8_lags_36 : decode (mB M_X8_lags) 36 = .ok (.ireturn, 1) := by decide +kernel
theorem r_X8_lags_36 {x0 x1 x2 x3 x4 : Value} {v : Int32} {h : AH} : Run M_X8_lags 36 [x0, x1, x2, x3, x4] [.int v] h = some (h, some (.int v)) := R_ireturn d_X8_lags_36 rfl rfl
theorem d_X8_lags_37 : decode (mB M_X8_lags) 37 = .ok (.aload_n 0, 1) := by decide +kernel
theorem r_X8_lags_37 {x1 x2 x3 x4 : Value} {a : Nat} {st : List Value} {h : AH} : Run M_X8_lags 37 [.ref a, x1, x2, x3, x4] st h = Run M_X8_lags 38 [.ref a, x1, x2, x3, x4] (.ref a :: st) h := R_aload_n d_X8_lags_37 rfl
theorem d_X8_lags_38 : decode (mB M_X8_lags) 38 = .ok (.getfield 57, 3) := by decide +kernel
theorem r_X8_lags_38 {x0 x1 x2 x3 x4 : Value} {a : Nat} {st : List Value} {h : AH} : Run M_X8_lags 38 [x0, x1, x2, x3, x4] (.ref a :: st) h = if (gF h a 8 7).isSome = true then Run M_X8_lags 41 [x0, x1, x2, x3, x4] ((gF h a 8 7).getD .null :: st) h else none := R_getfield d_X8_lags_38 rfl
theorem d_X8_lags_41 : decode (mB M_X8_lags) 41 = .ok (.getfield 92, 3) := by decide +kernel
theorem r_X8_lags_41 {x0 x1 x2 x3 x4 : Value} {a : Nat} {st : List Value} {h : AH} : Run M_X8_lags 41 [x0, x1, x2, x3, x4] (.ref a :: st) h = if (gF h a 4 6).isSome = true then Run M_X8_lags 44 [x0, x1, x2, x3, x4] ((gF h a 4 6).getD .null :: st) h else none := R_getfield d_X8_lags_41 rfl
theorem d_X8_lags_44 : decode (mB M_X8_lags) 44 = .ok (.getfield 157, 3) := by decide +kernel
theorem r_X8_lags_44 {x0 x1 x2 x3 x4 : Value} {a : Nat} {st : List Value} {h : AH} : Run M_X8_lags 44 [x0, x1, x2, x3, x4] (.ref a :: st) h = if (gF h a 0 5).isSome = true then Run M_X8_lags 47 [x0, x1, x2, x3, x4] ((gF h a 0 5).getD .null :: st) h else none := R_getfield d_X8_lags_44 rfl
theorem d_X8_lags_47 : decode (mB M_X8_lags) 47 = .ok (.iload_n 1, 1) := by decide +kernel
theorem r_X8_lags_47 {x0 x2 x3 x4 : Value} {a : Int32} {st : List Value} {h : AH} : Run M_X8_lags 47 [x0, .int a, x2, x3, x4] st h = Run M_X8_lags 48 [x0, .int a, x2, x3, x4] (.int a :: st) h := R_iload_n d_X8_lags_47 rfl
theorem d_X8_lags_48 : decode (mB M_X8_lags) 48 = .ok (.iaload, 1) := by decide +kernel
theorem r_X8_lags_48 {x0 x1 x2 x3 x4 : Value} {a : Nat} {i : Int32} {st : List Value} {h : AH} : Run M_X8_lags 48 [x0, x1, x2, x3, x4] (.int i :: .ref a :: st) h = if (gI 0 h a i).isSome = true then Run M_X8_lags 49 [x0, x1, x2, x3, x4] (.int ((gI 0 h a i).getD 0) :: st) h else none := R_iaload d_X8_lags_48
theorem d_X8_lags_49 : decode (mB M_X8_lags) 49 = .ok (.istore 4, 2) := by decide +kernel
theorem r_X8_lags_49 {x0 x1 x2 x3 x4 : Value} {a : Int32} {st : List Value} {h : AH} (hc : x3.category = 1) : Run M_X8_lags 49 [x0, x1, x2, x3, x4] (.int a :: st) h = Run M_X8_lags 51 [x0, x1, x2, x3, .int a] st h := R_istore d_X8_lags_49 (Nat.lt_of_lt_of_le (by decide : 4 < 5) (Nat.le_refl 5)) (catP_of rfl hc)
theorem d_X8_lags_51 : decode (mB M_X8_lags) 51 = .ok (.aload_n 0, 1) := by decide +kernel
theorem r_X8_lags_51 {x1 x2 x3 x4 : Value} {a : Nat} {st : List Value} {h : AH} : Run M_X8_lags 51 [.ref a, x1, x2, x3, x4] st h = Run M_X8_lags 52 [.ref a, x1, x2, x3, x4] (.ref a :: st) h := R_aload_n d_X8_lags_51 rfl
theorem d_X8_lags_52 : decode (mB M_X8_lags) 52 = .ok (.getfield 57, 3) := by decide +kernel
theorem r_X8_lags_52 {x0 x1 x2 x3 x4 : Value} {a : Nat} {st : List Value} {h : AH} : Run M_X8_lags 52 [x0, x1, x2, x3, x4] (.ref a :: st) h = if (gF h a 8 7).isSome = true then Run M_X8_lags 55 [x0, x1, x2, x3, x4] ((gF h a 8 7).getD .null :: st) h else none := R_getfield d_X8_lags_52 rfl
theorem d_X8_lags_55 : decode (mB M_X8_lags) 55 = .ok (.getfield 92, 3) := by decide +kernel
theorem r_X8_lags_55 {x0 x1 x2 x3 x4 : Value} {a : Nat} {st : List Value} {h : AH} : Run M_X8_lags 55 [x0, x1, x2, x3, x4] (.ref a :: st) h = if (gF h a 4 6).isSome = true then Run M_X8_lags 58 [x0, x1, x2, x3, x4] ((gF h a 4 6).getD .null :: st) h else none := R_getfield d_X8_lags_55 rfl
theorem d_X8_lags_58 : decode (mB M_X8_lags) 58 = .ok (.getfield 157, 3) := by decide +kernel
theorem r_X8_lags_58 {x0 x1 x2 x3 x4 : Value} {a : Nat} {st : List Value} {h : AH} : Run M_X8_lags 58 [x0, x1, x2, x3, x4] (.ref a :: st) h = if (gF h a 0 5).isSome = true then Run M_X8_lags 61 [x0, x1, x2, x3, x4] ((gF h a 0 5).getD .null :: st) h else none := R_getfield d_X8_lags_58 rfl
theorem d_X8_lags_61 : decode (mB M_X8_lags) 61 = .ok (.iload_n 1, 1) := by decide +kernel
theorem r_X8_lags_61 {x0 x2 x3 x4 : Value} {a : Int32} {st : List Value} {h : AH} : Run M_X8_lags 61 [x0, .int a, x2, x3, x4] st h = Run M_X8_lags 62 [x0, .int a, x2, x3, x4] (.int a :: st) h := R_iload_n d_X8_lags_61 rfl
theorem d_X8_lags_62 : decode (mB M_X8_lags) 62 = .ok (.iload_n 2, 1) := by decide +kernel
theorem r_X8_lags_62 {x0 x1 x3 x4 : Value} {a : Int32} {st : List Value} {h : AH} : Run M_X8_lags 62 [x0, x1, .int a, x3, x4] st h = Run M_X8_lags 63 [x0, x1, .int a, x3, x4] (.int a :: st) h := R_iload_n d_X8_lags_62 rfl
theorem d_X8_lags_63 : decode (mB M_X8_lags) 63 = .ok (.iastore, 1) := by decide +kernel
theorem r_X8_lags_63 {x0 x1 x2 x3 x4 : Value} {a : Nat} {i x : Int32} {st : List Value} {h : AH} : Run M_X8_lags 63 [x0, x1, x2, x3, x4] (.int x :: .int i :: .ref a :: st) h = if (pI 0 h a i x).isSome = true then Run M_X8_lags 64 [x0, x1, x2, x3, x4] st ((pI 0 h a i x).getD h) else none := R_iastore d_X8_lags_63
theorem d_X8_lags_64 : decode (mB M_X8_lags) 64 = .ok (.aload_n 0, 1) := by decide +kernel
theorem r_X8_lags_64 {x1 x2 x3 x4 : Value} {a : Nat} {st : List Value} {h : AH} : Run M_X8_lags 64 [.ref a, x1, x2, x3, x4] st h = Run M_X8_lags 65 [.ref a, x1, x2, x3, x4] (.ref a :: st) h := R_aload_n d_X8_lags_64 rfl
theorem d_X8_lags_65 : decode (mB M_X8_lags) 65 = .ok (.getfield 57, 3) := by decide +kernel
theorem r_X8_lags_65 {x0 x1 x2 x3 x4 : Value} {a : Nat} {st : List Value} {h : AH} : Run M_X8_lags 65 [x0, x1, x2, x3, x4] (.ref a :: st) h = if (gF h a 8 7).isSome = true then Run M_X8_lags 68 [x0, x1, x2, x3, x4] ((gF h a 8 7).getD .null :: st) h else none := R_getfield d_X8_lags_65 rfl
theorem d_X8_lags_68 : decode (mB M_X8_lags) 68 = .ok (.getfield 92, 3) := by decide +kernel
theorem r_X8_lags_68 {x0 x1 x2 x3 x4 : Value} {a : Nat} {st : List Value} {h : AH} : Run M_X8_lags 68 [x0, x1, x2, x3, x4] (.ref a :: st) h = if (gF h a 4 6).isSome = true then Run M_X8_lags 71 [x0, x1, x2, x3, x4] ((gF h a 4 6).getD .null :: st) h else none := R_getfield d_X8_lags_68 rfl
theorem d_X8_lags_71 : decode (mB M_X8_lags) 71 = .ok (.getfield 160, 3) := by decide +kernel
theorem r_X8_lags_71 {x0 x1 x2 x3 x4 : Value} {a : Nat} {st : List Value} {h : AH} : Run M_X8_lags 71 [x0, x1, x2, x3, x4] (.ref a :: st) h = if (gF h a 0 6).isSome = true then Run M_X8_lags 74 [x0, x1, x2, x3, x4] ((gF h a 0 6).getD .null :: st) h else none := R_getfield d_X8_lags_71 rfl
theorem d_X8_lags_74 : decode (mB M_X8_lags) 74 = .ok (.iload_n 1, 1) := by decide +kernel
theorem r_X8_lags_74 {x0 x2 x3 x4 : Value} {a : Int32} {st : List Value} {h : AH} : Run M_X8_lags 74 [x0, .int a, x2, x3, x4] st h = Run M_X8_lags 75 [x0, .int a, x2, x3, x4] (.int a :: st) h := R_iload_n d_X8_lags_74 rfl
theorem d_X8_lags_75 : decode (mB M_X8_lags) 75 = .ok (.iload_n 3, 1) := by decide +kernel
theorem r_X8_lags_75 {x0 x1 x2 x4 : Value} {a : Int32} {st : List Value} {h : AH} : Run M_X8_lags 75 [x0, x1, x2, .int a, x4] st h = Run M_X8_lags 76 [x0, x1, x2, .int a, x4] (.int a :: st) h := R_iload_n d_X8_lags_75 rfl
theorem d_X8_lags_76 : decode (mB M_X8_lags) 76 = .ok (.iastore, 1) := by decide +kernel
theorem r_X8_lags_76 {x0 x1 x2 x3 x4 : Value} {a : Nat} {i x : Int32} {st : List Value} {h : AH} : Run M_X8_lags 76 [x0, x1, x2, x3, x4] (.int x :: .int i :: .ref a :: st) h = if (pI 0 h a i x).isSome = true then Run M_X8_lags 77 [x0, x1, x2, x3, x4] st ((pI 0 h a i x).getD h) else none := R_iastore d_X8_lags_76
theorem d_X8_lags_77 : decode (mB M_X8_lags) 77 = .ok (.iload 4, 2) := by decide +kernel
theorem r_X8_lags_77 {x0 x1 x2 x3 : Value} {a : Int32} {st : List Value} {h : AH} : Run M_X8_lags 77 [x0, x1, x2, x3, .int a] st h = Run M_X8_lags 79 [x0, x1, x2, x3, .int a] (.int a :: st) h := R_iload d_X8_lags_77 rfl
theorem d_X8_lags_79 : decode (mB M_X8_lags) 79 = .ok (.ireturn, 1) := by decide +kernel
theorem r_X8_lags_79 {x0 x1 x2 x3 x4 : Value} {v : Int32} {h : AH} : Run M_X8_lags 79 [x0, x1, x2, x3, x4] [.int v] h = some (h, some (.int v)) := R_ireturn d_X8_lags_79 rfl rfl
theorem d_X8_lead_0 : decode (mB M_X8_lead) 0 = .ok (.iload_n 1, 1) := by decide +kernel
theorem r_X8_lead_0 {x0 x2 : Value} {a : Int32} {st : List Value} {h : AH} : Run M_X8_lead 0 [x0, .int a, x2] st h = Run M_X8_lead 1 [x0, .int a, x2] (.int a :: st) h := R_iload_n d_X8_lead_0 rfl
theorem d_X8_lead_1 : decode (mB M_X8_lead) 1 = .ok (.iconst 0, 1) := by decide +kernel
theorem r_X8_lead_1 {x0 x1 x2 : Value} {st : List Value} {h : AH} : Run M_X8_lead 1 [x0, x1, x2] st h = Run M_X8_lead 2 [x0, x1, x2] (.int (nI 0) :: st) h := R_iconst d_X8_lead_1 (by decide)
theorem d_X8_lead_2 : decode (mB M_X8_lead) 2 = .ok (.aload_n 0, 1) := by decide +kernel
theorem r_X8_lead_2 {x1 x2 : Value} {a : Nat} {st : List Value} {h : AH} : Run M_X8_lead 2 [.ref a, x1, x2] st h = Run M_X8_lead 3 [.ref a, x1, x2] (.ref a :: st) h := R_aload_n d_X8_lead_2 rfl
theorem d_X8_lead_3 : decode (mB M_X8_lead) 3 = .ok (.getfield 57, 3) := by decide +kernel
theorem r_X8_lead_3 {x0 x1 x2 : Value} {a : Nat} {st : List Value} {h : AH} : Run M_X8_lead 3 [x0, x1, x2] (.ref a :: st) h = if (gF h a 8 7).isSome = true then Run M_X8_lead 6 [x0, x1, x2] ((gF h a 8 7).getD .null :: st) h else none := R_getfield d_X8_lead_3 rfl
theorem d_X8_lead_6 : decode (mB M_X8_lead) 6 = .ok (.invokevirtual 177, 3) := by decide +kernel
theorem r_X8_lead_6 {x0 x1 x2 : Value} {a : Nat} {w0 w1 : Value} {h : AH} : Run M_X8_lead 6 [x0, x1, x2] (.ref a :: [w0, w1]) h = if refO h 4 (some (.ref a)) = true then (if (Call M_X4_everyPlayer h [.ref a]).isSome = true then Run M_X8_lead 9 [x0, x1, x2] (rL (Call M_X4_everyPlayer h [.ref a]) ++ [w0, w1]) (cH (Call M_X4_everyPlayer h [.ref a])) else none) else none := R_virt d_X8_lead_6 rfl rfl rfl rfl rfl (Nat.le_of_ble_eq_true rfl)
theorem d_X8_lead_9 : decode (mB M_X8_lead) 9 = .ok (.invokestatic 65, 3) := by decide +kernel
theorem r_X8_lead_9 {x0 x1 x2 : Value} {p0 : Int32} {p1 : Int32} {p2 : Int32} {h : AH} : Run M_X8_lead 9 [x0, x1, x2] (.int p2 :: .int p1 :: .int p0 :: []) h = if (Call M_X8_within h [.int p0, .int p1, .int p2]).isSome = true then Run M_X8_lead 12 [x0, x1, x2] (rL (Call M_X8_within h [.int p0, .int p1, .int p2]) ++ []) (cH (Call M_X8_within h [.int p0, .int p1, .int p2])) else none := R_stat d_X8_lead_9 rfl rfl rfl rfl (Nat.le_of_ble_eq_true rfl)
theorem d_X8_lead_12 : decode (mB M_X8_lead) 12 = .ok (.ifCond .ne 6, 3) := by decide +kernel
theorem r_X8_lead_12 {x0 x1 x2 : Value} {x : Int32} {st : List Value} {h : AH} : Run M_X8_lead 12 [x0, x1, x2] (.int x :: st) h = if x = nI 0 then Run M_X8_lead 15 [x0, x1, x2] st h else Run M_X8_lead 18 [x0, x1, x2] st h := R_if_ne d_X8_lead_12 (by decide)
theorem d_X8_lead_15 : decode (mB M_X8_lead) 15 = .ok (.ldc 131, 2) := by decide +kernel
theorem r_X8_lead_15 {x0 x1 x2 : Value} {st : List Value} {h : AH} : Run M_X8_lead 15 [x0, x1, x2] st h = Run M_X8_lead 17 [x0, x1, x2] (.int (-1000000001) :: st) h := R_ldc d_X8_lead_15 (by decide)
theorem d_X8_lead_17 : decode (mB M_X8_lead) 17 = .ok (.ireturn, 1) := by decide +kernel
theorem r_X8_lead_17 {x0 x1 x2 : Value} {v : Int32} {h : AH} : Run M_X8_lead 17 [x0, x1, x2] [.int v] h = some (h, some (.int v)) := R_ireturn d_X8_lead_17 rfl rfl
theorem d_X8_lead_18 : decode (mB M_X8_lead) 18 = .ok (.aload_n 0, 1) := by decide +kernel
theorem r_X8_lead_18 {x1 x2 : Value} {a : Nat} {st : List Value} {h : AH} : Run M_X8_lead 18 [.ref a, x1, x2] st h = Run M_X8_lead 19 [.ref a, x1, x2] (.ref a :: st) h := R_aload_n d_X8_lead_18 rfl
theorem d_X8_lead_19 : decode (mB M_X8_lead) 19 = .ok (.getfield 57, 3) := by decide +kernel
theorem r_X8_lead_19 {x0 x1 x2 : Value} {a : Nat} {st : List Value} {h : AH} : Run M_X8_lead 19 [x0, x1, x2] (.ref a :: st) h = if (gF h a 8 7).isSome = true then Run M_X8_lead 22 [x0, x1, x2] ((gF h a 8 7).getD .null :: st) h else none := R_getfield d_X8_lead_19 rfl
theorem d_X8_lead_22 : decode (mB M_X8_lead) 22 = .ok (.getfield 92, 3) := by decide +kernel
theorem r_X8_lead_22 {x0 x1 x2 : Value} {a : Nat} {st : List Value} {h : AH} : Run M_X8_lead 22 [x0, x1, x2] (.ref a :: st) h = if (gF h a 4 6).isSome = true then Run M_X8_lead 25 [x0, x1, x2] ((gF h a 4 6).getD .null :: st) h else none := R_getfield d_X8_lead_22 rfl
theorem d_X8_lead_25 : decode (mB M_X8_lead) 25 = .ok (.getfield 117, 3) := by decide +kernel
theorem r_X8_lead_25 {x0 x1 x2 : Value} {a : Nat} {st : List Value} {h : AH} : Run M_X8_lead 25 [x0, x1, x2] (.ref a :: st) h = if (gF h a 0 7).isSome = true then Run M_X8_lead 28 [x0, x1, x2] ((gF h a 0 7).getD .null :: st) h else none := R_getfield d_X8_lead_25 rfl
theorem d_X8_lead_28 : decode (mB M_X8_lead) 28 = .ok (.istore_n 2, 1) := by decide +kernel
theorem r_X8_lead_28 {x0 x1 x2 : Value} {a : Int32} {st : List Value} {h : AH} (hc : x1.category = 1) : Run M_X8_lead 28 [x0, x1, x2] (.int a :: st) h = Run M_X8_lead 29 [x0, x1, .int a] st h := R_istore_n d_X8_lead_28 (Nat.lt_of_lt_of_le (by decide : 2 < 3) (Nat.le_refl 3)) (catP_of rfl hc)
theorem d_X8_lead_29 : decode (mB M_X8_lead) 29 = .ok (.aload_n 0, 1) := by decide +kernel
theorem r_X8_lead_29 {x1 x2 : Value} {a : Nat} {st : List Value} {h : AH} : Run M_X8_lead 29 [.ref a, x1, x2] st h = Run M_X8_lead 30 [.ref a, x1, x2] (.ref a :: st) h := R_aload_n d_X8_lead_29 rfl
theorem d_X8_lead_30 : decode (mB M_X8_lead) 30 = .ok (.getfield 57, 3) := by decide +kernel
theorem r_X8_lead_30 {x0 x1 x2 : Value} {a : Nat} {st : List Value} {h : AH} : Run M_X8_lead 30 [x0, x1, x2] (.ref a :: st) h = if (gF h a 8 7).isSome = true then Run M_X8_lead 33 [x0, x1, x2] ((gF h a 8 7).getD .null :: st) h else none := R_getfield d_X8_lead_30 rfl
theorem d_X8_lead_33 : decode (mB M_X8_lead) 33 = .ok (.getfield 92, 3) := by decide +kernel
theorem r_X8_lead_33 {x0 x1 x2 : Value} {a : Nat} {st : List Value} {h : AH} : Run M_X8_lead 33 [x0, x1, x2] (.ref a :: st) h = if (gF h a 4 6).isSome = true then Run M_X8_lead 36 [x0, x1, x2] ((gF h a 4 6).getD .null :: st) h else none := R_getfield d_X8_lead_33 rfl
theorem d_X8_lead_36 : decode (mB M_X8_lead) 36 = .ok (.iload_n 1, 1) := by decide +kernel
theorem r_X8_lead_36 {x0 x2 : Value} {a : Int32} {st : List Value} {h : AH} : Run M_X8_lead 36 [x0, .int a, x2] st h = Run M_X8_lead 37 [x0, .int a, x2] (.int a :: st) h := R_iload_n d_X8_lead_36 rfl
theorem d_X8_lead_37 : decode (mB M_X8_lead) 37 = .ok (.putfield 117, 3) := by decide +kernel
theorem r_X8_lead_37 {x0 x1 x2 : Value} {v : Int32} {a : Nat} {st : List Value} {h : AH} : Run M_X8_lead 37 [x0, x1, x2] (.int v :: .ref a :: st) h = if (pF h a 0 7 (.int v)).isSome = true then Run M_X8_lead 40 [x0, x1, x2] st ((pF h a 0 7 (.int v)).getD h) else none := R_putfield d_X8_lead_37 rfl (okP_int rfl rfl)
theorem d_X8_lead_40 : decode (mB M_X8_lead) 40 = .ok (.iload_n 2, 1) := by decide +kernel
theorem r_X8_lead_40 {x0 x1 : Value} {a : Int32} {st : List Value} {h : AH} : Run M_X8_lead 40 [x0, x1, .int a] st h = Run M_X8_lead 41 [x0, x1, .int a] (.int a :: st) h := R_iload_n d_X8_lead_40 rfl
theorem d_X8_lead_41 : decode (mB M_X8_lead) 41 = .ok (.ireturn, 1) := by decide +kernel
theorem r_X8_lead_41 {x0 x1 x2 : Value} {v : Int32} {h : AH} : Run M_X8_lead 41 [x0, x1, x2] [.int v] h = some (h, some (.int v)) := R_ireturn d_X8_lead_41 rfl rfl
theorem d_X8_drift_0 : decode (mB M_X8_drift) 0 = .ok (.iload_n 1, 1) := by decide +kernel
theorem r_X8_drift_0 {x0 x2 x3 : Value} {a : Int32} {st : List Value} {h : AH} : Run M_X8_drift 0 [x0, .int a, x2, x3] st h = Run M_X8_drift 1 [x0, .int a, x2, x3] (.int a :: st) h := R_iload_n d_X8_drift_0 rfl
theorem d_X8_drift_1 : decode (mB M_X8_drift) 1 = .ok (.iconst 1, 1) := by decide +kernel
theorem r_X8_drift_1 {x0 x1 x2 x3 : Value} {st : List Value} {h : AH} : Run M_X8_drift 1 [x0, x1, x2, x3] st h = Run M_X8_drift 2 [x0, x1, x2, x3] (.int (nI 1) :: st) h := R_iconst d_X8_drift_1 (by decide)
theorem d_X8_drift_2 : decode (mB M_X8_drift) 2 = .ok (.bipush 99, 2) := by decide +kernel
theorem r_X8_drift_2 {x0 x1 x2 x3 : Value} {st : List Value} {h : AH} : Run M_X8_drift 2 [x0, x1, x2, x3] st h = Run M_X8_drift 4 [x0, x1, x2, x3] (.int (nI 99) :: st) h := R_bipush d_X8_drift_2 (by decide)
theorem d_X8_drift_4 : decode (mB M_X8_drift) 4 = .ok (.invokestatic 65, 3) := by decide +kernel
theorem r_X8_drift_4 {x0 x1 x2 x3 : Value} {p0 : Int32} {p1 : Int32} {p2 : Int32} {h : AH} : Run M_X8_drift 4 [x0, x1, x2, x3] (.int p2 :: .int p1 :: .int p0 :: []) h = if (Call M_X8_within h [.int p0, .int p1, .int p2]).isSome = true then Run M_X8_drift 7 [x0, x1, x2, x3] (rL (Call M_X8_within h [.int p0, .int p1, .int p2]) ++ []) (cH (Call M_X8_within h [.int p0, .int p1, .int p2])) else none := R_stat d_X8_drift_4 rfl rfl rfl rfl (Nat.le_of_ble_eq_true rfl)
theorem d_X8_drift_7 : decode (mB M_X8_drift) 7 = .ok (.ifCond .ne 6, 3) := by decide +kernel
theorem r_X8_drift_7 {x0 x1 x2 x3 : Value} {x : Int32} {st : List Value} {h : AH} : Run M_X8_drift 7 [x0, x1, x2, x3] (.int x :: st) h = if x = nI 0 then Run M_X8_drift 10 [x0, x1, x2, x3] st h else Run M_X8_drift 13 [x0, x1, x2, x3] st h := R_if_ne d_X8_drift_7 (by decide)
theorem d_X8_drift_10 : decode (mB M_X8_drift) 10 = .ok (.ldc 69, 2) := by decide +kernel
theorem r_X8_drift_10 {x0 x1 x2 x3 : Value} {st : List Value} {h : AH} : Run M_X8_drift 10 [x0, x1, x2, x3] st h = Run M_X8_drift 12 [x0, x1, x2, x3] (.int (-1000000002) :: st) h := R_ldc d_X8_drift_10 (by decide)
theorem d_X8_drift_12 : decode (mB M_X8_drift) 12 = .ok (.ireturn, 1) := by decide +kernel
theorem r_X8_drift_12 {x0 x1 x2 x3 : Value} {v : Int32} {h : AH} : Run M_X8_drift 12 [x0, x1, x2, x3] [.int v] h = some (h, some (.int v)) := R_ireturn d_X8_drift_12 rfl rfl
theorem d_X8_drift_13 : decode (mB M_X8_drift) 13 = .ok (.aload_n 0, 1) := by decide +kernel
theorem r_X8_drift_13 {x1 x2 x3 : Value} {a : Nat} {st : List Value} {h : AH} : Run M_X8_drift 13 [.ref a, x1, x2, x3] st h = Run M_X8_drift 14 [.ref a, x1, x2, x3] (.ref a :: st) h := R_aload_n d_X8_drift_13 rfl
theorem d_X8_drift_14 : decode (mB M_X8_drift) 14 = .ok (.invokevirtual 181, 3) := by decide +kernel
theorem r_X8_drift_14 {x0 x1 x2 x3 : Value} {a : Nat} {h : AH} : Run M_X8_drift 14 [x0, x1, x2, x3] (.ref a :: []) h = if refO h 8 (some (.ref a)) = true then (if (Call M_X8_cheapestGo h [.ref a]).isSome = true then Run M_X8_drift 17 [x0, x1, x2, x3] (rL (Call M_X8_cheapestGo h [.ref a]) ++ []) (cH (Call M_X8_cheapestGo h [.ref a])) else none) else none := R_virt d_X8_drift_14 rfl rfl rfl rfl rfl (Nat.le_of_ble_eq_true rfl)
theorem d_X8_drift_17 : decode (mB M_X8_drift) 17 = .ok (.istore_n 2, 1) := by decide +kernel
theorem r_X8_drift_17 {x0 x1 x2 x3 : Value} {a : Int32} {st : List Value} {h : AH} (hc : x1.category = 1) : Run M_X8_drift 17 [x0, x1, x2, x3] (.int a :: st) h = Run M_X8_drift 18 [x0, x1, .int a, x3] st h := R_istore_n d_X8_drift_17 (Nat.lt_of_lt_of_le (by decide : 2 < 4) (Nat.le_refl 4)) (catP_of rfl hc)
theorem d_X8_drift_18 : decode (mB M_X8_drift) 18 = .ok (.iconst 0, 1) := by decide +kernel
theorem r_X8_drift_18 {x0 x1 x2 x3 : Value} {st : List Value} {h : AH} : Run M_X8_drift 18 [x0, x1, x2, x3] st h = Run M_X8_drift 19 [x0, x1, x2, x3] (.int (nI 0) :: st) h := R_iconst d_X8_drift_18 (by decide)
theorem d_X8_drift_19 : decode (mB M_X8_drift) 19 = .ok (.istore_n 3, 1) := by decide +kernel
theorem r_X8_drift_19 {x0 x1 x2 x3 : Value} {a : Int32} {st : List Value} {h : AH} (hc : x2.category = 1) : Run M_X8_drift 19 [x0, x1, x2, x3] (.int a :: st) h = Run M_X8_drift 20 [x0, x1, x2, .int a] st h := R_istore_n d_X8_drift_19 (Nat.lt_of_lt_of_le (by decide : 3 < 4) (Nat.le_refl 4)) (catP_of rfl hc)
theorem d_X8_drift_20 : decode (mB M_X8_drift) 20 = .ok (.iload_n 3, 1) := by decide +kernel
theorem r_X8_drift_20 {x0 x1 x2 : Value} {a : Int32} {st : List Value} {h : AH} : Run M_X8_drift 20 [x0, x1, x2, .int a] st h = Run M_X8_drift 21 [x0, x1, x2, .int a] (.int a :: st) h := R_iload_n d_X8_drift_20 rfl
theorem d_X8_drift_21 : decode (mB M_X8_drift) 21 = .ok (.iload_n 1, 1) := by decide +kernel
theorem r_X8_drift_21 {x0 x2 x3 : Value} {a : Int32} {st : List Value} {h : AH} : Run M_X8_drift 21 [x0, .int a, x2, x3] st h = Run M_X8_drift 22 [x0, .int a, x2, x3] (.int a :: st) h := R_iload_n d_X8_drift_21 rfl
theorem d_X8_drift_22 : decode (mB M_X8_drift) 22 = .ok (.if_icmp .ge 14, 3) := by decide +kernel
theorem r_X8_drift_22 {x0 x1 x2 x3 : Value} {x y : Int32} {st : List Value} {h : AH} : Run M_X8_drift 22 [x0, x1, x2, x3] (.int y :: .int x :: st) h = if y ≤ x then Run M_X8_drift 36 [x0, x1, x2, x3] st h else Run M_X8_drift 25 [x0, x1, x2, x3] st h := R_icmp_ge d_X8_drift_22 (by decide)
theorem d_X8_drift_25 : decode (mB M_X8_drift) 25 = .ok (.aload_n 0, 1) := by decide +kernel
theorem r_X8_drift_25 {x1 x2 x3 : Value} {a : Nat} {st : List Value} {h : AH} : Run M_X8_drift 25 [.ref a, x1, x2, x3] st h = Run M_X8_drift 26 [.ref a, x1, x2, x3] (.ref a :: st) h := R_aload_n d_X8_drift_25 rfl
theorem d_X8_drift_26 : decode (mB M_X8_drift) 26 = .ok (.iload_n 2, 1) := by decide +kernel
theorem r_X8_drift_26 {x0 x1 x3 : Value} {a : Int32} {st : List Value} {h : AH} : Run M_X8_drift 26 [x0, x1, .int a, x3] st h = Run M_X8_drift 27 [x0, x1, .int a, x3] (.int a :: st) h := R_iload_n d_X8_drift_26 rfl
theorem d_X8_drift_27 : decode (mB M_X8_drift) 27 = .ok (.invokevirtual 184, 3) := by decide +kernel
theorem r_X8_drift_27 {x0 x1 x2 x3 : Value} {p0 : Int32} {a : Nat} {h : AH} : Run M_X8_drift 27 [x0, x1, x2, x3] (.int p0 :: .ref a :: []) h = if refO h 8 (some (.ref a)) = true then (if (Call M_X8_playNight h [.ref a, .int p0]).isSome = true then Run M_X8_drift 30 [x0, x1, x2, x3] (rL (Call M_X8_playNight h [.ref a, .int p0]) ++ []) (cH (Call M_X8_playNight h [.ref a, .int p0])) else none) else none := R_virt d_X8_drift_27 rfl rfl rfl rfl rfl (Nat.le_of_ble_eq_true rfl)
theorem d_X8_drift_30 : decode (mB M_X8_drift) 30 = .ok (.iinc 3 1, 3) := by decide +kernel
theorem r_X8_drift_30 {x0 x1 x2 : Value} {a : Int32} {st : List Value} {h : AH} (hc : x2.category = 1) : Run M_X8_drift 30 [x0, x1, x2, .int a] st h = Run M_X8_drift 33 [x0, x1, x2, .int (a + (nI 1))] st h := R_iinc d_X8_drift_30 (by decide) rfl (catP_of rfl hc)
theorem d_X8_drift_33 : decode (mB M_X8_drift) 33 = .ok (.goto (-13), 3) := by decide +kernel
theorem r_X8_drift_33 {x0 x1 x2 x3 : Value} {st : List Value} {h : AH} : Run M_X8_drift 33 [x0, x1, x2, x3] st h = Run M_X8_drift 20 [x0, x1, x2, x3] st h := R_goto d_X8_drift_33 (by decide)
theorem d_X8_drift_36 : decode (mB M_X8_drift) 36 = .ok (.aload_n 0, 1) := by decide +kernel
theorem r_X8_drift_36 {x1 x2 x3 : Value} {a : Nat} {st : List Value} {h : AH} : Run M_X8_drift 36 [.ref a, x1, x2, x3] st h = Run M_X8_drift 37 [.ref a, x1, x2, x3] (.ref a :: st) h := R_aload_n d_X8_drift_36 rfl
theorem d_X8_drift_37 : decode (mB M_X8_drift) 37 = .ok (.getfield 57, 3) := by decide +kernel
theorem r_X8_drift_37 {x0 x1 x2 x3 : Value} {a : Nat} {st : List Value} {h : AH} : Run M_X8_drift 37 [x0, x1, x2, x3] (.ref a :: st) h = if (gF h a 8 7).isSome = true then Run M_X8_drift 40 [x0, x1, x2, x3] ((gF h a 8 7).getD .null :: st) h else none := R_getfield d_X8_drift_37 rfl
theorem d_X8_drift_40 : decode (mB M_X8_drift) 40 = .ok (.getfield 92, 3) := by decide +kernel
theorem r_X8_drift_40 {x0 x1 x2 x3 : Value} {a : Nat} {st : List Value} {h : AH} : Run M_X8_drift 40 [x0, x1, x2, x3] (.ref a :: st) h = if (gF h a 4 6).isSome = true then Run M_X8_drift 43 [x0, x1, x2, x3] ((gF h a 4 6).getD .null :: st) h else none := R_getfield d_X8_drift_40 rfl
theorem d_X8_drift_43 : decode (mB M_X8_drift) 43 = .ok (.getfield 120, 3) := by decide +kernel
theorem r_X8_drift_43 {x0 x1 x2 x3 : Value} {a : Nat} {st : List Value} {h : AH} : Run M_X8_drift 43 [x0, x1, x2, x3] (.ref a :: st) h = if (gF h a 0 8).isSome = true then Run M_X8_drift 46 [x0, x1, x2, x3] ((gF h a 0 8).getD .null :: st) h else none := R_getfield d_X8_drift_43 rfl
theorem d_X8_drift_46 : decode (mB M_X8_drift) 46 = .ok (.ireturn, 1) := by decide +kernel
theorem r_X8_drift_46 {x0 x1 x2 x3 : Value} {v : Int32} {h : AH} : Run M_X8_drift 46 [x0, x1, x2, x3] [.int v] h = some (h, some (.int v)) := R_ireturn d_X8_drift_46 rfl rfl
theorem d_X8_ends_0 : decode (mB M_X8_ends) 0 = .ok (.iload_n 1, 1) := by decide +kernel
theorem r_X8_ends_0 {x0 x2 : Value} {a : Int32} {st : List Value} {h : AH} : Run M_X8_ends 0 [x0, .int a, x2] st h = Run M_X8_ends 1 [x0, .int a, x2] (.int a :: st) h := R_iload_n d_X8_ends_0 rfl
theorem d_X8_ends_1 : decode (mB M_X8_ends) 1 = .ok (.invokestatic 188, 3) := by decide +kernel
theorem r_X8_ends_1 {x0 x1 x2 : Value} {p0 : Int32} {h : AH} : Run M_X8_ends 1 [x0, x1, x2] (.int p0 :: []) h = if (Call M_X8_isTenth h [.int p0]).isSome = true then Run M_X8_ends 4 [x0, x1, x2] (rL (Call M_X8_isTenth h [.int p0]) ++ []) (cH (Call M_X8_isTenth h [.int p0])) else none := R_stat d_X8_ends_1 rfl rfl rfl rfl (Nat.le_of_ble_eq_true rfl)
theorem d_X8_ends_4 : decode (mB M_X8_ends) 4 = .ok (.ifCond .eq 10, 3) := by decide +kernel
theorem r_X8_ends_4 {x0 x1 x2 : Value} {x : Int32} {st : List Value} {h : AH} : Run M_X8_ends 4 [x0, x1, x2] (.int x :: st) h = if x = nI 0 then Run M_X8_ends 14 [x0, x1, x2] st h else Run M_X8_ends 7 [x0, x1, x2] st h := R_if_eq d_X8_ends_4 (by decide)
theorem d_X8_ends_7 : decode (mB M_X8_ends) 7 = .ok (.iload_n 2, 1) := by decide +kernel
theorem r_X8_ends_7 {x0 x1 : Value} {a : Int32} {st : List Value} {h : AH} : Run M_X8_ends 7 [x0, x1, .int a] st h = Run M_X8_ends 8 [x0, x1, .int a] (.int a :: st) h := R_iload_n d_X8_ends_7 rfl
theorem d_X8_ends_8 : decode (mB M_X8_ends) 8 = .ok (.invokestatic 191, 3) := by decide +kernel
theorem r_X8_ends_8 {x0 x1 x2 : Value} {p0 : Int32} {h : AH} : Run M_X8_ends 8 [x0, x1, x2] (.int p0 :: []) h = if (Call M_X8_isSide h [.int p0]).isSome = true then Run M_X8_ends 11 [x0, x1, x2] (rL (Call M_X8_isSide h [.int p0]) ++ []) (cH (Call M_X8_isSide h [.int p0])) else none := R_stat d_X8_ends_8 rfl rfl rfl rfl (Nat.le_of_ble_eq_true rfl)
theorem d_X8_ends_11 : decode (mB M_X8_ends) 11 = .ok (.ifCond .ne 7, 3) := by decide +kernel
theorem r_X8_ends_11 {x0 x1 x2 : Value} {x : Int32} {st : List Value} {h : AH} : Run M_X8_ends 11 [x0, x1, x2] (.int x :: st) h = if x = nI 0 then Run M_X8_ends 14 [x0, x1, x2] st h else Run M_X8_ends 18 [x0, x1, x2] st h := R_if_ne d_X8_ends_11 (by decide)
theorem d_X8_ends_14 : decode (mB M_X8_ends) 14 = .ok (.ldc2_w 194, 3) := by decide +kernel
theorem r_X8_ends_14 {x0 x1 x2 : Value} {st : List Value} {h : AH} : Run M_X8_ends 14 [x0, x1, x2] st h = Run M_X8_ends 17 [x0, x1, x2] (.long (-1000000002) :: st) h := R_ldc2_w d_X8_ends_14 (by decide)
theorem d_X8_ends_17 : decode (mB M_X8_ends) 17 = .ok (.lreturn, 1) := by decide +kernel
theorem r_X8_ends_17 {x0 x1 x2 : Value} {v : Int64} {h : AH} : Run M_X8_ends 17 [x0, x1, x2] [.long v] h = some (h, some (.long v)) := R_lreturn d_X8_ends_17 rfl
theorem d_X8_ends_18 : decode (mB M_X8_ends) 18 = .ok (.aload_n 0, 1) := by decide +kernel
theorem r_X8_ends_18 {x1 x2 : Value} {a : Nat} {st : List Value} {h : AH} : Run M_X8_ends 18 [.ref a, x1, x2] st h = Run M_X8_ends 19 [.ref a, x1, x2] (.ref a :: st) h := R_aload_n d_X8_ends_18 rfl
theorem d_X8_ends_19 : decode (mB M_X8_ends) 19 = .ok (.getfield 19, 3) := by decide +kernel
theorem r_X8_ends_19 {x0 x1 x2 : Value} {a : Nat} {st : List Value} {h : AH} : Run M_X8_ends 19 [x0, x1, x2] (.ref a :: st) h = if (gF h a 8 1).isSome = true then Run M_X8_ends 22 [x0, x1, x2] ((gF h a 8 1).getD .null :: st) h else none := R_getfield d_X8_ends_19 rfl
theorem d_X8_ends_22 : decode (mB M_X8_ends) 22 = .ok (.iload_n 1, 1) := by decide +kernel
theorem r_X8_ends_22 {x0 x2 : Value} {a : Int32} {st : List Value} {h : AH} : Run M_X8_ends 22 [x0, .int a, x2] st h = Run M_X8_ends 23 [x0, .int a, x2] (.int a :: st) h := R_iload_n d_X8_ends_22 rfl
theorem d_X8_ends_23 : decode (mB M_X8_ends) 23 = .ok (.invokevirtual 196, 3) := by decide +kernel
theorem r_X8_ends_23 {x0 x1 x2 : Value} {p0 : Int32} {a : Nat} {h : AH} : Run M_X8_ends 23 [x0, x1, x2] (.int p0 :: .ref a :: []) h = if refO h 2 (some (.ref a)) = true then (if (Call M_X2_endingAt h [.ref a, .int p0]).isSome = true then Run M_X8_ends 26 [x0, x1, x2] (rL (Call M_X2_endingAt h [.ref a, .int p0]) ++ []) (cH (Call M_X2_endingAt h [.ref a, .int p0])) else none) else none := R_virt d_X8_ends_23 rfl rfl rfl rfl rfl (Nat.le_of_ble_eq_true rfl)
theorem d_X8_ends_26 : decode (mB M_X8_ends) 26 = .ok (.aload_n 0, 1) := by decide +kernel
theorem r_X8_ends_26 {x1 x2 : Value} {a : Nat} {st : List Value} {h : AH} : Run M_X8_ends 26 [.ref a, x1, x2] st h = Run M_X8_ends 27 [.ref a, x1, x2] (.ref a :: st) h := R_aload_n d_X8_ends_26 rfl
theorem d_X8_ends_27 : decode (mB M_X8_ends) 27 = .ok (.getfield 19, 3) := by decide +kernel
theorem r_X8_ends_27 {x0 x1 x2 : Value} {a : Nat} {st : List Value} {h : AH} : Run M_X8_ends 27 [x0, x1, x2] (.ref a :: st) h = if (gF h a 8 1).isSome = true then Run M_X8_ends 30 [x0, x1, x2] ((gF h a 8 1).getD .null :: st) h else none := R_getfield d_X8_ends_27 rfl
theorem d_X8_ends_30 : decode (mB M_X8_ends) 30 = .ok (.invokevirtual 200, 3) := by decide +kernel
theorem r_X8_ends_30 {x0 x1 x2 : Value} {a : Nat} {w0 : Value} {h : AH} : Run M_X8_ends 30 [x0, x1, x2] (.ref a :: [w0]) h = if refO h 2 (some (.ref a)) = true then (if (Call M_X2_all h [.ref a]).isSome = true then Run M_X8_ends 33 [x0, x1, x2] (rL (Call M_X2_all h [.ref a]) ++ [w0]) (cH (Call M_X2_all h [.ref a])) else none) else none := R_virt d_X8_ends_30 rfl rfl rfl rfl rfl (Nat.le_of_ble_eq_true rfl)
theorem d_X8_ends_33 : decode (mB M_X8_ends) 33 = .ok (.iload_n 2, 1) := by decide +kernel
theorem r_X8_ends_33 {x0 x1 : Value} {a : Int32} {st : List Value} {h : AH} : Run M_X8_ends 33 [x0, x1, .int a] st h = Run M_X8_ends 34 [x0, x1, .int a] (.int a :: st) h := R_iload_n d_X8_ends_33 rfl
theorem d_X8_ends_34 : decode (mB M_X8_ends) 34 = .ok (.invokestatic 204, 3) := by decide +kernel
theorem r_X8_ends_34 {x0 x1 x2 : Value} {p0 : Int64} {p1 : Int64} {p2 : Int32} {h : AH} : Run M_X8_ends 34 [x0, x1, x2] (.int p2 :: .long p1 :: .long p0 :: []) h = if (Call M_X8_inLowest h [.long p0, .long p1, .int p2]).isSome = true then Run M_X8_ends 37 [x0, x1, x2] (rL (Call M_X8_inLowest h [.long p0, .long p1, .int p2]) ++ []) (cH (Call M_X8_inLowest h [.long p0, .long p1, .int p2])) else none := R_stat d_X8_ends_34 rfl rfl rfl rfl (Nat.le_of_ble_eq_true rfl)
theorem d_X8_ends_37 : decode (mB M_X8_ends) 37 = .ok (.lreturn, 1) := by decide +kernel
theorem r_X8_ends_37 {x0 x1 x2 : Value} {v : Int64} {h : AH} : Run M_X8_ends 37 [x0, x1, x2] [.long v] h = some (h, some (.long v)) := R_lreturn d_X8_ends_37 rfl
theorem d_X8_by_0 : decode (mB M_X8_by) 0 = .ok (.iload_n 1, 1) := by decide +kernel
theorem r_X8_by_0 {x0 x2 : Value} {a : Int32} {st : List Value} {h : AH} : Run M_X8_by 0 [x0, .int a, x2] st h = Run M_X8_by 1 [x0, .int a, x2] (.int a :: st) h := R_iload_n d_X8_by_0 rfl
theorem d_X8_by_1 : decode (mB M_X8_by) 1 = .ok (.invokestatic 188, 3) := by decide +kernel
theorem r_X8_by_1 {x0 x1 x2 : Value} {p0 : Int32} {h : AH} : Run M_X8_by 1 [x0, x1, x2] (.int p0 :: []) h = if (Call M_X8_isTenth h [.int p0]).isSome = true then Run M_X8_by 4 [x0, x1, x2] (rL (Call M_X8_isTenth h [.int p0]) ++ []) (cH (Call M_X8_isTenth h [.int p0])) else none := R_stat d_X8_by_1 rfl rfl rfl rfl (Nat.le_of_ble_eq_true rfl)
theorem d_X8_by_4 : decode (mB M_X8_by) 4 = .ok (.ifCond .eq 10, 3) := by decide +kernel
theorem r_X8_by_4 {x0 x1 x2 : Value} {x : Int32} {st : List Value} {h : AH} : Run M_X8_by 4 [x0, x1, x2] (.int x :: st) h = if x = nI 0 then Run M_X8_by 14 [x0, x1, x2] st h else Run M_X8_by 7 [x0, x1, x2] st h := R_if_eq d_X8_by_4 (by decide)
theorem d_X8_by_7 : decode (mB M_X8_by) 7 = .ok (.iload_n 2, 1) := by decide +kernel
theorem r_X8_by_7 {x0 x1 : Value} {a : Int32} {st : List Value} {h : AH} : Run M_X8_by 7 [x0, x1, .int a] st h = Run M_X8_by 8 [x0, x1, .int a] (.int a :: st) h := R_iload_n d_X8_by_7 rfl
theorem d_X8_by_8 : decode (mB M_X8_by) 8 = .ok (.invokestatic 191, 3) := by decide +kernel
theorem r_X8_by_8 {x0 x1 x2 : Value} {p0 : Int32} {h : AH} : Run M_X8_by 8 [x0, x1, x2] (.int p0 :: []) h = if (Call M_X8_isSide h [.int p0]).isSome = true then Run M_X8_by 11 [x0, x1, x2] (rL (Call M_X8_isSide h [.int p0]) ++ []) (cH (Call M_X8_isSide h [.int p0])) else none := R_stat d_X8_by_8 rfl rfl rfl rfl (Nat.le_of_ble_eq_true rfl)
theorem d_X8_by_11 : decode (mB M_X8_by) 11 = .ok (.ifCond .ne 7, 3) := by decide +kernel
theorem r_X8_by_11 {x0 x1 x2 : Value} {x : Int32} {st : List Value} {h : AH} : Run M_X8_by 11 [x0, x1, x2] (.int x :: st) h = if x = nI 0 then Run M_X8_by 14 [x0, x1, x2] st h else Run M_X8_by 18 [x0, x1, x2] st h := R_if_ne d_X8_by_11 (by decide)
theorem d_X8_by_14 : decode (mB M_X8_by) 14 = .ok (.ldc2_w 194, 3) := by decide +kernel
theorem r_X8_by_14 {x0 x1 x2 : Value} {st : List Value} {h : AH} : Run M_X8_by 14 [x0, x1, x2] st h = Run M_X8_by 17 [x0, x1, x2] (.long (-1000000002) :: st) h := R_ldc2_w d_X8_by_14 (by decide)
theorem d_X8_by_17 : decode (mB M_X8_by) 17 = .ok (.lreturn, 1) := by decide +kernel
theorem r_X8_by_17 {x0 x1 x2 : Value} {v : Int64} {h : AH} : Run M_X8_by 17 [x0, x1, x2] [.long v] h = some (h, some (.long v)) := R_lreturn d_X8_by_17 rfl
theorem d_X8_by_18 : decode (mB M_X8_by) 18 = .ok (.aload_n 0, 1) := by decide +kernel
theorem r_X8_by_18 {x1 x2 : Value} {a : Nat} {st : List Value} {h : AH} : Run M_X8_by 18 [.ref a, x1, x2] st h = Run M_X8_by 19 [.ref a, x1, x2] (.ref a :: st) h := R_aload_n d_X8_by_18 rfl
theorem d_X8_by_19 : decode (mB M_X8_by) 19 = .ok (.getfield 19, 3) := by decide +kernel
theorem r_X8_by_19 {x0 x1 x2 : Value} {a : Nat} {st : List Value} {h : AH} : Run M_X8_by 19 [x0, x1, x2] (.ref a :: st) h = if (gF h a 8 1).isSome = true then Run M_X8_by 22 [x0, x1, x2] ((gF h a 8 1).getD .null :: st) h else none := R_getfield d_X8_by_19 rfl
theorem d_X8_by_22 : decode (mB M_X8_by) 22 = .ok (.iload_n 1, 1) := by decide +kernel
theorem r_X8_by_22 {x0 x2 : Value} {a : Int32} {st : List Value} {h : AH} : Run M_X8_by 22 [x0, .int a, x2] st h = Run M_X8_by 23 [x0, .int a, x2] (.int a :: st) h := R_iload_n d_X8_by_22 rfl
theorem d_X8_by_23 : decode (mB M_X8_by) 23 = .ok (.invokevirtual 208, 3) := by decide +kernel
theorem r_X8_by_23 {x0 x1 x2 : Value} {p0 : Int32} {a : Nat} {h : AH} : Run M_X8_by 23 [x0, x1, x2] (.int p0 :: .ref a :: []) h = if refO h 2 (some (.ref a)) = true then (if (Call M_X2_endedBy h [.ref a, .int p0]).isSome = true then Run M_X8_by 26 [x0, x1, x2] (rL (Call M_X2_endedBy h [.ref a, .int p0]) ++ []) (cH (Call M_X2_endedBy h [.ref a, .int p0])) else none) else none := R_virt d_X8_by_23 rfl rfl rfl rfl rfl (Nat.le_of_ble_eq_true rfl)
theorem d_X8_by_26 : decode (mB M_X8_by) 26 = .ok (.aload_n 0, 1) := by decide +kernel
theorem r_X8_by_26 {x1 x2 : Value} {a : Nat} {st : List Value} {h : AH} : Run M_X8_by 26 [.ref a, x1, x2] st h = Run M_X8_by 27 [.ref a, x1, x2] (.ref a :: st) h := R_aload_n d_X8_by_26 rfl
theorem d_X8_by_27 : decode (mB M_X8_by) 27 = .ok (.getfield 19, 3) := by decide +kernel
theorem r_X8_by_27 {x0 x1 x2 : Value} {a : Nat} {st : List Value} {h : AH} : Run M_X8_by 27 [x0, x1, x2] (.ref a :: st) h = if (gF h a 8 1).isSome = true then Run M_X8_by 30 [x0, x1, x2] ((gF h a 8 1).getD .null :: st) h else none := R_getfield d_X8_by_27 rfl
theorem d_X8_by_30 : decode (mB M_X8_by) 30 = .ok (.invokevirtual 200, 3) := by decide +kernel
theorem r_X8_by_30 {x0 x1 x2 : Value} {a : Nat} {w0 : Value} {h : AH} : Run M_X8_by 30 [x0, x1, x2] (.ref a :: [w0]) h = if refO h 2 (some (.ref a)) = true then (if (Call M_X2_all h [.ref a]).isSome = true then Run M_X8_by 33 [x0, x1, x2] (rL (Call M_X2_all h [.ref a]) ++ [w0]) (cH (Call M_X2_all h [.ref a])) else none) else none := R_virt d_X8_by_30 rfl rfl rfl rfl rfl (Nat.le_of_ble_eq_true rfl)
theorem d_X8_by_33 : decode (mB M_X8_by) 33 = .ok (.iload_n 2, 1) := by decide +kernel
theorem r_X8_by_33 {x0 x1 : Value} {a : Int32} {st : List Value} {h : AH} : Run M_X8_by 33 [x0, x1, .int a] st h = Run M_X8_by 34 [x0, x1, .int a] (.int a :: st) h := R_iload_n d_X8_by_33 rfl
theorem d_X8_by_34 : decode (mB M_X8_by) 34 = .ok (.invokestatic 204, 3) := by decide +kernel
theorem r_X8_by_34 {x0 x1 x2 : Value} {p0 : Int64} {p1 : Int64} {p2 : Int32} {h : AH} : Run M_X8_by 34 [x0, x1, x2] (.int p2 :: .long p1 :: .long p0 :: []) h = if (Call M_X8_inLowest h [.long p0, .long p1, .int p2]).isSome = true then Run M_X8_by 37 [x0, x1, x2] (rL (Call M_X8_inLowest h [.long p0, .long p1, .int p2]) ++ []) (cH (Call M_X8_inLowest h [.long p0, .long p1, .int p2])) else none := R_stat d_X8_by_34 rfl rfl rfl rfl (Nat.le_of_ble_eq_true rfl)
theorem d_X8_by_37 : decode (mB M_X8_by) 37 = .ok (.lreturn, 1) := by decide +kernel
theorem r_X8_by_37 {x0 x1 x2 : Value} {v : Int64} {h : AH} : Run M_X8_by 37 [x0, x1, x2] [.long v] h = some (h, some (.long v)) := R_lreturn d_X8_by_37 rfl
theorem d_X8_mean_0 : decode (mB M_X8_mean) 0 = .ok (.iload_n 1, 1) := by decide +kernel
theorem r_X8_mean_0 {x0 : Value} {a : Int32} {st : List Value} {h : AH} : Run M_X8_mean 0 [x0, .int a] st h = Run M_X8_mean 1 [x0, .int a] (.int a :: st) h := R_iload_n d_X8_mean_0 rfl
theorem d_X8_mean_1 : decode (mB M_X8_mean) 1 = .ok (.invokestatic 191, 3) := by decide +kernel
theorem r_X8_mean_1 {x0 x1 : Value} {p0 : Int32} {h : AH} : Run M_X8_mean 1 [x0, x1] (.int p0 :: []) h = if (Call M_X8_isSide h [.int p0]).isSome = true then Run M_X8_mean 4 [x0, x1] (rL (Call M_X8_isSide h [.int p0]) ++ []) (cH (Call M_X8_isSide h [.int p0])) else none := R_stat d_X8_mean_1 rfl rfl rfl rfl (Nat.le_of_ble_eq_true rfl)
theorem d_X8_mean_4 : decode (mB M_X8_mean) 4 = .ok (.ifCond .ne 7, 3) := by decide +kernel
theorem r_X8_mean_4 {x0 x1 : Value} {x : Int32} {st : List Value} {h : AH} : Run M_X8_mean 4 [x0, x1] (.int x :: st) h = if x = nI 0 then Run M_X8_mean 7 [x0, x1] st h else Run M_X8_mean 11 [x0, x1] st h := R_if_ne d_X8_mean_4 (by decide)
theorem d_X8_mean_7 : decode (mB M_X8_mean) 7 = .ok (.ldc2_w 194, 3) := by decide +kernel
theorem r_X8_mean_7 {x0 x1 : Value} {st : List Value} {h : AH} : Run M_X8_mean 7 [x0, x1] st h = Run M_X8_mean 10 [x0, x1] (.long (-1000000002) :: st) h := R_ldc2_w d_X8_mean_7 (by decide)
theorem d_X8_mean_10 : decode (mB M_X8_mean) 10 = .ok (.lreturn, 1) := by decide +kernel
theorem r_X8_mean_10 {x0 x1 : Value} {v : Int64} {h : AH} : Run M_X8_mean 10 [x0, x1] [.long v] h = some (h, some (.long v)) := R_lreturn d_X8_mean_10 rfl
theorem d_X8_mean_11 : decode (mB M_X8_mean) 11 = .ok (.aload_n 0, 1) := by decide +kernel
theorem r_X8_mean_11 {x1 : Value} {a : Nat} {st : List Value} {h : AH} : Run M_X8_mean 11 [.ref a, x1] st h = Run M_X8_mean 12 [.ref a, x1] (.ref a :: st) h := R_aload_n d_X8_mean_11 rfl
theorem d_X8_mean_12 : decode (mB M_X8_mean) 12 = .ok (.getfield 19, 3) := by decide +kernel
theorem r_X8_mean_12 {x0 x1 : Value} {a : Nat} {st : List Value} {h : AH} : Run M_X8_mean 12 [x0, x1] (.ref a :: st) h = if (gF h a 8 1).isSome = true then Run M_X8_mean 15 [x0, x1] ((gF h a 8 1).getD .null :: st) h else none := R_getfield d_X8_mean_12 rfl
theorem d_X8_mean_15 : decode (mB M_X8_mean) 15 = .ok (.sipush 420, 3) := by decide +kernel
theorem r_X8_mean_15 {x0 x1 : Value} {st : List Value} {h : AH} : Run M_X8_mean 15 [x0, x1] st h = Run M_X8_mean 18 [x0, x1] (.int (nI 420) :: st) h := R_sipush d_X8_mean_15 (by decide)
theorem d_X8_mean_18 : decode (mB M_X8_mean) 18 = .ok (.invokevirtual 211, 3) := by decide +kernel
theorem r_X8_mean_18 {x0 x1 : Value} {p0 : Int32} {a : Nat} {h : AH} : Run M_X8_mean 18 [x0, x1] (.int p0 :: .ref a :: []) h = if refO h 2 (some (.ref a)) = true then (if (Call M_X2_tenthsBy h [.ref a, .int p0]).isSome = true then Run M_X8_mean 21 [x0, x1] (rL (Call M_X2_tenthsBy h [.ref a, .int p0]) ++ []) (cH (Call M_X2_tenthsBy h [.ref a, .int p0])) else none) else none := R_virt d_X8_mean_18 rfl rfl rfl rfl rfl (Nat.le_of_ble_eq_true rfl)
theorem d_X8_mean_21 : decode (mB M_X8_mean) 21 = .ok (.aload_n 0, 1) := by decide +kernel
theorem r_X8_mean_21 {x1 : Value} {a : Nat} {st : List Value} {h : AH} : Run M_X8_mean 21 [.ref a, x1] st h = Run M_X8_mean 22 [.ref a, x1] (.ref a :: st) h := R_aload_n d_X8_mean_21 rfl
theorem d_X8_mean_22 : decode (mB M_X8_mean) 22 = .ok (.getfield 19, 3) := by decide +kernel
theorem r_X8_mean_22 {x0 x1 : Value} {a : Nat} {st : List Value} {h : AH} : Run M_X8_mean 22 [x0, x1] (.ref a :: st) h = if (gF h a 8 1).isSome = true then Run M_X8_mean 25 [x0, x1] ((gF h a 8 1).getD .null :: st) h else none := R_getfield d_X8_mean_22 rfl
theorem d_X8_mean_25 : decode (mB M_X8_mean) 25 = .ok (.invokevirtual 200, 3) := by decide +kernel
theorem r_X8_mean_25 {x0 x1 : Value} {a : Nat} {w0 : Value} {h : AH} : Run M_X8_mean 25 [x0, x1] (.ref a :: [w0]) h = if refO h 2 (some (.ref a)) = true then (if (Call M_X2_all h [.ref a]).isSome = true then Run M_X8_mean 28 [x0, x1] (rL (Call M_X2_all h [.ref a]) ++ [w0]) (cH (Call M_X2_all h [.ref a])) else none) else none := R_virt d_X8_mean_25 rfl rfl rfl rfl rfl (Nat.le_of_ble_eq_true rfl)
theorem d_X8_mean_28 : decode (mB M_X8_mean) 28 = .ok (.iload_n 1, 1) := by decide +kernel
theorem r_X8_mean_28 {x0 : Value} {a : Int32} {st : List Value} {h : AH} : Run M_X8_mean 28 [x0, .int a] st h = Run M_X8_mean 29 [x0, .int a] (.int a :: st) h := R_iload_n d_X8_mean_28 rfl
theorem d_X8_mean_29 : decode (mB M_X8_mean) 29 = .ok (.invokestatic 204, 3) := by decide +kernel
theorem r_X8_mean_29 {x0 x1 : Value} {p0 : Int64} {p1 : Int64} {p2 : Int32} {h : AH} : Run M_X8_mean 29 [x0, x1] (.int p2 :: .long p1 :: .long p0 :: []) h = if (Call M_X8_inLowest h [.long p0, .long p1, .int p2]).isSome = true then Run M_X8_mean 32 [x0, x1] (rL (Call M_X8_inLowest h [.long p0, .long p1, .int p2]) ++ []) (cH (Call M_X8_inLowest h [.long p0, .long p1, .int p2])) else none := R_stat d_X8_mean_29 rfl rfl rfl rfl (Nat.le_of_ble_eq_true rfl)
theorem d_X8_mean_32 : decode (mB M_X8_mean) 32 = .ok (.lreturn, 1) := by decide +kernel
theorem r_X8_mean_32 {x0 x1 : Value} {v : Int64} {h : AH} : Run M_X8_mean 32 [x0, x1] [.long v] h = some (h, some (.long v)) := R_lreturn d_X8_mean_32 rfl
theorem d_X8_edge_0 : decode (mB M_X8_edge) 0 = .ok (.iload_n 1, 1) := by decide +kernel
theorem r_X8_edge_0 {x0 : Value} {a : Int32} {st : List Value} {h : AH} : Run M_X8_edge 0 [x0, .int a] st h = Run M_X8_edge 1 [x0, .int a] (.int a :: st) h := R_iload_n d_X8_edge_0 rfl
theorem d_X8_edge_1 : decode (mB M_X8_edge) 1 = .ok (.lookupswitch 51 #[(0, 27), (1, 36)], 27) := by decide +kernel
theorem r_X8_edge_1 {x0 x1 : Value} {x : Int32} {st : List Value} {h : AH} : Run M_X8_edge 1 [x0, x1] (.int x :: st) h = if x = (nI 0) then Run M_X8_edge 28 [x0, x1] st h else if x = (nI 1) then Run M_X8_edge 37 [x0, x1] st h else Run M_X8_edge 52 [x0, x1] st h := by
  by_cases h0 : x = (nI 0)
  · subst h0; rw [if_pos rfl]; exact R_lookup (off := 27) d_X8_edge_1 (by decide) (by decide) (by decide) (by decide)
  rw [if_neg h0]
  by_cases h1 : x = (nI 1)
  · subst h1; rw [if_pos rfl]; exact R_lookup (off := 36) d_X8_edge_1 (by decide) (by decide) (by decide) (by decide)
  rw [if_neg h1]
  refine R_lookup (off := 51) d_X8_edge_1 (by decide) (by decide) ?_ (by decide)
  show Op.lookupswitch.offset [(0, 27), (1, 36)] 51 x.toInt = 51
  rw [lv_osw h0 (by decide), lv_osw h1 (by decide)]
  rfl
theorem d_X8_edge_28 : decode (mB M_X8_edge) 28 = .ok (.aload_n 0, 1) := by decide +kernel
theorem r_X8_edge_28 {x1 : Value} {a : Nat} {st : List Value} {h : AH} : Run M_X8_edge 28 [.ref a, x1] st h = Run M_X8_edge 29 [.ref a, x1] (.ref a :: st) h := R_aload_n d_X8_edge_28 rfl
theorem d_X8_edge_29 : decode (mB M_X8_edge) 29 = .ok (.getfield 19, 3) := by decide +kernel
theorem r_X8_edge_29 {x0 x1 : Value} {a : Nat} {st : List Value} {h : AH} : Run M_X8_edge 29 [x0, x1] (.ref a :: st) h = if (gF h a 8 1).isSome = true then Run M_X8_edge 32 [x0, x1] ((gF h a 8 1).getD .null :: st) h else none := R_getfield d_X8_edge_29 rfl
theorem d_X8_edge_32 : decode (mB M_X8_edge) 32 = .ok (.lconst 1, 1) := by decide +kernel
theorem r_X8_edge_32 {x0 x1 : Value} {st : List Value} {h : AH} : Run M_X8_edge 32 [x0, x1] st h = Run M_X8_edge 33 [x0, x1] (.long (lN 1) :: st) h := R_lconst d_X8_edge_32 (by decide)
theorem d_X8_edge_33 : decode (mB M_X8_edge) 33 = .ok (.invokevirtual 214, 3) := by decide +kernel
theorem r_X8_edge_33 {x0 x1 : Value} {p0 : Int64} {a : Nat} {h : AH} : Run M_X8_edge 33 [x0, x1] (.long p0 :: .ref a :: []) h = if refO h 2 (some (.ref a)) = true then (if (Call M_X2_firstTenthWith h [.ref a, .long p0]).isSome = true then Run M_X8_edge 36 [x0, x1] (rL (Call M_X2_firstTenthWith h [.ref a, .long p0]) ++ []) (cH (Call M_X2_firstTenthWith h [.ref a, .long p0])) else none) else none := R_virt d_X8_edge_33 rfl rfl rfl rfl rfl (Nat.le_of_ble_eq_true rfl)
theorem d_X8_edge_36 : decode (mB M_X8_edge) 36 = .ok (.ireturn, 1) := by decide +kernel
theorem r_X8_edge_36 {x0 x1 : Value} {v : Int32} {h : AH} : Run M_X8_edge 36 [x0, x1] [.int v] h = some (h, some (.int v)) := R_ireturn d_X8_edge_36 rfl rfl
theorem d_X8_edge_37 : decode (mB M_X8_edge) 37 = .ok (.aload_n 0, 1) := by decide +kernel
theorem r_X8_edge_37 {x1 : Value} {a : Nat} {st : List Value} {h : AH} : Run M_X8_edge 37 [.ref a, x1] st h = Run M_X8_edge 38 [.ref a, x1] (.ref a :: st) h := R_aload_n d_X8_edge_37 rfl
theorem d_X8_edge_38 : decode (mB M_X8_edge) 38 = .ok (.getfield 19, 3) := by decide +kernel
theorem r_X8_edge_38 {x0 x1 : Value} {a : Nat} {st : List Value} {h : AH} : Run M_X8_edge 38 [x0, x1] (.ref a :: st) h = if (gF h a 8 1).isSome = true then Run M_X8_edge 41 [x0, x1] ((gF h a 8 1).getD .null :: st) h else none := R_getfield d_X8_edge_38 rfl
theorem d_X8_edge_41 : decode (mB M_X8_edge) 41 = .ok (.aload_n 0, 1) := by decide +kernel
theorem r_X8_edge_41 {x1 : Value} {a : Nat} {st : List Value} {h : AH} : Run M_X8_edge 41 [.ref a, x1] st h = Run M_X8_edge 42 [.ref a, x1] (.ref a :: st) h := R_aload_n d_X8_edge_41 rfl
theorem d_X8_edge_42 : decode (mB M_X8_edge) 42 = .ok (.getfield 19, 3) := by decide +kernel
theorem r_X8_edge_42 {x0 x1 : Value} {a : Nat} {st : List Value} {h : AH} : Run M_X8_edge 42 [x0, x1] (.ref a :: st) h = if (gF h a 8 1).isSome = true then Run M_X8_edge 45 [x0, x1] ((gF h a 8 1).getD .null :: st) h else none := R_getfield d_X8_edge_42 rfl
theorem d_X8_edge_45 : decode (mB M_X8_edge) 45 = .ok (.invokevirtual 200, 3) := by decide +kernel
theorem r_X8_edge_45 {x0 x1 : Value} {a : Nat} {w0 : Value} {h : AH} : Run M_X8_edge 45 [x0, x1] (.ref a :: [w0]) h = if refO h 2 (some (.ref a)) = true then (if (Call M_X2_all h [.ref a]).isSome = true then Run M_X8_edge 48 [x0, x1] (rL (Call M_X2_all h [.ref a]) ++ [w0]) (cH (Call M_X2_all h [.ref a])) else none) else none := R_virt d_X8_edge_45 rfl rfl rfl rfl rfl (Nat.le_of_ble_eq_true rfl)
theorem d_X8_edge_48 : decode (mB M_X8_edge) 48 = .ok (.invokevirtual 214, 3) := by decide +kernel
theorem r_X8_edge_48 {x0 x1 : Value} {p0 : Int64} {a : Nat} {h : AH} : Run M_X8_edge 48 [x0, x1] (.long p0 :: .ref a :: []) h = if refO h 2 (some (.ref a)) = true then (if (Call M_X2_firstTenthWith h [.ref a, .long p0]).isSome = true then Run M_X8_edge 51 [x0, x1] (rL (Call M_X2_firstTenthWith h [.ref a, .long p0]) ++ []) (cH (Call M_X2_firstTenthWith h [.ref a, .long p0])) else none) else none := R_virt d_X8_edge_48 rfl rfl rfl rfl rfl (Nat.le_of_ble_eq_true rfl)
theorem d_X8_edge_51 : decode (mB M_X8_edge) 51 = .ok (.ireturn, 1) := by decide +kernel
theorem r_X8_edge_51 {x0 x1 : Value} {v : Int32} {h : AH} : Run M_X8_edge 51 [x0, x1] [.int v] h = some (h, some (.int v)) := R_ireturn d_X8_edge_51 rfl rfl
theorem d_X8_edge_52 : decode (mB M_X8_edge) 52 = .ok (.ldc 69, 2) := by decide +kernel
theorem r_X8_edge_52 {x0 x1 : Value} {st : List Value} {h : AH} : Run M_X8_edge 52 [x0, x1] st h = Run M_X8_edge 54 [x0, x1] (.int (-1000000002) :: st) h := R_ldc d_X8_edge_52 (by decide)
theorem d_X8_edge_54 : decode (mB M_X8_edge) 54 = .ok (.ireturn, 1) := by decide +kernel
theorem r_X8_edge_54 {x0 x1 : Value} {v : Int32} {h : AH} : Run M_X8_edge 54 [x0, x1] [.int v] h = some (h, some (.int v)) := R_ireturn d_X8_edge_54 rfl rfl
theorem d_X8_starts_0 : decode (mB M_X8_starts) 0 = .ok (.aload_n 0, 1) := by decide +kernel
theorem r_X8_starts_0 {x1 x2 x3 x4 x5 : Value} {a : Nat} {st : List Value} {h : AH} : Run M_X8_starts 0 [.ref a, x1, x2, x3, x4, x5] st h = Run M_X8_starts 1 [.ref a, x1, x2, x3, x4, x5] (.ref a :: st) h := R_aload_n d_X8_starts_0 rfl
theorem d_X8_starts_1 : decode (mB M_X8_starts) 1 = .ok (.getfield 57, 3) := by decide +kernel
theorem r_X8_starts_1 {x0 x1 x2 x3 x4 x5 : Value} {a : Nat} {st : List Value} {h : AH} : Run M_X8_starts 1 [x0, x1, x2, x3, x4, x5] (.ref a :: st) h = if (gF h a 8 7).isSome = true then Run M_X8_starts 4 [x0, x1, x2, x3, x4, x5] ((gF h a 8 7).getD .null :: st) h else none := R_getfield d_X8_starts_1 rfl
theorem d_X8_starts_4 : decode (mB M_X8_starts) 4 = .ok (.iload_n 1, 1) := by decide +kernel
theorem r_X8_starts_4 {x0 x2 x3 x4 x5 : Value} {a : Int32} {st : List Value} {h : AH} : Run M_X8_starts 4 [x0, .int a, x2, x3, x4, x5] st h = Run M_X8_starts 5 [x0, .int a, x2, x3, x4, x5] (.int a :: st) h := R_iload_n d_X8_starts_4 rfl
theorem d_X8_starts_5 : decode (mB M_X8_starts) 5 = .ok (.invokevirtual 128, 3) := by decide +kernel
theorem r_X8_starts_5 {x0 x1 x2 x3 x4 x5 : Value} {p0 : Int32} {a : Nat} {h : AH} : Run M_X8_starts 5 [x0, x1, x2, x3, x4, x5] (.int p0 :: .ref a :: []) h = if refO h 4 (some (.ref a)) = true then (if (Call M_X4_hasPart h [.ref a, .int p0]).isSome = true then Run M_X8_starts 8 [x0, x1, x2, x3, x4, x5] (rL (Call M_X4_hasPart h [.ref a, .int p0]) ++ []) (cH (Call M_X4_hasPart h [.ref a, .int p0])) else none) else none := R_virt d_X8_starts_5 rfl rfl rfl rfl rfl (Nat.le_of_ble_eq_true rfl)
theorem d_X8_starts_8 : decode (mB M_X8_starts) 8 = .ok (.ifCond .ne 7, 3) := by decide +kernel
theorem r_X8_starts_8 {x0 x1 x2 x3 x4 x5 : Value} {x : Int32} {st : List Value} {h : AH} : Run M_X8_starts 8 [x0, x1, x2, x3, x4, x5] (.int x :: st) h = if x = nI 0 then Run M_X8_starts 11 [x0, x1, x2, x3, x4, x5] st h else Run M_X8_starts 15 [x0, x1, x2, x3, x4, x5] st h := R_if_ne d_X8_starts_8 (by decide)
theorem d_X8_starts_11 : decode (mB M_X8_starts) 11 = .ok (.ldc2_w 218, 3) := by decide +kernel
theorem r_X8_starts_11 {x0 x1 x2 x3 x4 x5 : Value} {st : List Value} {h : AH} : Run M_X8_starts 11 [x0, x1, x2, x3, x4, x5] st h = Run M_X8_starts 14 [x0, x1, x2, x3, x4, x5] (.long (-1000000001) :: st) h := R_ldc2_w d_X8_starts_11 (by decide)
theorem d_X8_starts_14 : decode (mB M_X8_starts) 14 = .ok (.lreturn, 1) := by decide +kernel
theorem r_X8_starts_14 {x0 x1 x2 x3 x4 x5 : Value} {v : Int64} {h : AH} : Run M_X8_starts 14 [x0, x1, x2, x3, x4, x5] [.long v] h = some (h, some (.long v)) := R_lreturn d_X8_starts_14 rfl
theorem d_X8_starts_15 : decode (mB M_X8_starts) 15 = .ok (.iload_n 2, 1) := by decide +kernel
theorem r_X8_starts_15 {x0 x1 x3 x4 x5 : Value} {a : Int32} {st : List Value} {h : AH} : Run M_X8_starts 15 [x0, x1, .int a, x3, x4, x5] st h = Run M_X8_starts 16 [x0, x1, .int a, x3, x4, x5] (.int a :: st) h := R_iload_n d_X8_starts_15 rfl
theorem d_X8_starts_16 : decode (mB M_X8_starts) 16 = .ok (.invokestatic 188, 3) := by decide +kernel
theorem r_X8_starts_16 {x0 x1 x2 x3 x4 x5 : Value} {p0 : Int32} {h : AH} : Run M_X8_starts 16 [x0, x1, x2, x3, x4, x5] (.int p0 :: []) h = if (Call M_X8_isTenth h [.int p0]).isSome = true then Run M_X8_starts 19 [x0, x1, x2, x3, x4, x5] (rL (Call M_X8_isTenth h [.int p0]) ++ []) (cH (Call M_X8_isTenth h [.int p0])) else none := R_stat d_X8_starts_16 rfl rfl rfl rfl (Nat.le_of_ble_eq_true rfl)
theorem d_X8_starts_19 : decode (mB M_X8_starts) 19 = .ok (.ifCond .eq 10, 3) := by decide +kernel
theorem r_X8_starts_19 {x0 x1 x2 x3 x4 x5 : Value} {x : Int32} {st : List Value} {h : AH} : Run M_X8_starts 19 [x0, x1, x2, x3, x4, x5] (.int x :: st) h = if x = nI 0 then Run M_X8_starts 29 [x0, x1, x2, x3, x4, x5] st h else Run M_X8_starts 22 [x0, x1, x2, x3, x4, x5] st h := R_if_eq d_X8_starts_19 (by decide)
theorem d_X8_starts_22 : decode (mB M_X8_starts) 22 = .ok (.iload_n 3, 1) := by decide +kernel
theorem r_X8_starts_22 {x0 x1 x2 x4 x5 : Value} {a : Int32} {st : List Value} {h : AH} : Run M_X8_starts 22 [x0, x1, x2, .int a, x4, x5] st h = Run M_X8_starts 23 [x0, x1, x2, .int a, x4, x5] (.int a :: st) h := R_iload_n d_X8_starts_22 rfl
theorem d_X8_starts_23 : decode (mB M_X8_starts) 23 = .ok (.invokestatic 191, 3) := by decide +kernel
theorem r_X8_starts_23 {x0 x1 x2 x3 x4 x5 : Value} {p0 : Int32} {h : AH} : Run M_X8_starts 23 [x0, x1, x2, x3, x4, x5] (.int p0 :: []) h = if (Call M_X8_isSide h [.int p0]).isSome = true then Run M_X8_starts 26 [x0, x1, x2, x3, x4, x5] (rL (Call M_X8_isSide h [.int p0]) ++ []) (cH (Call M_X8_isSide h [.int p0])) else none := R_stat d_X8_starts_23 rfl rfl rfl rfl (Nat.le_of_ble_eq_true rfl)
theorem d_X8_starts_26 : decode (mB M_X8_starts) 26 = .ok (.ifCond .ne 7, 3) := by decide +kernel
theorem r_X8_starts_26 {x0 x1 x2 x3 x4 x5 : Value} {x : Int32} {st : List Value} {h : AH} : Run M_X8_starts 26 [x0, x1, x2, x3, x4, x5] (.int x :: st) h = if x = nI 0 then Run M_X8_starts 29 [x0, x1, x2, x3, x4, x5] st h else Run M_X8_starts 33 [x0, x1, x2, x3, x4, x5] st h := R_if_ne d_X8_starts_26 (by decide)
theorem d_X8_starts_29 : decode (mB M_X8_starts) 29 = .ok (.ldc2_w 194, 3) := by decide +kernel
theorem r_X8_starts_29 {x0 x1 x2 x3 x4 x5 : Value} {st : List Value} {h : AH} : Run M_X8_starts 29 [x0, x1, x2, x3, x4, x5] st h = Run M_X8_starts 32 [x0, x1, x2, x3, x4, x5] (.long (-1000000002) :: st) h := R_ldc2_w d_X8_starts_29 (by decide)
theorem d_X8_starts_32 : decode (mB M_X8_starts) 32 = .ok (.lreturn, 1) := by decide +kernel
theorem r_X8_starts_32 {x0 x1 x2 x3 x4 x5 : Value} {v : Int64} {h : AH} : Run M_X8_starts 32 [x0, x1, x2, x3, x4, x5] [.long v] h = some (h, some (.long v)) := R_lreturn d_X8_starts_32 rfl
theorem d_X8_starts_33 : decode (mB M_X8_starts) 33 = .ok (.aload_n 0, 1) := by decide +kernel
theorem r_X8_starts_33 {x1 x2 x3 x4 x5 : Value} {a : Nat} {st : List Value} {h : AH} : Run M_X8_starts 33 [.ref a, x1, x2, x3, x4, x5] st h = Run M_X8_starts 34 [.ref a, x1, x2, x3, x4, x5] (.ref a :: st) h := R_aload_n d_X8_starts_33 rfl
theorem d_X8_starts_34 : decode (mB M_X8_starts) 34 = .ok (.getfield 19, 3) := by decide +kernel
theorem r_X8_starts_34 {x0 x1 x2 x3 x4 x5 : Value} {a : Nat} {st : List Value} {h : AH} : Run M_X8_starts 34 [x0, x1, x2, x3, x4, x5] (.ref a :: st) h = if (gF h a 8 1).isSome = true then Run M_X8_starts 37 [x0, x1, x2, x3, x4, x5] ((gF h a 8 1).getD .null :: st) h else none := R_getfield d_X8_starts_34 rfl
theorem d_X8_starts_37 : decode (mB M_X8_starts) 37 = .ok (.iload_n 1, 1) := by decide +kernel
theorem r_X8_starts_37 {x0 x2 x3 x4 x5 : Value} {a : Int32} {st : List Value} {h : AH} : Run M_X8_starts 37 [x0, .int a, x2, x3, x4, x5] st h = Run M_X8_starts 38 [x0, .int a, x2, x3, x4, x5] (.int a :: st) h := R_iload_n d_X8_starts_37 rfl
theorem d_X8_starts_38 : decode (mB M_X8_starts) 38 = .ok (.iload_n 2, 1) := by decide +kernel
theorem r_X8_starts_38 {x0 x1 x3 x4 x5 : Value} {a : Int32} {st : List Value} {h : AH} : Run M_X8_starts 38 [x0, x1, .int a, x3, x4, x5] st h = Run M_X8_starts 39 [x0, x1, .int a, x3, x4, x5] (.int a :: st) h := R_iload_n d_X8_starts_38 rfl
theorem d_X8_starts_39 : decode (mB M_X8_starts) 39 = .ok (.invokevirtual 220, 3) := by decide +kernel
theorem r_X8_starts_39 {x0 x1 x2 x3 x4 x5 : Value} {p0 : Int32} {p1 : Int32} {a : Nat} {h : AH} : Run M_X8_starts 39 [x0, x1, x2, x3, x4, x5] (.int p1 :: .int p0 :: .ref a :: []) h = if refO h 2 (some (.ref a)) = true then (if (Call M_X2_beginning h [.ref a, .int p0, .int p1]).isSome = true then Run M_X8_starts 42 [x0, x1, x2, x3, x4, x5] (rL (Call M_X2_beginning h [.ref a, .int p0, .int p1]) ++ []) (cH (Call M_X2_beginning h [.ref a, .int p0, .int p1])) else none) else none := R_virt d_X8_starts_39 rfl rfl rfl rfl rfl (Nat.le_of_ble_eq_true rfl)
theorem d_X8_starts_42 : decode (mB M_X8_starts) 42 = .ok (.aload_n 0, 1) := by decide +kernel
theorem r_X8_starts_42 {x1 x2 x3 x4 x5 : Value} {a : Nat} {st : List Value} {h : AH} : Run M_X8_starts 42 [.ref a, x1, x2, x3, x4, x5] st h = Run M_X8_starts 43 [.ref a, x1, x2, x3, x4, x5] (.ref a :: st) h := R_aload_n d_X8_starts_42 rfl
theorem d_X8_starts_43 : decode (mB M_X8_starts) 43 = .ok (.getfield 57, 3) := by decide +kernel
theorem r_X8_starts_43 {x0 x1 x2 x3 x4 x5 : Value} {a : Nat} {st : List Value} {h : AH} : Run M_X8_starts 43 [x0, x1, x2, x3, x4, x5] (.ref a :: st) h = if (gF h a 8 7).isSome = true then Run M_X8_starts 46 [x0, x1, x2, x3, x4, x5] ((gF h a 8 7).getD .null :: st) h else none := R_getfield d_X8_starts_43 rfl
theorem d_X8_starts_46 : decode (mB M_X8_starts) 46 = .ok (.getfield 132, 3) := by decide +kernel
theorem r_X8_starts_46 {x0 x1 x2 x3 x4 x5 : Value} {a : Nat} {st : List Value} {h : AH} : Run M_X8_starts 46 [x0, x1, x2, x3, x4, x5] (.ref a :: st) h = if (gF h a 4 1).isSome = true then Run M_X8_starts 49 [x0, x1, x2, x3, x4, x5] ((gF h a 4 1).getD .null :: st) h else none := R_getfield d_X8_starts_46 rfl
theorem d_X8_starts_49 : decode (mB M_X8_starts) 49 = .ok (.iload_n 1, 1) := by decide +kernel
theorem r_X8_starts_49 {x0 x2 x3 x4 x5 : Value} {a : Int32} {st : List Value} {h : AH} : Run M_X8_starts 49 [x0, .int a, x2, x3, x4, x5] st h = Run M_X8_starts 50 [x0, .int a, x2, x3, x4, x5] (.int a :: st) h := R_iload_n d_X8_starts_49 rfl
theorem d_X8_starts_50 : decode (mB M_X8_starts) 50 = .ok (.aaload, 1) := by decide +kernel
theorem r_X8_starts_50 {x0 x1 x2 x3 x4 x5 : Value} {a : Nat} {i : Int32} {st : List Value} {h : AH} : Run M_X8_starts 50 [x0, x1, x2, x3, x4, x5] (.int i :: .ref a :: st) h = if (gR h a i).isSome = true then Run M_X8_starts 51 [x0, x1, x2, x3, x4, x5] (.ref ((gR h a i).getD 0) :: st) h else none := R_aaload d_X8_starts_50
theorem d_X8_starts_51 : decode (mB M_X8_starts) 51 = .ok (.invokevirtual 224, 3) := by decide +kernel
theorem r_X8_starts_51 {x0 x1 x2 x3 x4 x5 : Value} {a : Nat} {w0 : Value} {h : AH} : Run M_X8_starts 51 [x0, x1, x2, x3, x4, x5] (.ref a :: [w0]) h = if refO h 6 (some (.ref a)) = true then (if (Call M_X6_playedOf8 h [.ref a]).isSome = true then Run M_X8_starts 54 [x0, x1, x2, x3, x4, x5] (rL (Call M_X6_playedOf8 h [.ref a]) ++ [w0]) (cH (Call M_X6_playedOf8 h [.ref a])) else none) else none := R_virt d_X8_starts_51 rfl rfl rfl rfl rfl (Nat.le_of_ble_eq_true rfl)
theorem d_X8_starts_54 : decode (mB M_X8_starts) 54 = .ok (.i2l, 1) := by decide +kernel
theorem r_X8_starts_54 {x0 x1 x2 x3 x4 x5 : Value} {x : Int32} {st : List Value} {h : AH} : Run M_X8_starts 54 [x0, x1, x2, x3, x4, x5] (.int x :: st) h = Run M_X8_starts 55 [x0, x1, x2, x3, x4, x5] (.long x.toInt64 :: st) h := R_i2l d_X8_starts_54
theorem d_X8_starts_55 : decode (mB M_X8_starts) 55 = .ok (.lmul, 1) := by decide +kernel
theorem r_X8_starts_55 {x0 x1 x2 x3 x4 x5 : Value} {x y : Int64} {st : List Value} {h : AH} : Run M_X8_starts 55 [x0, x1, x2, x3, x4, x5] (.long y :: .long x :: st) h = Run M_X8_starts 56 [x0, x1, x2, x3, x4, x5] (.long (x * y) :: st) h := R_lmul d_X8_starts_55
theorem d_X8_starts_56 : decode (mB M_X8_starts) 56 = .ok (.lstore 4, 2) := by decide +kernel
theorem r_X8_starts_56 {x0 x1 x2 x3 x4 x5 : Value} {a : Int64} {st : List Value} {h : AH} (hc : x3.category = 1) : Run M_X8_starts 56 [x0, x1, x2, x3, x4, x5] (.long a :: st) h = Run M_X8_starts 58 [x0, x1, x2, x3, .long a, .null] st h := R_lstore d_X8_starts_56 (Nat.lt_of_lt_of_le (by decide : 5 < 6) (Nat.le_refl 6)) (catP_of rfl hc)
theorem d_X8_starts_58 : decode (mB M_X8_starts) 58 = .ok (.lload 4, 2) := by decide +kernel
theorem r_X8_starts_58 {x0 x1 x2 x3 x5 : Value} {a : Int64} {st : List Value} {h : AH} : Run M_X8_starts 58 [x0, x1, x2, x3, .long a, x5] st h = Run M_X8_starts 60 [x0, x1, x2, x3, .long a, x5] (.long a :: st) h := R_lload d_X8_starts_58 rfl
theorem d_X8_starts_60 : decode (mB M_X8_starts) 60 = .ok (.aload_n 0, 1) := by decide +kernel
theorem r_X8_starts_60 {x1 x2 x3 x4 x5 : Value} {a : Nat} {st : List Value} {h : AH} : Run M_X8_starts 60 [.ref a, x1, x2, x3, x4, x5] st h = Run M_X8_starts 61 [.ref a, x1, x2, x3, x4, x5] (.ref a :: st) h := R_aload_n d_X8_starts_60 rfl
theorem d_X8_starts_61 : decode (mB M_X8_starts) 61 = .ok (.getfield 19, 3) := by decide +kernel
theorem r_X8_starts_61 {x0 x1 x2 x3 x4 x5 : Value} {a : Nat} {st : List Value} {h : AH} : Run M_X8_starts 61 [x0, x1, x2, x3, x4, x5] (.ref a :: st) h = if (gF h a 8 1).isSome = true then Run M_X8_starts 64 [x0, x1, x2, x3, x4, x5] ((gF h a 8 1).getD .null :: st) h else none := R_getfield d_X8_starts_61 rfl
theorem d_X8_starts_64 : decode (mB M_X8_starts) 64 = .ok (.iload_n 1, 1) := by decide +kernel
theorem r_X8_starts_64 {x0 x2 x3 x4 x5 : Value} {a : Int32} {st : List Value} {h : AH} : Run M_X8_starts 64 [x0, .int a, x2, x3, x4, x5] st h = Run M_X8_starts 65 [x0, .int a, x2, x3, x4, x5] (.int a :: st) h := R_iload_n d_X8_starts_64 rfl
theorem d_X8_starts_65 : decode (mB M_X8_starts) 65 = .ok (.invokevirtual 227, 3) := by decide +kernel
theorem r_X8_starts_65 {x0 x1 x2 x3 x4 x5 : Value} {p0 : Int32} {a : Nat} {w0 : Value} {h : AH} : Run M_X8_starts 65 [x0, x1, x2, x3, x4, x5] (.int p0 :: .ref a :: [w0]) h = if refO h 2 (some (.ref a)) = true then (if (Call M_X2_allAhead h [.ref a, .int p0]).isSome = true then Run M_X8_starts 68 [x0, x1, x2, x3, x4, x5] (rL (Call M_X2_allAhead h [.ref a, .int p0]) ++ [w0]) (cH (Call M_X2_allAhead h [.ref a, .int p0])) else none) else none := R_virt d_X8_starts_65 rfl rfl rfl rfl rfl (Nat.le_of_ble_eq_true rfl)
theorem d_X8_starts_68 : decode (mB M_X8_starts) 68 = .ok (.ldc2_w 230, 3) := by decide +kernel
theorem r_X8_starts_68 {x0 x1 x2 x3 x4 x5 : Value} {st : List Value} {h : AH} : Run M_X8_starts 68 [x0, x1, x2, x3, x4, x5] st h = Run M_X8_starts 71 [x0, x1, x2, x3, x4, x5] (.long (lN 8) :: st) h := R_ldc2_w d_X8_starts_68 (by decide)
theorem d_X8_starts_71 : decode (mB M_X8_starts) 71 = .ok (.lmul, 1) := by decide +kernel
theorem r_X8_starts_71 {x0 x1 x2 x3 x4 x5 : Value} {x y : Int64} {st : List Value} {h : AH} : Run M_X8_starts 71 [x0, x1, x2, x3, x4, x5] (.long y :: .long x :: st) h = Run M_X8_starts 72 [x0, x1, x2, x3, x4, x5] (.long (x * y) :: st) h := R_lmul d_X8_starts_71
theorem d_X8_starts_72 : decode (mB M_X8_starts) 72 = .ok (.iload_n 3, 1) := by decide +kernel
theorem r_X8_starts_72 {x0 x1 x2 x4 x5 : Value} {a : Int32} {st : List Value} {h : AH} : Run M_X8_starts 72 [x0, x1, x2, .int a, x4, x5] st h = Run M_X8_starts 73 [x0, x1, x2, .int a, x4, x5] (.int a :: st) h := R_iload_n d_X8_starts_72 rfl
theorem d_X8_starts_73 : decode (mB M_X8_starts) 73 = .ok (.invokestatic 204, 3) := by decide +kernel
theorem r_X8_starts_73 {x0 x1 x2 x3 x4 x5 : Value} {p0 : Int64} {p1 : Int64} {p2 : Int32} {h : AH} : Run M_X8_starts 73 [x0, x1, x2, x3, x4, x5] (.int p2 :: .long p1 :: .long p0 :: []) h = if (Call M_X8_inLowest h [.long p0, .long p1, .int p2]).isSome = true then Run M_X8_starts 76 [x0, x1, x2, x3, x4, x5] (rL (Call M_X8_inLowest h [.long p0, .long p1, .int p2]) ++ []) (cH (Call M_X8_inLowest h [.long p0, .long p1, .int p2])) else none := R_stat d_X8_starts_73 rfl rfl rfl rfl (Nat.le_of_ble_eq_true rfl)
theorem d_X8_starts_76 : decode (mB M_X8_starts) 76 = .ok (.lreturn, 1) := by decide +kernel
theorem r_X8_starts_76 {x0 x1 x2 x3 x4 x5 : Value} {v : Int64} {h : AH} : Run M_X8_starts 76 [x0, x1, x2, x3, x4, x5] [.long v] h = some (h, some (.long v)) := R_lreturn d_X8_starts_76 rfl
theorem d_X8_isIt_0 : decode (mB M_X8_isIt) 0 = .ok (.iload_n 1, 1) := by decide +kernel
theorem r_X8_isIt_0 {x0 x2 x3 x4 x5 x6 x7 x8 x9 x10 : Value} {a : Int32} {st : List Value} {h : AH} : Run M_X8_isIt 0 [x0, .int a, x2, x3, x4, x5, x6, x7, x8, x9, x10] st h = Run M_X8_isIt 1 [x0, .int a, x2, x3, x4, x5, x6, x7, x8, x9, x10] (.int a :: st) h := R_iload_n d_X8_isIt_0 rfl
theorem d_X8_isIt_1 : decode (mB M_X8_isIt) 1 = .ok (.invokestatic 188, 3) := by decide +kernel
theorem r_X8_isIt_1 {x0 x1 x2 x3 x4 x5 x6 x7 x8 x9 x10 : Value} {p0 : Int32} {h : AH} : Run M_X8_isIt 1 [x0, x1, x2, x3, x4, x5, x6, x7, x8, x9, x10] (.int p0 :: []) h = if (Call M_X8_isTenth h [.int p0]).isSome = true then Run M_X8_isIt 4 [x0, x1, x2, x3, x4, x5, x6, x7, x8, x9, x10] (rL (Call M_X8_isTenth h [.int p0]) ++ []) (cH (Call M_X8_isTenth h [.int p0])) else none := R_stat d_X8_isIt_1 rfl rfl rfl rfl (Nat.le_of_ble_eq_true rfl)
theorem d_X8_isIt_4 : decode (mB M_X8_isIt) 4 = .ok (.ifCond .eq 30, 3) := by decide +kernel
theorem r_X8_isIt_4 {x0 x1 x2 x3 x4 x5 x6 x7 x8 x9 x10 : Value} {x : Int32} {st : List Value} {h : AH} : Run M_X8_isIt 4 [x0, x1, x2, x3, x4, x5, x6, x7, x8, x9, x10] (.int x :: st) h = if x = nI 0 then Run M_X8_isIt 34 [x0, x1, x2, x3, x4, x5, x6, x7, x8, x9, x10] st h else Run M_X8_isIt 7 [x0, x1, x2, x3, x4, x5, x6, x7, x8, x9, x10] st h := R_if_eq d_X8_isIt_4 (by decide)
theorem d_X8_isIt_7 : decode (mB M_X8_isIt) 7 = .ok (.iload_n 2, 1) := by decide +kernel
theorem r_X8_isIt_7 {x0 x1 x3 x4 x5 x6 x7 x8 x9 x10 : Value} {a : Int32} {st : List Value} {h : AH} : Run M_X8_isIt 7 [x0, x1, .int a, x3, x4, x5, x6, x7, x8, x9, x10] st h = Run M_X8_isIt 8 [x0, x1, .int a, x3, x4, x5, x6, x7, x8, x9, x10] (.int a :: st) h := R_iload_n d_X8_isIt_7 rfl
theorem d_X8_isIt_8 : decode (mB M_X8_isIt) 8 = .ok (.iconst 0, 1) := by decide +kernel
theorem r_X8_isIt_8 {x0 x1 x2 x3 x4 x5 x6 x7 x8 x9 x10 : Value} {st : List Value} {h : AH} : Run M_X8_isIt 8 [x0, x1, x2, x3, x4, x5, x6, x7, x8, x9, x10] st h = Run M_X8_isIt 9 [x0, x1, x2, x3, x4, x5, x6, x7, x8, x9, x10] (.int (nI 0) :: st) h := R_iconst d_X8_isIt_8 (by decide)
theorem d_X8_isIt_9 : decode (mB M_X8_isIt) 9 = .ok (.bipush 60, 2) := by decide +kernel
theorem r_X8_isIt_9 {x0 x1 x2 x3 x4 x5 x6 x7 x8 x9 x10 : Value} {st : List Value} {h : AH} : Run M_X8_isIt 9 [x0, x1, x2, x3, x4, x5, x6, x7, x8, x9, x10] st h = Run M_X8_isIt 11 [x0, x1, x2, x3, x4, x5, x6, x7, x8, x9, x10] (.int (nI 60) :: st) h := R_bipush d_X8_isIt_9 (by decide)
theorem d_X8_isIt_11 : decode (mB M_X8_isIt) 11 = .ok (.invokestatic 65, 3) := by decide +kernel
theorem r_X8_isIt_11 {x0 x1 x2 x3 x4 x5 x6 x7 x8 x9 x10 : Value} {p0 : Int32} {p1 : Int32} {p2 : Int32} {h : AH} : Run M_X8_isIt 11 [x0, x1, x2, x3, x4, x5, x6, x7, x8, x9, x10] (.int p2 :: .int p1 :: .int p0 :: []) h = if (Call M_X8_within h [.int p0, .int p1, .int p2]).isSome = true then Run M_X8_isIt 14 [x0, x1, x2, x3, x4, x5, x6, x7, x8, x9, x10] (rL (Call M_X8_within h [.int p0, .int p1, .int p2]) ++ []) (cH (Call M_X8_within h [.int p0, .int p1, .int p2])) else none := R_stat d_X8_isIt_11 rfl rfl rfl rfl (Nat.le_of_ble_eq_true rfl)
theorem d_X8_isIt_14 : decode (mB M_X8_isIt) 14 = .ok (.ifCond .eq 20, 3) := by decide +kernel
theorem r_X8_isIt_14 {x0 x1 x2 x3 x4 x5 x6 x7 x8 x9 x10 : Value} {x : Int32} {st : List Value} {h : AH} : Run M_X8_isIt 14 [x0, x1, x2, x3, x4, x5, x6, x7, x8, x9, x10] (.int x :: st) h = if x = nI 0 then Run M_X8_isIt 34 [x0, x1, x2, x3, x4, x5, x6, x7, x8, x9, x10] st h else Run M_X8_isIt 17 [x0, x1, x2, x3, x4, x5, x6, x7, x8, x9, x10] st h := R_if_eq d_X8_isIt_14 (by decide)
theorem d_X8_isIt_17 : decode (mB M_X8_isIt) 17 = .ok (.iload_n 3, 1) := by decide +kernel
theorem r_X8_isIt_17 {x0 x1 x2 x4 x5 x6 x7 x8 x9 x10 : Value} {a : Int32} {st : List Value} {h : AH} : Run M_X8_isIt 17 [x0, x1, x2, .int a, x4, x5, x6, x7, x8, x9, x10] st h = Run M_X8_isIt 18 [x0, x1, x2, .int a, x4, x5, x6, x7, x8, x9, x10] (.int a :: st) h := R_iload_n d_X8_isIt_17 rfl
theorem d_X8_isIt_18 : decode (mB M_X8_isIt) 18 = .ok (.iconst 0, 1) := by decide +kernel
theorem r_X8_isIt_18 {x0 x1 x2 x3 x4 x5 x6 x7 x8 x9 x10 : Value} {st : List Value} {h : AH} : Run M_X8_isIt 18 [x0, x1, x2, x3, x4, x5, x6, x7, x8, x9, x10] st h = Run M_X8_isIt 19 [x0, x1, x2, x3, x4, x5, x6, x7, x8, x9, x10] (.int (nI 0) :: st) h := R_iconst d_X8_isIt_18 (by decide)
theorem d_X8_isIt_19 : decode (mB M_X8_isIt) 19 = .ok (.iconst 2, 1) := by decide +kernel
theorem r_X8_isIt_19 {x0 x1 x2 x3 x4 x5 x6 x7 x8 x9 x10 : Value} {st : List Value} {h : AH} : Run M_X8_isIt 19 [x0, x1, x2, x3, x4, x5, x6, x7, x8, x9, x10] st h = Run M_X8_isIt 20 [x0, x1, x2, x3, x4, x5, x6, x7, x8, x9, x10] (.int (nI 2) :: st) h := R_iconst d_X8_isIt_19 (by decide)
theorem d_X8_isIt_20 : decode (mB M_X8_isIt) 20 = .ok (.invokestatic 65, 3) := by decide +kernel
theorem r_X8_isIt_20 {x0 x1 x2 x3 x4 x5 x6 x7 x8 x9 x10 : Value} {p0 : Int32} {p1 : Int32} {p2 : Int32} {h : AH} : Run M_X8_isIt 20 [x0, x1, x2, x3, x4, x5, x6, x7, x8, x9, x10] (.int p2 :: .int p1 :: .int p0 :: []) h = if (Call M_X8_within h [.int p0, .int p1, .int p2]).isSome = true then Run M_X8_isIt 23 [x0, x1, x2, x3, x4, x5, x6, x7, x8, x9, x10] (rL (Call M_X8_within h [.int p0, .int p1, .int p2]) ++ []) (cH (Call M_X8_within h [.int p0, .int p1, .int p2])) else none := R_stat d_X8_isIt_20 rfl rfl rfl rfl (Nat.le_of_ble_eq_true rfl)
theorem d_X8_isIt_23 : decode (mB M_X8_isIt) 23 = .ok (.ifCond .eq 11, 3) := by decide +kernel
theorem r_X8_isIt_23 {x0 x1 x2 x3 x4 x5 x6 x7 x8 x9 x10 : Value} {x : Int32} {st : List Value} {h : AH} : Run M_X8_isIt 23 [x0, x1, x2, x3, x4, x5, x6, x7, x8, x9, x10] (.int x :: st) h = if x = nI 0 then Run M_X8_isIt 34 [x0, x1, x2, x3, x4, x5, x6, x7, x8, x9, x10] st h else Run M_X8_isIt 26 [x0, x1, x2, x3, x4, x5, x6, x7, x8, x9, x10] st h := R_if_eq d_X8_isIt_23 (by decide)
theorem d_X8_isIt_26 : decode (mB M_X8_isIt) 26 = .ok (.iload 4, 2) := by decide +kernel
theorem r_X8_isIt_26 {x0 x1 x2 x3 x5 x6 x7 x8 x9 x10 : Value} {a : Int32} {st : List Value} {h : AH} : Run M_X8_isIt 26 [x0, x1, x2, x3, .int a, x5, x6, x7, x8, x9, x10] st h = Run M_X8_isIt 28 [x0, x1, x2, x3, .int a, x5, x6, x7, x8, x9, x10] (.int a :: st) h := R_iload d_X8_isIt_26 rfl
theorem d_X8_isIt_28 : decode (mB M_X8_isIt) 28 = .ok (.invokestatic 191, 3) := by decide +kernel
theorem r_X8_isIt_28 {x0 x1 x2 x3 x4 x5 x6 x7 x8 x9 x10 : Value} {p0 : Int32} {h : AH} : Run M_X8_isIt 28 [x0, x1, x2, x3, x4, x5, x6, x7, x8, x9, x10] (.int p0 :: []) h = if (Call M_X8_isSide h [.int p0]).isSome = true then Run M_X8_isIt 31 [x0, x1, x2, x3, x4, x5, x6, x7, x8, x9, x10] (rL (Call M_X8_isSide h [.int p0]) ++ []) (cH (Call M_X8_isSide h [.int p0])) else none := R_stat d_X8_isIt_28 rfl rfl rfl rfl (Nat.le_of_ble_eq_true rfl)
theorem d_X8_isIt_31 : decode (mB M_X8_isIt) 31 = .ok (.ifCond .ne 7, 3) := by decide +kernel
theorem r_X8_isIt_31 {x0 x1 x2 x3 x4 x5 x6 x7 x8 x9 x10 : Value} {x : Int32} {st : List Value} {h : AH} : Run M_X8_isIt 31 [x0, x1, x2, x3, x4, x5, x6, x7, x8, x9, x10] (.int x :: st) h = if x = nI 0 then Run M_X8_isIt 34 [x0, x1, x2, x3, x4, x5, x6, x7, x8, x9, x10] st h else Run M_X8_isIt 38 [x0, x1, x2, x3, x4, x5, x6, x7, x8, x9, x10] st h := R_if_ne d_X8_isIt_31 (by decide)
theorem d_X8_isIt_34 : decode (mB M_X8_isIt) 34 = .ok (.ldc2_w 194, 3) := by decide +kernel
theorem r_X8_isIt_34 {x0 x1 x2 x3 x4 x5 x6 x7 x8 x9 x10 : Value} {st : List Value} {h : AH} : Run M_X8_isIt 34 [x0, x1, x2, x3, x4, x5, x6, x7, x8, x9, x10] st h = Run M_X8_isIt 37 [x0, x1, x2, x3, x4, x5, x6, x7, x8, x9, x10] (.long (-1000000002) :: st) h := R_ldc2_w d_X8_isIt_34 (by decide)
theorem d_X8_isIt_37 : decode (mB M_X8_isIt) 37 = .ok (.lreturn, 1) := by decide +kernel
theorem r_X8_isIt_37 {x0 x1 x2 x3 x4 x5 x6 x7 x8 x9 x10 : Value} {v : Int64} {h : AH} : Run M_X8_isIt 37 [x0, x1, x2, x3, x4, x5, x6, x7, x8, x9, x10] [.long v] h = some (h, some (.long v)) := R_lreturn d_X8_isIt_37 rfl
theorem d_X8_isIt_38 : decode (mB M_X8_isIt) 38 = .ok (.aload_n 0, 1) := by decide +kernel
theorem r_X8_isIt_38 {x1 x2 x3 x4 x5 x6 x7 x8 x9 x10 : Value} {a : Nat} {st : List Value} {h : AH} : Run M_X8_isIt 38 [.ref a, x1, x2, x3, x4, x5, x6, x7, x8, x9, x10] st h = Run M_X8_isIt 39 [.ref a, x1, x2, x3, x4, x5, x6, x7, x8, x9, x10] (.ref a :: st) h := R_aload_n d_X8_isIt_38 rfl
theorem d_X8_isIt_39 : decode (mB M_X8_isIt) 39 = .ok (.iconst 3, 1) := by decide +kernel
theorem r_X8_isIt_39 {x0 x1 x2 x3 x4 x5 x6 x7 x8 x9 x10 : Value} {st : List Value} {h : AH} : Run M_X8_isIt 39 [x0, x1, x2, x3, x4, x5, x6, x7, x8, x9, x10] st h = Run M_X8_isIt 40 [x0, x1, x2, x3, x4, x5, x6, x7, x8, x9, x10] (.int (nI 3) :: st) h := R_iconst d_X8_isIt_39 (by decide)
theorem d_X8_isIt_40 : decode (mB M_X8_isIt) 40 = .ok (.iload_n 1, 1) := by decide +kernel
theorem r_X8_isIt_40 {x0 x2 x3 x4 x5 x6 x7 x8 x9 x10 : Value} {a : Int32} {st : List Value} {h : AH} : Run M_X8_isIt 40 [x0, .int a, x2, x3, x4, x5, x6, x7, x8, x9, x10] st h = Run M_X8_isIt 41 [x0, .int a, x2, x3, x4, x5, x6, x7, x8, x9, x10] (.int a :: st) h := R_iload_n d_X8_isIt_40 rfl
theorem d_X8_isIt_41 : decode (mB M_X8_isIt) 41 = .ok (.iload_n 2, 1) := by decide +kernel
theorem r_X8_isIt_41 {x0 x1 x3 x4 x5 x6 x7 x8 x9 x10 : Value} {a : Int32} {st : List Value} {h : AH} : Run M_X8_isIt 41 [x0, x1, .int a, x3, x4, x5, x6, x7, x8, x9, x10] st h = Run M_X8_isIt 42 [x0, x1, .int a, x3, x4, x5, x6, x7, x8, x9, x10] (.int a :: st) h := R_iload_n d_X8_isIt_41 rfl
theorem d_X8_isIt_42 : decode (mB M_X8_isIt) 42 = .ok (.invokevirtual 232, 3) := by decide +kernel
theorem r_X8_isIt_42 {x0 x1 x2 x3 x4 x5 x6 x7 x8 x9 x10 : Value} {p0 : Int32} {p1 : Int32} {p2 : Int32} {a : Nat} {h : AH} : Run M_X8_isIt 42 [x0, x1, x2, x3, x4, x5, x6, x7, x8, x9, x10] (.int p2 :: .int p1 :: .int p0 :: .ref a :: []) h = if refO h 8 (some (.ref a)) = true then (if (Call M_X8_goingOn h [.ref a, .int p0, .int p1, .int p2]).isSome = true then Run M_X8_isIt 45 [x0, x1, x2, x3, x4, x5, x6, x7, x8, x9, x10] (rL (Call M_X8_goingOn h [.ref a, .int p0, .int p1, .int p2]) ++ []) (cH (Call M_X8_goingOn h [.ref a, .int p0, .int p1, .int p2])) else none) else none := R_virt d_X8_isIt_42 rfl rfl rfl rfl rfl (Nat.le_of_ble_eq_true rfl)
theorem d_X8_isIt_45 : decode (mB M_X8_isIt) 45 = .ok (.aload_n 0, 1) := by decide +kernel
theorem r_X8_isIt_45 {x1 x2 x3 x4 x5 x6 x7 x8 x9 x10 : Value} {a : Nat} {st : List Value} {h : AH} : Run M_X8_isIt 45 [.ref a, x1, x2, x3, x4, x5, x6, x7, x8, x9, x10] st h = Run M_X8_isIt 46 [.ref a, x1, x2, x3, x4, x5, x6, x7, x8, x9, x10] (.ref a :: st) h := R_aload_n d_X8_isIt_45 rfl
theorem d_X8_isIt_46 : decode (mB M_X8_isIt) 46 = .ok (.getfield 57, 3) := by decide +kernel
theorem r_X8_isIt_46 {x0 x1 x2 x3 x4 x5 x6 x7 x8 x9 x10 : Value} {a : Nat} {st : List Value} {h : AH} : Run M_X8_isIt 46 [x0, x1, x2, x3, x4, x5, x6, x7, x8, x9, x10] (.ref a :: st) h = if (gF h a 8 7).isSome = true then Run M_X8_isIt 49 [x0, x1, x2, x3, x4, x5, x6, x7, x8, x9, x10] ((gF h a 8 7).getD .null :: st) h else none := R_getfield d_X8_isIt_46 rfl
theorem d_X8_isIt_49 : decode (mB M_X8_isIt) 49 = .ok (.getfield 92, 3) := by decide +kernel
theorem r_X8_isIt_49 {x0 x1 x2 x3 x4 x5 x6 x7 x8 x9 x10 : Value} {a : Nat} {st : List Value} {h : AH} : Run M_X8_isIt 49 [x0, x1, x2, x3, x4, x5, x6, x7, x8, x9, x10] (.ref a :: st) h = if (gF h a 4 6).isSome = true then Run M_X8_isIt 52 [x0, x1, x2, x3, x4, x5, x6, x7, x8, x9, x10] ((gF h a 4 6).getD .null :: st) h else none := R_getfield d_X8_isIt_49 rfl
theorem d_X8_isIt_52 : decode (mB M_X8_isIt) 52 = .ok (.iconst 3, 1) := by decide +kernel
theorem r_X8_isIt_52 {x0 x1 x2 x3 x4 x5 x6 x7 x8 x9 x10 : Value} {st : List Value} {h : AH} : Run M_X8_isIt 52 [x0, x1, x2, x3, x4, x5, x6, x7, x8, x9, x10] st h = Run M_X8_isIt 53 [x0, x1, x2, x3, x4, x5, x6, x7, x8, x9, x10] (.int (nI 3) :: st) h := R_iconst d_X8_isIt_52 (by decide)
theorem d_X8_isIt_53 : decode (mB M_X8_isIt) 53 = .ok (.iload_n 3, 1) := by decide +kernel
theorem r_X8_isIt_53 {x0 x1 x2 x4 x5 x6 x7 x8 x9 x10 : Value} {a : Int32} {st : List Value} {h : AH} : Run M_X8_isIt 53 [x0, x1, x2, .int a, x4, x5, x6, x7, x8, x9, x10] st h = Run M_X8_isIt 54 [x0, x1, x2, .int a, x4, x5, x6, x7, x8, x9, x10] (.int a :: st) h := R_iload_n d_X8_isIt_53 rfl
theorem d_X8_isIt_54 : decode (mB M_X8_isIt) 54 = .ok (.invokevirtual 236, 3) := by decide +kernel
theorem r_X8_isIt_54 {x0 x1 x2 x3 x4 x5 x6 x7 x8 x9 x10 : Value} {p0 : Int32} {p1 : Int32} {a : Nat} {w0 : Value} {h : AH} : Run M_X8_isIt 54 [x0, x1, x2, x3, x4, x5, x6, x7, x8, x9, x10] (.int p1 :: .int p0 :: .ref a :: [w0]) h = if refO h 0 (some (.ref a)) = true then (if (Call M_X0_showing h [.ref a, .int p0, .int p1]).isSome = true then Run M_X8_isIt 57 [x0, x1, x2, x3, x4, x5, x6, x7, x8, x9, x10] (rL (Call M_X0_showing h [.ref a, .int p0, .int p1]) ++ [w0]) (cH (Call M_X0_showing h [.ref a, .int p0, .int p1])) else none) else none := R_virt d_X8_isIt_54 rfl rfl rfl rfl rfl (Nat.le_of_ble_eq_true rfl)
theorem d_X8_isIt_57 : decode (mB M_X8_isIt) 57 = .ok (.i2l, 1) := by decide +kernel
theorem r_X8_isIt_57 {x0 x1 x2 x3 x4 x5 x6 x7 x8 x9 x10 : Value} {x : Int32} {st : List Value} {h : AH} : Run M_X8_isIt 57 [x0, x1, x2, x3, x4, x5, x6, x7, x8, x9, x10] (.int x :: st) h = Run M_X8_isIt 58 [x0, x1, x2, x3, x4, x5, x6, x7, x8, x9, x10] (.long x.toInt64 :: st) h := R_i2l d_X8_isIt_57
theorem d_X8_isIt_58 : decode (mB M_X8_isIt) 58 = .ok (.lmul, 1) := by decide +kernel
theorem r_X8_isIt_58 {x0 x1 x2 x3 x4 x5 x6 x7 x8 x9 x10 : Value} {x y : Int64} {st : List Value} {h : AH} : Run M_X8_isIt 58 [x0, x1, x2, x3, x4, x5, x6, x7, x8, x9, x10] (.long y :: .long x :: st) h = Run M_X8_isIt 59 [x0, x1, x2, x3, x4, x5, x6, x7, x8, x9, x10] (.long (x * y) :: st) h := R_lmul d_X8_isIt_58
theorem d_X8_isIt_59 : decode (mB M_X8_isIt) 59 = .ok (.lstore 5, 2) := by decide +kernel
theorem r_X8_isIt_59 {x0 x1 x2 x3 x4 x5 x6 x7 x8 x9 x10 : Value} {a : Int64} {st : List Value} {h : AH} (hc : x4.category = 1) : Run M_X8_isIt 59 [x0, x1, x2, x3, x4, x5, x6, x7, x8, x9, x10] (.long a :: st) h = Run M_X8_isIt 61 [x0, x1, x2, x3, x4, .long a, .null, x7, x8, x9, x10] st h := R_lstore d_X8_isIt_59 (Nat.lt_of_lt_of_le (by decide : 6 < 11) (Nat.le_refl 11)) (catP_of rfl hc)
theorem d_X8_isIt_61 : decode (mB M_X8_isIt) 61 = .ok (.aload_n 0, 1) := by decide +kernel
theorem r_X8_isIt_61 {x1 x2 x3 x4 x5 x6 x7 x8 x9 x10 : Value} {a : Nat} {st : List Value} {h : AH} : Run M_X8_isIt 61 [.ref a, x1, x2, x3, x4, x5, x6, x7, x8, x9, x10] st h = Run M_X8_isIt 62 [.ref a, x1, x2, x3, x4, x5, x6, x7, x8, x9, x10] (.ref a :: st) h := R_aload_n d_X8_isIt_61 rfl
theorem d_X8_isIt_62 : decode (mB M_X8_isIt) 62 = .ok (.iconst 2, 1) := by decide +kernel
theorem r_X8_isIt_62 {x0 x1 x2 x3 x4 x5 x6 x7 x8 x9 x10 : Value} {st : List Value} {h : AH} : Run M_X8_isIt 62 [x0, x1, x2, x3, x4, x5, x6, x7, x8, x9, x10] st h = Run M_X8_isIt 63 [x0, x1, x2, x3, x4, x5, x6, x7, x8, x9, x10] (.int (nI 2) :: st) h := R_iconst d_X8_isIt_62 (by decide)
theorem d_X8_isIt_63 : decode (mB M_X8_isIt) 63 = .ok (.iload_n 1, 1) := by decide +kernel
theorem r_X8_isIt_63 {x0 x2 x3 x4 x5 x6 x7 x8 x9 x10 : Value} {a : Int32} {st : List Value} {h : AH} : Run M_X8_isIt 63 [x0, .int a, x2, x3, x4, x5, x6, x7, x8, x9, x10] st h = Run M_X8_isIt 64 [x0, .int a, x2, x3, x4, x5, x6, x7, x8, x9, x10] (.int a :: st) h := R_iload_n d_X8_isIt_63 rfl
theorem d_X8_isIt_64 : decode (mB M_X8_isIt) 64 = .ok (.iload_n 2, 1) := by decide +kernel
theorem r_X8_isIt_64 {x0 x1 x3 x4 x5 x6 x7 x8 x9 x10 : Value} {a : Int32} {st : List Value} {h : AH} : Run M_X8_isIt 64 [x0, x1, .int a, x3, x4, x5, x6, x7, x8, x9, x10] st h = Run M_X8_isIt 65 [x0, x1, .int a, x3, x4, x5, x6, x7, x8, x9, x10] (.int a :: st) h := R_iload_n d_X8_isIt_64 rfl
theorem d_X8_isIt_65 : decode (mB M_X8_isIt) 65 = .ok (.invokevirtual 232, 3) := by decide +kernel
theorem r_X8_isIt_65 {x0 x1 x2 x3 x4 x5 x6 x7 x8 x9 x10 : Value} {p0 : Int32} {p1 : Int32} {p2 : Int32} {a : Nat} {h : AH} : Run M_X8_isIt 65 [x0, x1, x2, x3, x4, x5, x6, x7, x8, x9, x10] (.int p2 :: .int p1 :: .int p0 :: .ref a :: []) h = if refO h 8 (some (.ref a)) = true then (if (Call M_X8_goingOn h [.ref a, .int p0, .int p1, .int p2]).isSome = true then Run M_X8_isIt 68 [x0, x1, x2, x3, x4, x5, x6, x7, x8, x9, x10] (rL (Call M_X8_goingOn h [.ref a, .int p0, .int p1, .int p2]) ++ []) (cH (Call M_X8_goingOn h [.ref a, .int p0, .int p1, .int p2])) else none) else none := R_virt d_X8_isIt_65 rfl rfl rfl rfl rfl (Nat.le_of_ble_eq_true rfl)
theorem d_X8_isIt_68 : decode (mB M_X8_isIt) 68 = .ok (.aload_n 0, 1) := by decide +kernel
theorem r_X8_isIt_68 {x1 x2 x3 x4 x5 x6 x7 x8 x9 x10 : Value} {a : Nat} {st : List Value} {h : AH} : Run M_X8_isIt 68 [.ref a, x1, x2, x3, x4, x5, x6, x7, x8, x9, x10] st h = Run M_X8_isIt 69 [.ref a, x1, x2, x3, x4, x5, x6, x7, x8, x9, x10] (.ref a :: st) h := R_aload_n d_X8_isIt_68 rfl
theorem d_X8_isIt_69 : decode (mB M_X8_isIt) 69 = .ok (.getfield 57, 3) := by decide +kernel
theorem r_X8_isIt_69 {x0 x1 x2 x3 x4 x5 x6 x7 x8 x9 x10 : Value} {a : Nat} {st : List Value} {h : AH} : Run M_X8_isIt 69 [x0, x1, x2, x3, x4, x5, x6, x7, x8, x9, x10] (.ref a :: st) h = if (gF h a 8 7).isSome = true then Run M_X8_isIt 72 [x0, x1, x2, x3, x4, x5, x6, x7, x8, x9, x10] ((gF h a 8 7).getD .null :: st) h else none := R_getfield d_X8_isIt_69 rfl
theorem d_X8_isIt_72 : decode (mB M_X8_isIt) 72 = .ok (.getfield 92, 3) := by decide +kernel
theorem r_X8_isIt_72 {x0 x1 x2 x3 x4 x5 x6 x7 x8 x9 x10 : Value} {a : Nat} {st : List Value} {h : AH} : Run M_X8_isIt 72 [x0, x1, x2, x3, x4, x5, x6, x7, x8, x9, x10] (.ref a :: st) h = if (gF h a 4 6).isSome = true then Run M_X8_isIt 75 [x0, x1, x2, x3, x4, x5, x6, x7, x8, x9, x10] ((gF h a 4 6).getD .null :: st) h else none := R_getfield d_X8_isIt_72 rfl
theorem d_X8_isIt_75 : decode (mB M_X8_isIt) 75 = .ok (.iconst 2, 1) := by decide +kernel
theorem r_X8_isIt_75 {x0 x1 x2 x3 x4 x5 x6 x7 x8 x9 x10 : Value} {st : List Value} {h : AH} : Run M_X8_isIt 75 [x0, x1, x2, x3, x4, x5, x6, x7, x8, x9, x10] st h = Run M_X8_isIt 76 [x0, x1, x2, x3, x4, x5, x6, x7, x8, x9, x10] (.int (nI 2) :: st) h := R_iconst d_X8_isIt_75 (by decide)
theorem d_X8_isIt_76 : decode (mB M_X8_isIt) 76 = .ok (.iload_n 3, 1) := by decide +kernel
theorem r_X8_isIt_76 {x0 x1 x2 x4 x5 x6 x7 x8 x9 x10 : Value} {a : Int32} {st : List Value} {h : AH} : Run M_X8_isIt 76 [x0, x1, x2, .int a, x4, x5, x6, x7, x8, x9, x10] st h = Run M_X8_isIt 77 [x0, x1, x2, .int a, x4, x5, x6, x7, x8, x9, x10] (.int a :: st) h := R_iload_n d_X8_isIt_76 rfl
theorem d_X8_isIt_77 : decode (mB M_X8_isIt) 77 = .ok (.invokevirtual 236, 3) := by decide +kernel
theorem r_X8_isIt_77 {x0 x1 x2 x3 x4 x5 x6 x7 x8 x9 x10 : Value} {p0 : Int32} {p1 : Int32} {a : Nat} {w0 : Value} {h : AH} : Run M_X8_isIt 77 [x0, x1, x2, x3, x4, x5, x6, x7, x8, x9, x10] (.int p1 :: .int p0 :: .ref a :: [w0]) h = if refO h 0 (some (.ref a)) = true then (if (Call M_X0_showing h [.ref a, .int p0, .int p1]).isSome = true then Run M_X8_isIt 80 [x0, x1, x2, x3, x4, x5, x6, x7, x8, x9, x10] (rL (Call M_X0_showing h [.ref a, .int p0, .int p1]) ++ [w0]) (cH (Call M_X0_showing h [.ref a, .int p0, .int p1])) else none) else none := R_virt d_X8_isIt_77 rfl rfl rfl rfl rfl (Nat.le_of_ble_eq_true rfl)
theorem d_X8_isIt_80 : decode (mB M_X8_isIt) 80 = .ok (.i2l, 1) := by decide +kernel
theorem r_X8_isIt_80 {x0 x1 x2 x3 x4 x5 x6 x7 x8 x9 x10 : Value} {x : Int32} {st : List Value} {h : AH} : Run M_X8_isIt 80 [x0, x1, x2, x3, x4, x5, x6, x7, x8, x9, x10] (.int x :: st) h = Run M_X8_isIt 81 [x0, x1, x2, x3, x4, x5, x6, x7, x8, x9, x10] (.long x.toInt64 :: st) h := R_i2l d_X8_isIt_80
theorem d_X8_isIt_81 : decode (mB M_X8_isIt) 81 = .ok (.lmul, 1) := by decide +kernel
theorem r_X8_isIt_81 {x0 x1 x2 x3 x4 x5 x6 x7 x8 x9 x10 : Value} {x y : Int64} {st : List Value} {h : AH} : Run M_X8_isIt 81 [x0, x1, x2, x3, x4, x5, x6, x7, x8, x9, x10] (.long y :: .long x :: st) h = Run M_X8_isIt 82 [x0, x1, x2, x3, x4, x5, x6, x7, x8, x9, x10] (.long (x * y) :: st) h := R_lmul d_X8_isIt_81
theorem d_X8_isIt_82 : decode (mB M_X8_isIt) 82 = .ok (.lstore 7, 2) := by decide +kernel
theorem r_X8_isIt_82 {x0 x1 x2 x3 x4 x5 x6 x7 x8 x9 x10 : Value} {a : Int64} {st : List Value} {h : AH} (hc : x6.category = 1) : Run M_X8_isIt 82 [x0, x1, x2, x3, x4, x5, x6, x7, x8, x9, x10] (.long a :: st) h = Run M_X8_isIt 84 [x0, x1, x2, x3, x4, x5, x6, .long a, .null, x9, x10] st h := R_lstore d_X8_isIt_82 (Nat.lt_of_lt_of_le (by decide : 8 < 11) (Nat.le_refl 11)) (catP_of rfl hc)
theorem d_X8_isIt_84 : decode (mB M_X8_isIt) 84 = .ok (.lload 5, 2) := by decide +kernel
theorem r_X8_isIt_84 {x0 x1 x2 x3 x4 x6 x7 x8 x9 x10 : Value} {a : Int64} {st : List Value} {h : AH} : Run M_X8_isIt 84 [x0, x1, x2, x3, x4, .long a, x6, x7, x8, x9, x10] st h = Run M_X8_isIt 86 [x0, x1, x2, x3, x4, .long a, x6, x7, x8, x9, x10] (.long a :: st) h := R_lload d_X8_isIt_84 rfl
theorem d_X8_isIt_86 : decode (mB M_X8_isIt) 86 = .ok (.lload 7, 2) := by decide +kernel
theorem r_X8_isIt_86 {x0 x1 x2 x3 x4 x5 x6 x8 x9 x10 : Value} {a : Int64} {st : List Value} {h : AH} : Run M_X8_isIt 86 [x0, x1, x2, x3, x4, x5, x6, .long a, x8, x9, x10] st h = Run M_X8_isIt 88 [x0, x1, x2, x3, x4, x5, x6, .long a, x8, x9, x10] (.long a :: st) h := R_lload d_X8_isIt_86 rfl
theorem d_X8_isIt_88 : decode (mB M_X8_isIt) 88 = .ok (.ladd, 1) := by decide +kernel
theorem r_X8_isIt_88 {x0 x1 x2 x3 x4 x5 x6 x7 x8 x9 x10 : Value} {x y : Int64} {st : List Value} {h : AH} : Run M_X8_isIt 88 [x0, x1, x2, x3, x4, x5, x6, x7, x8, x9, x10] (.long y :: .long x :: st) h = Run M_X8_isIt 89 [x0, x1, x2, x3, x4, x5, x6, x7, x8, x9, x10] (.long (x + y) :: st) h := R_ladd d_X8_isIt_88
theorem d_X8_isIt_89 : decode (mB M_X8_isIt) 89 = .ok (.lstore 9, 2) := by decide +kernel
theorem r_X8_isIt_89 {x0 x1 x2 x3 x4 x5 x6 x7 x8 x9 x10 : Value} {a : Int64} {st : List Value} {h : AH} (hc : x8.category = 1) : Run M_X8_isIt 89 [x0, x1, x2, x3, x4, x5, x6, x7, x8, x9, x10] (.long a :: st) h = Run M_X8_isIt 91 [x0, x1, x2, x3, x4, x5, x6, x7, x8, .long a, .null] st h := R_lstore d_X8_isIt_89 (Nat.lt_of_lt_of_le (by decide : 10 < 11) (Nat.le_refl 11)) (catP_of rfl hc)
theorem d_X8_isIt_91 : decode (mB M_X8_isIt) 91 = .ok (.lload 9, 2) := by decide +kernel
theorem r_X8_isIt_91 {x0 x1 x2 x3 x4 x5 x6 x7 x8 x10 : Value} {a : Int64} {st : List Value} {h : AH} : Run M_X8_isIt 91 [x0, x1, x2, x3, x4, x5, x6, x7, x8, .long a, x10] st h = Run M_X8_isIt 93 [x0, x1, x2, x3, x4, x5, x6, x7, x8, .long a, x10] (.long a :: st) h := R_lload d_X8_isIt_91 rfl
theorem d_X8_isIt_93 : decode (mB M_X8_isIt) 93 = .ok (.lconst 0, 1) := by decide +kernel
theorem r_X8_isIt_93 {x0 x1 x2 x3 x4 x5 x6 x7 x8 x9 x10 : Value} {st : List Value} {h : AH} : Run M_X8_isIt 93 [x0, x1, x2, x3, x4, x5, x6, x7, x8, x9, x10] st h = Run M_X8_isIt 94 [x0, x1, x2, x3, x4, x5, x6, x7, x8, x9, x10] (.long (lN 0) :: st) h := R_lconst d_X8_isIt_93 (by decide)
theorem d_X8_isIt_94 : decode (mB M_X8_isIt) 94 = .ok (.lcmp, 1) := by decide +kernel
theorem r_X8_isIt_94 {x0 x1 x2 x3 x4 x5 x6 x7 x8 x9 x10 : Value} {x y : Int64} {st : List Value} {h : AH} : Run M_X8_isIt 94 [x0, x1, x2, x3, x4, x5, x6, x7, x8, x9, x10] (.long y :: .long x :: st) h = Run M_X8_isIt 95 [x0, x1, x2, x3, x4, x5, x6, x7, x8, x9, x10] (.int (lg_cmp x y) :: st) h := R_lcmp d_X8_isIt_94
theorem d_X8_isIt_95 : decode (mB M_X8_isIt) 95 = .ok (.ifCond .ne 9, 3) := by decide +kernel
theorem r_X8_isIt_95 {x0 x1 x2 x3 x4 x5 x6 x7 x8 x9 x10 : Value} {x : Int32} {st : List Value} {h : AH} : Run M_X8_isIt 95 [x0, x1, x2, x3, x4, x5, x6, x7, x8, x9, x10] (.int x :: st) h = if x = nI 0 then Run M_X8_isIt 98 [x0, x1, x2, x3, x4, x5, x6, x7, x8, x9, x10] st h else Run M_X8_isIt 104 [x0, x1, x2, x3, x4, x5, x6, x7, x8, x9, x10] st h := R_if_ne d_X8_isIt_95 (by decide)
theorem d_X8_isIt_98 : decode (mB M_X8_isIt) 98 = .ok (.ldc2_w 240, 3) := by decide +kernel
theorem r_X8_isIt_98 {x0 x1 x2 x3 x4 x5 x6 x7 x8 x9 x10 : Value} {st : List Value} {h : AH} : Run M_X8_isIt 98 [x0, x1, x2, x3, x4, x5, x6, x7, x8, x9, x10] st h = Run M_X8_isIt 101 [x0, x1, x2, x3, x4, x5, x6, x7, x8, x9, x10] (.long (-1000000003) :: st) h := R_ldc2_w d_X8_isIt_98 (by decide)
theorem d_X8_isIt_101 : decode (mB M_X8_isIt) 101 = .ok (.goto 12, 3) := by decide +kernel
theorem r_X8_isIt_101 {x0 x1 x2 x3 x4 x5 x6 x7 x8 x9 x10 : Value} {st : List Value} {h : AH} : Run M_X8_isIt 101 [x0, x1, x2, x3, x4, x5, x6, x7, x8, x9, x10] st h = Run M_X8_isIt 113 [x0, x1, x2, x3, x4, x5, x6, x7, x8, x9, x10] st h := R_goto d_X8_isIt_101 (by decide)
theorem d_X8_isIt_104 : decode (mB M_X8_isIt) 104 = .ok (.lload 5, 2) := by decide +kernel
theorem r_X8_isIt_104 {x0 x1 x2 x3 x4 x6 x7 x8 x9 x10 : Value} {a : Int64} {st : List Value} {h : AH} : Run M_X8_isIt 104 [x0, x1, x2, x3, x4, .long a, x6, x7, x8, x9, x10] st h = Run M_X8_isIt 106 [x0, x1, x2, x3, x4, .long a, x6, x7, x8, x9, x10] (.long a :: st) h := R_lload d_X8_isIt_104 rfl
theorem d_X8_isIt_106 : decode (mB M_X8_isIt) 106 = .ok (.lload 9, 2) := by decide +kernel
theorem r_X8_isIt_106 {x0 x1 x2 x3 x4 x5 x6 x7 x8 x10 : Value} {a : Int64} {st : List Value} {h : AH} : Run M_X8_isIt 106 [x0, x1, x2, x3, x4, x5, x6, x7, x8, .long a, x10] st h = Run M_X8_isIt 108 [x0, x1, x2, x3, x4, x5, x6, x7, x8, .long a, x10] (.long a :: st) h := R_lload d_X8_isIt_106 rfl
theorem d_X8_isIt_108 : decode (mB M_X8_isIt) 108 = .ok (.iload 4, 2) := by decide +kernel
theorem r_X8_isIt_108 {x0 x1 x2 x3 x5 x6 x7 x8 x9 x10 : Value} {a : Int32} {st : List Value} {h : AH} : Run M_X8_isIt 108 [x0, x1, x2, x3, .int a, x5, x6, x7, x8, x9, x10] st h = Run M_X8_isIt 110 [x0, x1, x2, x3, .int a, x5, x6, x7, x8, x9, x10] (.int a :: st) h := R_iload d_X8_isIt_108 rfl
theorem d_X8_isIt_110 : decode (mB M_X8_isIt) 110 = .ok (.invokestatic 204, 3) := by decide +kernel
theorem r_X8_isIt_110 {x0 x1 x2 x3 x4 x5 x6 x7 x8 x9 x10 : Value} {p0 : Int64} {p1 : Int64} {p2 : Int32} {h : AH} : Run M_X8_isIt 110 [x0, x1, x2, x3, x4, x5, x6, x7, x8, x9, x10] (.int p2 :: .long p1 :: .long p0 :: []) h = if (Call M_X8_inLowest h [.long p0, .long p1, .int p2]).isSome = true then Run M_X8_isIt 113 [x0, x1, x2, x3, x4, x5, x6, x7, x8, x9, x10] (rL (Call M_X8_inLowest h [.long p0, .long p1, .int p2]) ++ []) (cH (Call M_X8_inLowest h [.long p0, .long p1, .int p2])) else none := R_stat d_X8_isIt_110 rfl rfl rfl rfl (Nat.le_of_ble_eq_true rfl)
theorem d_X8_isIt_113 : decode (mB M_X8_isIt) 113 = .ok (.lreturn, 1) := by decide +kernel
theorem r_X8_isIt_113 {x0 x1 x2 x3 x4 x5 x6 x7 x8 x9 x10 : Value} {v : Int64} {h : AH} : Run M_X8_isIt 113 [x0, x1, x2, x3, x4, x5, x6, x7, x8, x9, x10] [.long v] h = some (h, some (.long v)) := R_lreturn d_X8_isIt_113 rfl
theorem d_X8_go_0 : decode (mB M_X8_go) 0 = .ok (.iload_n 1, 1) := by decide +kernel
theorem r_X8_go_0 {x0 x2 : Value} {a : Int32} {st : List Value} {h : AH} : Run M_X8_go 0 [x0, .int a, x2] st h = Run M_X8_go 1 [x0, .int a, x2] (.int a :: st) h := R_iload_n d_X8_go_0 rfl
theorem d_X8_go_1 : decode (mB M_X8_go) 1 = .ok (.invokestatic 188, 3) := by decide +kernel
theorem r_X8_go_1 {x0 x1 x2 : Value} {p0 : Int32} {h : AH} : Run M_X8_go 1 [x0, x1, x2] (.int p0 :: []) h = if (Call M_X8_isTenth h [.int p0]).isSome = true then Run M_X8_go 4 [x0, x1, x2] (rL (Call M_X8_isTenth h [.int p0]) ++ []) (cH (Call M_X8_isTenth h [.int p0])) else none := R_stat d_X8_go_1 rfl rfl rfl rfl (Nat.le_of_ble_eq_true rfl)
theorem d_X8_go_4 : decode (mB M_X8_go) 4 = .ok (.ifCond .eq 10, 3) := by decide +kernel
theorem r_X8_go_4 {x0 x1 x2 : Value} {x : Int32} {st : List Value} {h : AH} : Run M_X8_go 4 [x0, x1, x2] (.int x :: st) h = if x = nI 0 then Run M_X8_go 14 [x0, x1, x2] st h else Run M_X8_go 7 [x0, x1, x2] st h := R_if_eq d_X8_go_4 (by decide)
theorem d_X8_go_7 : decode (mB M_X8_go) 7 = .ok (.iload_n 2, 1) := by decide +kernel
theorem r_X8_go_7 {x0 x1 : Value} {a : Int32} {st : List Value} {h : AH} : Run M_X8_go 7 [x0, x1, .int a] st h = Run M_X8_go 8 [x0, x1, .int a] (.int a :: st) h := R_iload_n d_X8_go_7 rfl
theorem d_X8_go_8 : decode (mB M_X8_go) 8 = .ok (.invokestatic 191, 3) := by decide +kernel
theorem r_X8_go_8 {x0 x1 x2 : Value} {p0 : Int32} {h : AH} : Run M_X8_go 8 [x0, x1, x2] (.int p0 :: []) h = if (Call M_X8_isSide h [.int p0]).isSome = true then Run M_X8_go 11 [x0, x1, x2] (rL (Call M_X8_isSide h [.int p0]) ++ []) (cH (Call M_X8_isSide h [.int p0])) else none := R_stat d_X8_go_8 rfl rfl rfl rfl (Nat.le_of_ble_eq_true rfl)
theorem d_X8_go_11 : decode (mB M_X8_go) 11 = .ok (.ifCond .ne 7, 3) := by decide +kernel
theorem r_X8_go_11 {x0 x1 x2 : Value} {x : Int32} {st : List Value} {h : AH} : Run M_X8_go 11 [x0, x1, x2] (.int x :: st) h = if x = nI 0 then Run M_X8_go 14 [x0, x1, x2] st h else Run M_X8_go 18 [x0, x1, x2] st h := R_if_ne d_X8_go_11 (by decide)
theorem d_X8_go_14 : decode (mB M_X8_go) 14 = .ok (.ldc2_w 194, 3) := by decide +kernel
theorem r_X8_go_14 {x0 x1 x2 : Value} {st : List Value} {h : AH} : Run M_X8_go 14 [x0, x1, x2] st h = Run M_X8_go 17 [x0, x1, x2] (.long (-1000000002) :: st) h := R_ldc2_w d_X8_go_14 (by decide)
theorem d_X8_go_17 : decode (mB M_X8_go) 17 = .ok (.lreturn, 1) := by decide +kernel
theorem r_X8_go_17 {x0 x1 x2 : Value} {v : Int64} {h : AH} : Run M_X8_go 17 [x0, x1, x2] [.long v] h = some (h, some (.long v)) := R_lreturn d_X8_go_17 rfl
theorem d_X8_go_18 : decode (mB M_X8_go) 18 = .ok (.aload_n 0, 1) := by decide +kernel
theorem r_X8_go_18 {x1 x2 : Value} {a : Nat} {st : List Value} {h : AH} : Run M_X8_go 18 [.ref a, x1, x2] st h = Run M_X8_go 19 [.ref a, x1, x2] (.ref a :: st) h := R_aload_n d_X8_go_18 rfl
theorem d_X8_go_19 : decode (mB M_X8_go) 19 = .ok (.iload_n 1, 1) := by decide +kernel
theorem r_X8_go_19 {x0 x2 : Value} {a : Int32} {st : List Value} {h : AH} : Run M_X8_go 19 [x0, .int a, x2] st h = Run M_X8_go 20 [x0, .int a, x2] (.int a :: st) h := R_iload_n d_X8_go_19 rfl
theorem d_X8_go_20 : decode (mB M_X8_go) 20 = .ok (.invokevirtual 242, 3) := by decide +kernel
theorem r_X8_go_20 {x0 x1 x2 : Value} {p0 : Int32} {a : Nat} {h : AH} : Run M_X8_go 20 [x0, x1, x2] (.int p0 :: .ref a :: []) h = if refO h 8 (some (.ref a)) = true then (if (Call M_X8_goCost h [.ref a, .int p0]).isSome = true then Run M_X8_go 23 [x0, x1, x2] (rL (Call M_X8_goCost h [.ref a, .int p0]) ++ []) (cH (Call M_X8_goCost h [.ref a, .int p0])) else none) else none := R_virt d_X8_go_20 rfl rfl rfl rfl rfl (Nat.le_of_ble_eq_true rfl)
theorem d_X8_go_23 : decode (mB M_X8_go) 23 = .ok (.aload_n 0, 1) := by decide +kernel
theorem r_X8_go_23 {x1 x2 : Value} {a : Nat} {st : List Value} {h : AH} : Run M_X8_go 23 [.ref a, x1, x2] st h = Run M_X8_go 24 [.ref a, x1, x2] (.ref a :: st) h := R_aload_n d_X8_go_23 rfl
theorem d_X8_go_24 : decode (mB M_X8_go) 24 = .ok (.getfield 19, 3) := by decide +kernel
theorem r_X8_go_24 {x0 x1 x2 : Value} {a : Nat} {st : List Value} {h : AH} : Run M_X8_go 24 [x0, x1, x2] (.ref a :: st) h = if (gF h a 8 1).isSome = true then Run M_X8_go 27 [x0, x1, x2] ((gF h a 8 1).getD .null :: st) h else none := R_getfield d_X8_go_24 rfl
theorem d_X8_go_27 : decode (mB M_X8_go) 27 = .ok (.invokevirtual 200, 3) := by decide +kernel
theorem r_X8_go_27 {x0 x1 x2 : Value} {a : Nat} {w0 : Value} {h : AH} : Run M_X8_go 27 [x0, x1, x2] (.ref a :: [w0]) h = if refO h 2 (some (.ref a)) = true then (if (Call M_X2_all h [.ref a]).isSome = true then Run M_X8_go 30 [x0, x1, x2] (rL (Call M_X2_all h [.ref a]) ++ [w0]) (cH (Call M_X2_all h [.ref a])) else none) else none := R_virt d_X8_go_27 rfl rfl rfl rfl rfl (Nat.le_of_ble_eq_true rfl)
theorem d_X8_go_30 : decode (mB M_X8_go) 30 = .ok (.iload_n 2, 1) := by decide +kernel
theorem r_X8_go_30 {x0 x1 : Value} {a : Int32} {st : List Value} {h : AH} : Run M_X8_go 30 [x0, x1, .int a] st h = Run M_X8_go 31 [x0, x1, .int a] (.int a :: st) h := R_iload_n d_X8_go_30 rfl
theorem d_X8_go_31 : decode (mB M_X8_go) 31 = .ok (.invokestatic 204, 3) := by decide +kernel
theorem r_X8_go_31 {x0 x1 x2 : Value} {p0 : Int64} {p1 : Int64} {p2 : Int32} {h : AH} : Run M_X8_go 31 [x0, x1, x2] (.int p2 :: .long p1 :: .long p0 :: []) h = if (Call M_X8_inLowest h [.long p0, .long p1, .int p2]).isSome = true then Run M_X8_go 34 [x0, x1, x2] (rL (Call M_X8_inLowest h [.long p0, .long p1, .int p2]) ++ []) (cH (Call M_X8_inLowest h [.long p0, .long p1, .int p2])) else none := R_stat d_X8_go_31 rfl rfl rfl rfl (Nat.le_of_ble_eq_true rfl)
theorem d_X8_go_34 : decode (mB M_X8_go) 34 = .ok (.lreturn, 1) := by decide +kernel
theorem r_X8_go_34 {x0 x1 x2 : Value} {v : Int64} {h : AH} : Run M_X8_go 34 [x0, x1, x2] [.long v] h = some (h, some (.long v)) := R_lreturn d_X8_go_34 rfl
theorem d_X8_bestGo_0 : decode (mB M_X8_bestGo) 0 = .ok (.aload_n 0, 1) := by decide +kernel
theorem r_X8_bestGo_0 {a : Nat} {st : List Value} {h : AH} : Run M_X8_bestGo 0 [.ref a] st h = Run M_X8_bestGo 1 [.ref a] (.ref a :: st) h := R_aload_n d_X8_bestGo_0 rfl
theorem d_X8_bestGo_1 : decode (mB M_X8_bestGo) 1 = .ok (.invokevirtual 181, 3) := by decide +kernel
theorem r_X8_bestGo_1 {x0 : Value} {a : Nat} {h : AH} : Run M_X8_bestGo 1 [x0] (.ref a :: []) h = if refO h 8 (some (.ref a)) = true then (if (Call M_X8_cheapestGo h [.ref a]).isSome = true then Run M_X8_bestGo 4 [x0] (rL (Call M_X8_cheapestGo h [.ref a]) ++ []) (cH (Call M_X8_cheapestGo h [.ref a])) else none) else none := R_virt d_X8_bestGo_1 rfl rfl rfl rfl rfl (Nat.le_of_ble_eq_true rfl)
theorem d_X8_bestGo_4 : decode (mB M_X8_bestGo) 4 = .ok (.ireturn, 1) := by decide +kernel
theorem r_X8_bestGo_4 {x0 : Value} {v : Int32} {h : AH} : Run M_X8_bestGo 4 [x0] [.int v] h = some (h, some (.int v)) := R_ireturn d_X8_bestGo_4 rfl rfl
theorem d_X8_lift_0 : decode (mB M_X8_lift) 0 = .ok (.iload_n 1, 1) := by decide +kernel
theorem r_X8_lift_0 {x0 x2 x3 x4 x5 : Value} {a : Int32} {st : List Value} {h : AH} : Run M_X8_lift 0 [x0, .int a, x2, x3, x4, x5] st h = Run M_X8_lift 1 [x0, .int a, x2, x3, x4, x5] (.int a :: st) h := R_iload_n d_X8_lift_0 rfl
theorem d_X8_lift_1 : decode (mB M_X8_lift) 1 = .ok (.invokestatic 188, 3) := by decide +kernel
theorem r_X8_lift_1 {x0 x1 x2 x3 x4 x5 : Value} {p0 : Int32} {h : AH} : Run M_X8_lift 1 [x0, x1, x2, x3, x4, x5] (.int p0 :: []) h = if (Call M_X8_isTenth h [.int p0]).isSome = true then Run M_X8_lift 4 [x0, x1, x2, x3, x4, x5] (rL (Call M_X8_isTenth h [.int p0]) ++ []) (cH (Call M_X8_isTenth h [.int p0])) else none := R_stat d_X8_lift_1 rfl rfl rfl rfl (Nat.le_of_ble_eq_true rfl)
theorem d_X8_lift_4 : decode (mB M_X8_lift) 4 = .ok (.ifCond .eq 20, 3) := by decide +kernel
theorem r_X8_lift_4 {x0 x1 x2 x3 x4 x5 : Value} {x : Int32} {st : List Value} {h : AH} : Run M_X8_lift 4 [x0, x1, x2, x3, x4, x5] (.int x :: st) h = if x = nI 0 then Run M_X8_lift 24 [x0, x1, x2, x3, x4, x5] st h else Run M_X8_lift 7 [x0, x1, x2, x3, x4, x5] st h := R_if_eq d_X8_lift_4 (by decide)
theorem d_X8_lift_7 : decode (mB M_X8_lift) 7 = .ok (.iload_n 2, 1) := by decide +kernel
theorem r_X8_lift_7 {x0 x1 x3 x4 x5 : Value} {a : Int32} {st : List Value} {h : AH} : Run M_X8_lift 7 [x0, x1, .int a, x3, x4, x5] st h = Run M_X8_lift 8 [x0, x1, .int a, x3, x4, x5] (.int a :: st) h := R_iload_n d_X8_lift_7 rfl
theorem d_X8_lift_8 : decode (mB M_X8_lift) 8 = .ok (.iconst 0, 1) := by decide +kernel
theorem r_X8_lift_8 {x0 x1 x2 x3 x4 x5 : Value} {st : List Value} {h : AH} : Run M_X8_lift 8 [x0, x1, x2, x3, x4, x5] st h = Run M_X8_lift 9 [x0, x1, x2, x3, x4, x5] (.int (nI 0) :: st) h := R_iconst d_X8_lift_8 (by decide)
theorem d_X8_lift_9 : decode (mB M_X8_lift) 9 = .ok (.bipush 60, 2) := by decide +kernel
theorem r_X8_lift_9 {x0 x1 x2 x3 x4 x5 : Value} {st : List Value} {h : AH} : Run M_X8_lift 9 [x0, x1, x2, x3, x4, x5] st h = Run M_X8_lift 11 [x0, x1, x2, x3, x4, x5] (.int (nI 60) :: st) h := R_bipush d_X8_lift_9 (by decide)
theorem d_X8_lift_11 : decode (mB M_X8_lift) 11 = .ok (.invokestatic 65, 3) := by decide +kernel
theorem r_X8_lift_11 {x0 x1 x2 x3 x4 x5 : Value} {p0 : Int32} {p1 : Int32} {p2 : Int32} {h : AH} : Run M_X8_lift 11 [x0, x1, x2, x3, x4, x5] (.int p2 :: .int p1 :: .int p0 :: []) h = if (Call M_X8_within h [.int p0, .int p1, .int p2]).isSome = true then Run M_X8_lift 14 [x0, x1, x2, x3, x4, x5] (rL (Call M_X8_within h [.int p0, .int p1, .int p2]) ++ []) (cH (Call M_X8_within h [.int p0, .int p1, .int p2])) else none := R_stat d_X8_lift_11 rfl rfl rfl rfl (Nat.le_of_ble_eq_true rfl)
theorem d_X8_lift_14 : decode (mB M_X8_lift) 14 = .ok (.ifCond .eq 10, 3) := by decide +kernel
theorem r_X8_lift_14 {x0 x1 x2 x3 x4 x5 : Value} {x : Int32} {st : List Value} {h : AH} : Run M_X8_lift 14 [x0, x1, x2, x3, x4, x5] (.int x :: st) h = if x = nI 0 then Run M_X8_lift 24 [x0, x1, x2, x3, x4, x5] st h else Run M_X8_lift 17 [x0, x1, x2, x3, x4, x5] st h := R_if_eq d_X8_lift_14 (by decide)
theorem d_X8_lift_17 : decode (mB M_X8_lift) 17 = .ok (.iload_n 3, 1) := by decide +kernel
theorem r_X8_lift_17 {x0 x1 x2 x4 x5 : Value} {a : Int32} {st : List Value} {h : AH} : Run M_X8_lift 17 [x0, x1, x2, .int a, x4, x5] st h = Run M_X8_lift 18 [x0, x1, x2, .int a, x4, x5] (.int a :: st) h := R_iload_n d_X8_lift_17 rfl
theorem d_X8_lift_18 : decode (mB M_X8_lift) 18 = .ok (.invokestatic 191, 3) := by decide +kernel
theorem r_X8_lift_18 {x0 x1 x2 x3 x4 x5 : Value} {p0 : Int32} {h : AH} : Run M_X8_lift 18 [x0, x1, x2, x3, x4, x5] (.int p0 :: []) h = if (Call M_X8_isSide h [.int p0]).isSome = true then Run M_X8_lift 21 [x0, x1, x2, x3, x4, x5] (rL (Call M_X8_isSide h [.int p0]) ++ []) (cH (Call M_X8_isSide h [.int p0])) else none := R_stat d_X8_lift_18 rfl rfl rfl rfl (Nat.le_of_ble_eq_true rfl)
theorem d_X8_lift_21 : decode (mB M_X8_lift) 21 = .ok (.ifCond .ne 7, 3) := by decide +kernel
theorem r_X8_lift_21 {x0 x1 x2 x3 x4 x5 : Value} {x : Int32} {st : List Value} {h : AH} : Run M_X8_lift 21 [x0, x1, x2, x3, x4, x5] (.int x :: st) h = if x = nI 0 then Run M_X8_lift 24 [x0, x1, x2, x3, x4, x5] st h else Run M_X8_lift 28 [x0, x1, x2, x3, x4, x5] st h := R_if_ne d_X8_lift_21 (by decide)
theorem d_X8_lift_24 : decode (mB M_X8_lift) 24 = .ok (.ldc2_w 194, 3) := by decide +kernel
theorem r_X8_lift_24 {x0 x1 x2 x3 x4 x5 : Value} {st : List Value} {h : AH} : Run M_X8_lift 24 [x0, x1, x2, x3, x4, x5] st h = Run M_X8_lift 27 [x0, x1, x2, x3, x4, x5] (.long (-1000000002) :: st) h := R_ldc2_w d_X8_lift_24 (by decide)
theorem d_X8_lift_27 : decode (mB M_X8_lift) 27 = .ok (.lreturn, 1) := by decide +kernel
theorem r_X8_lift_27 {x0 x1 x2 x3 x4 x5 : Value} {v : Int64} {h : AH} : Run M_X8_lift 27 [x0, x1, x2, x3, x4, x5] [.long v] h = some (h, some (.long v)) := R_lreturn d_X8_lift_27 rfl
theorem d_X8_lift_28 : decode (mB M_X8_lift) 28 = .ok (.aload_n 0, 1) := by decide +kernel
theorem r_X8_lift_28 {x1 x2 x3 x4 x5 : Value} {a : Nat} {st : List Value} {h : AH} : Run M_X8_lift 28 [.ref a, x1, x2, x3, x4, x5] st h = Run M_X8_lift 29 [.ref a, x1, x2, x3, x4, x5] (.ref a :: st) h := R_aload_n d_X8_lift_28 rfl
theorem d_X8_lift_29 : decode (mB M_X8_lift) 29 = .ok (.getfield 19, 3) := by decide +kernel
theorem r_X8_lift_29 {x0 x1 x2 x3 x4 x5 : Value} {a : Nat} {st : List Value} {h : AH} : Run M_X8_lift 29 [x0, x1, x2, x3, x4, x5] (.ref a :: st) h = if (gF h a 8 1).isSome = true then Run M_X8_lift 32 [x0, x1, x2, x3, x4, x5] ((gF h a 8 1).getD .null :: st) h else none := R_getfield d_X8_lift_29 rfl
theorem d_X8_lift_32 : decode (mB M_X8_lift) 32 = .ok (.aload_n 0, 1) := by decide +kernel
theorem r_X8_lift_32 {x1 x2 x3 x4 x5 : Value} {a : Nat} {st : List Value} {h : AH} : Run M_X8_lift 32 [.ref a, x1, x2, x3, x4, x5] st h = Run M_X8_lift 33 [.ref a, x1, x2, x3, x4, x5] (.ref a :: st) h := R_aload_n d_X8_lift_32 rfl
theorem d_X8_lift_33 : decode (mB M_X8_lift) 33 = .ok (.getfield 57, 3) := by decide +kernel
theorem r_X8_lift_33 {x0 x1 x2 x3 x4 x5 : Value} {a : Nat} {st : List Value} {h : AH} : Run M_X8_lift 33 [x0, x1, x2, x3, x4, x5] (.ref a :: st) h = if (gF h a 8 7).isSome = true then Run M_X8_lift 36 [x0, x1, x2, x3, x4, x5] ((gF h a 8 7).getD .null :: st) h else none := R_getfield d_X8_lift_33 rfl
theorem d_X8_lift_36 : decode (mB M_X8_lift) 36 = .ok (.getfield 92, 3) := by decide +kernel
theorem r_X8_lift_36 {x0 x1 x2 x3 x4 x5 : Value} {a : Nat} {st : List Value} {h : AH} : Run M_X8_lift 36 [x0, x1, x2, x3, x4, x5] (.ref a :: st) h = if (gF h a 4 6).isSome = true then Run M_X8_lift 39 [x0, x1, x2, x3, x4, x5] ((gF h a 4 6).getD .null :: st) h else none := R_getfield d_X8_lift_36 rfl
theorem d_X8_lift_39 : decode (mB M_X8_lift) 39 = .ok (.getfield 114, 3) := by decide +kernel
theorem r_X8_lift_39 {x0 x1 x2 x3 x4 x5 : Value} {a : Nat} {st : List Value} {h : AH} : Run M_X8_lift 39 [x0, x1, x2, x3, x4, x5] (.ref a :: st) h = if (gF h a 0 2).isSome = true then Run M_X8_lift 42 [x0, x1, x2, x3, x4, x5] ((gF h a 0 2).getD .null :: st) h else none := R_getfield d_X8_lift_39 rfl
theorem d_X8_lift_42 : decode (mB M_X8_lift) 42 = .ok (.aload_n 0, 1) := by decide +kernel
theorem r_X8_lift_42 {x1 x2 x3 x4 x5 : Value} {a : Nat} {st : List Value} {h : AH} : Run M_X8_lift 42 [.ref a, x1, x2, x3, x4, x5] st h = Run M_X8_lift 43 [.ref a, x1, x2, x3, x4, x5] (.ref a :: st) h := R_aload_n d_X8_lift_42 rfl
theorem d_X8_lift_43 : decode (mB M_X8_lift) 43 = .ok (.getfield 57, 3) := by decide +kernel
theorem r_X8_lift_43 {x0 x1 x2 x3 x4 x5 : Value} {a : Nat} {st : List Value} {h : AH} : Run M_X8_lift 43 [x0, x1, x2, x3, x4, x5] (.ref a :: st) h = if (gF h a 8 7).isSome = true then Run M_X8_lift 46 [x0, x1, x2, x3, x4, x5] ((gF h a 8 7).getD .null :: st) h else none := R_getfield d_X8_lift_43 rfl
theorem d_X8_lift_46 : decode (mB M_X8_lift) 46 = .ok (.getfield 92, 3) := by decide +kernel
theorem r_X8_lift_46 {x0 x1 x2 x3 x4 x5 : Value} {a : Nat} {st : List Value} {h : AH} : Run M_X8_lift 46 [x0, x1, x2, x3, x4, x5] (.ref a :: st) h = if (gF h a 4 6).isSome = true then Run M_X8_lift 49 [x0, x1, x2, x3, x4, x5] ((gF h a 4 6).getD .null :: st) h else none := R_getfield d_X8_lift_46 rfl
theorem d_X8_lift_49 : decode (mB M_X8_lift) 49 = .ok (.getfield 111, 3) := by decide +kernel
theorem r_X8_lift_49 {x0 x1 x2 x3 x4 x5 : Value} {a : Nat} {st : List Value} {h : AH} : Run M_X8_lift 49 [x0, x1, x2, x3, x4, x5] (.ref a :: st) h = if (gF h a 0 1).isSome = true then Run M_X8_lift 52 [x0, x1, x2, x3, x4, x5] ((gF h a 0 1).getD .null :: st) h else none := R_getfield d_X8_lift_49 rfl
theorem d_X8_lift_52 : decode (mB M_X8_lift) 52 = .ok (.iload_n 1, 1) := by decide +kernel
theorem r_X8_lift_52 {x0 x2 x3 x4 x5 : Value} {a : Int32} {st : List Value} {h : AH} : Run M_X8_lift 52 [x0, .int a, x2, x3, x4, x5] st h = Run M_X8_lift 53 [x0, .int a, x2, x3, x4, x5] (.int a :: st) h := R_iload_n d_X8_lift_52 rfl
theorem d_X8_lift_53 : decode (mB M_X8_lift) 53 = .ok (.iload_n 2, 1) := by decide +kernel
theorem r_X8_lift_53 {x0 x1 x3 x4 x5 : Value} {a : Int32} {st : List Value} {h : AH} : Run M_X8_lift 53 [x0, x1, .int a, x3, x4, x5] st h = Run M_X8_lift 54 [x0, x1, .int a, x3, x4, x5] (.int a :: st) h := R_iload_n d_X8_lift_53 rfl
theorem d_X8_lift_54 : decode (mB M_X8_lift) 54 = .ok (.invokevirtual 245, 3) := by decide +kernel
theorem r_X8_lift_54 {x0 x1 x2 x3 x4 x5 : Value} {p0 : Int32} {p1 : Int32} {p2 : Int32} {p3 : Int32} {a : Nat} {h : AH} : Run M_X8_lift 54 [x0, x1, x2, x3, x4, x5] (.int p3 :: .int p2 :: .int p1 :: .int p0 :: .ref a :: []) h = if refO h 2 (some (.ref a)) = true then (if (Call M_X2_cost h [.ref a, .int p0, .int p1, .int p2, .int p3]).isSome = true then Run M_X8_lift 57 [x0, x1, x2, x3, x4, x5] (rL (Call M_X2_cost h [.ref a, .int p0, .int p1, .int p2, .int p3]) ++ []) (cH (Call M_X2_cost h [.ref a, .int p0, .int p1, .int p2, .int p3])) else none) else none := R_virt d_X8_lift_54 rfl rfl rfl rfl rfl (Nat.le_of_ble_eq_true rfl)
theorem d_X8_lift_57 : decode (mB M_X8_lift) 57 = .ok (.lstore 4, 2) := by decide +kernel
theorem r_X8_lift_57 {x0 x1 x2 x3 x4 x5 : Value} {a : Int64} {st : List Value} {h : AH} (hc : x3.category = 1) : Run M_X8_lift 57 [x0, x1, x2, x3, x4, x5] (.long a :: st) h = Run M_X8_lift 59 [x0, x1, x2, x3, .long a, .null] st h := R_lstore d_X8_lift_57 (Nat.lt_of_lt_of_le (by decide : 5 < 6) (Nat.le_refl 6)) (catP_of rfl hc)
theorem d_X8_lift_59 : decode (mB M_X8_lift) 59 = .ok (.lload 4, 2) := by decide +kernel
theorem r_X8_lift_59 {x0 x1 x2 x3 x5 : Value} {a : Int64} {st : List Value} {h : AH} : Run M_X8_lift 59 [x0, x1, x2, x3, .long a, x5] st h = Run M_X8_lift 61 [x0, x1, x2, x3, .long a, x5] (.long a :: st) h := R_lload d_X8_lift_59 rfl
theorem d_X8_lift_61 : decode (mB M_X8_lift) 61 = .ok (.aload_n 0, 1) := by decide +kernel
theorem r_X8_lift_61 {x1 x2 x3 x4 x5 : Value} {a : Nat} {st : List Value} {h : AH} : Run M_X8_lift 61 [.ref a, x1, x2, x3, x4, x5] st h = Run M_X8_lift 62 [.ref a, x1, x2, x3, x4, x5] (.ref a :: st) h := R_aload_n d_X8_lift_61 rfl
theorem d_X8_lift_62 : decode (mB M_X8_lift) 62 = .ok (.getfield 19, 3) := by decide +kernel
theorem r_X8_lift_62 {x0 x1 x2 x3 x4 x5 : Value} {a : Nat} {st : List Value} {h : AH} : Run M_X8_lift 62 [x0, x1, x2, x3, x4, x5] (.ref a :: st) h = if (gF h a 8 1).isSome = true then Run M_X8_lift 65 [x0, x1, x2, x3, x4, x5] ((gF h a 8 1).getD .null :: st) h else none := R_getfield d_X8_lift_62 rfl
theorem d_X8_lift_65 : decode (mB M_X8_lift) 65 = .ok (.invokevirtual 200, 3) := by decide +kernel
theorem r_X8_lift_65 {x0 x1 x2 x3 x4 x5 : Value} {a : Nat} {w0 : Value} {h : AH} : Run M_X8_lift 65 [x0, x1, x2, x3, x4, x5] (.ref a :: [w0]) h = if refO h 2 (some (.ref a)) = true then (if (Call M_X2_all h [.ref a]).isSome = true then Run M_X8_lift 68 [x0, x1, x2, x3, x4, x5] (rL (Call M_X2_all h [.ref a]) ++ [w0]) (cH (Call M_X2_all h [.ref a])) else none) else none := R_virt d_X8_lift_65 rfl rfl rfl rfl rfl (Nat.le_of_ble_eq_true rfl)
theorem d_X8_lift_68 : decode (mB M_X8_lift) 68 = .ok (.iload_n 3, 1) := by decide +kernel
theorem r_X8_lift_68 {x0 x1 x2 x4 x5 : Value} {a : Int32} {st : List Value} {h : AH} : Run M_X8_lift 68 [x0, x1, x2, .int a, x4, x5] st h = Run M_X8_lift 69 [x0, x1, x2, .int a, x4, x5] (.int a :: st) h := R_iload_n d_X8_lift_68 rfl
theorem d_X8_lift_69 : decode (mB M_X8_lift) 69 = .ok (.invokestatic 204, 3) := by decide +kernel
theorem r_X8_lift_69 {x0 x1 x2 x3 x4 x5 : Value} {p0 : Int64} {p1 : Int64} {p2 : Int32} {h : AH} : Run M_X8_lift 69 [x0, x1, x2, x3, x4, x5] (.int p2 :: .long p1 :: .long p0 :: []) h = if (Call M_X8_inLowest h [.long p0, .long p1, .int p2]).isSome = true then Run M_X8_lift 72 [x0, x1, x2, x3, x4, x5] (rL (Call M_X8_inLowest h [.long p0, .long p1, .int p2]) ++ []) (cH (Call M_X8_inLowest h [.long p0, .long p1, .int p2])) else none := R_stat d_X8_lift_69 rfl rfl rfl rfl (Nat.le_of_ble_eq_true rfl)
theorem d_X8_lift_72 : decode (mB M_X8_lift) 72 = .ok (.lreturn, 1) := by decide +kernel
theorem r_X8_lift_72 {x0 x1 x2 x3 x4 x5 : Value} {v : Int64} {h : AH} : Run M_X8_lift 72 [x0, x1, x2, x3, x4, x5] [.long v] h = some (h, some (.long v)) := R_lreturn d_X8_lift_72 rfl
theorem d_X8_bestLift_0 : decode (mB M_X8_bestLift) 0 = .ok (.iload_n 1, 1) := by decide +kernel
theorem r_X8_bestLift_0 {x0 : Value} {a : Int32} {st : List Value} {h : AH} : Run M_X8_bestLift 0 [x0, .int a] st h = Run M_X8_bestLift 1 [x0, .int a] (.int a :: st) h := R_iload_n d_X8_bestLift_0 rfl
theorem d_X8_bestLift_1 : decode (mB M_X8_bestLift) 1 = .ok (.iconst 0, 1) := by decide +kernel
theorem r_X8_bestLift_1 {x0 x1 : Value} {st : List Value} {h : AH} : Run M_X8_bestLift 1 [x0, x1] st h = Run M_X8_bestLift 2 [x0, x1] (.int (nI 0) :: st) h := R_iconst d_X8_bestLift_1 (by decide)
theorem d_X8_bestLift_2 : decode (mB M_X8_bestLift) 2 = .ok (.bipush 60, 2) := by decide +kernel
theorem r_X8_bestLift_2 {x0 x1 : Value} {st : List Value} {h : AH} : Run M_X8_bestLift 2 [x0, x1] st h = Run M_X8_bestLift 4 [x0, x1] (.int (nI 60) :: st) h := R_bipush d_X8_bestLift_2 (by decide)
theorem d_X8_bestLift_4 : decode (mB M_X8_bestLift) 4 = .ok (.invokestatic 65, 3) := by decide +kernel
theorem r_X8_bestLift_4 {x0 x1 : Value} {p0 : Int32} {p1 : Int32} {p2 : Int32} {h : AH} : Run M_X8_bestLift 4 [x0, x1] (.int p2 :: .int p1 :: .int p0 :: []) h = if (Call M_X8_within h [.int p0, .int p1, .int p2]).isSome = true then Run M_X8_bestLift 7 [x0, x1] (rL (Call M_X8_within h [.int p0, .int p1, .int p2]) ++ []) (cH (Call M_X8_within h [.int p0, .int p1, .int p2])) else none := R_stat d_X8_bestLift_4 rfl rfl rfl rfl (Nat.le_of_ble_eq_true rfl)
theorem d_X8_bestLift_7 : decode (mB M_X8_bestLift) 7 = .ok (.ifCond .ne 6, 3) := by decide +kernel
theorem r_X8_bestLift_7 {x0 x1 : Value} {x : Int32} {st : List Value} {h : AH} : Run M_X8_bestLift 7 [x0, x1] (.int x :: st) h = if x = nI 0 then Run M_X8_bestLift 10 [x0, x1] st h else Run M_X8_bestLift 13 [x0, x1] st h := R_if_ne d_X8_bestLift_7 (by decide)
theorem d_X8_bestLift_10 : decode (mB M_X8_bestLift) 10 = .ok (.ldc 69, 2) := by decide +kernel
theorem r_X8_bestLift_10 {x0 x1 : Value} {st : List Value} {h : AH} : Run M_X8_bestLift 10 [x0, x1] st h = Run M_X8_bestLift 12 [x0, x1] (.int (-1000000002) :: st) h := R_ldc d_X8_bestLift_10 (by decide)
theorem d_X8_bestLift_12 : decode (mB M_X8_bestLift) 12 = .ok (.ireturn, 1) := by decide +kernel
theorem r_X8_bestLift_12 {x0 x1 : Value} {v : Int32} {h : AH} : Run M_X8_bestLift 12 [x0, x1] [.int v] h = some (h, some (.int v)) := R_ireturn d_X8_bestLift_12 rfl rfl
theorem d_X8_bestLift_13 : decode (mB M_X8_bestLift) 13 = .ok (.aload_n 0, 1) := by decide +kernel
theorem r_X8_bestLift_13 {x1 : Value} {a : Nat} {st : List Value} {h : AH} : Run M_X8_bestLift 13 [.ref a, x1] st h = Run M_X8_bestLift 14 [.ref a, x1] (.ref a :: st) h := R_aload_n d_X8_bestLift_13 rfl
theorem d_X8_bestLift_14 : decode (mB M_X8_bestLift) 14 = .ok (.getfield 19, 3) := by decide +kernel
theorem r_X8_bestLift_14 {x0 x1 : Value} {a : Nat} {st : List Value} {h : AH} : Run M_X8_bestLift 14 [x0, x1] (.ref a :: st) h = if (gF h a 8 1).isSome = true then Run M_X8_bestLift 17 [x0, x1] ((gF h a 8 1).getD .null :: st) h else none := R_getfield d_X8_bestLift_14 rfl
theorem d_X8_bestLift_17 : decode (mB M_X8_bestLift) 17 = .ok (.aload_n 0, 1) := by decide +kernel
theorem r_X8_bestLift_17 {x1 : Value} {a : Nat} {st : List Value} {h : AH} : Run M_X8_bestLift 17 [.ref a, x1] st h = Run M_X8_bestLift 18 [.ref a, x1] (.ref a :: st) h := R_aload_n d_X8_bestLift_17 rfl
theorem d_X8_bestLift_18 : decode (mB M_X8_bestLift) 18 = .ok (.getfield 57, 3) := by decide +kernel
theorem r_X8_bestLift_18 {x0 x1 : Value} {a : Nat} {st : List Value} {h : AH} : Run M_X8_bestLift 18 [x0, x1] (.ref a :: st) h = if (gF h a 8 7).isSome = true then Run M_X8_bestLift 21 [x0, x1] ((gF h a 8 7).getD .null :: st) h else none := R_getfield d_X8_bestLift_18 rfl
theorem d_X8_bestLift_21 : decode (mB M_X8_bestLift) 21 = .ok (.getfield 92, 3) := by decide +kernel
theorem r_X8_bestLift_21 {x0 x1 : Value} {a : Nat} {st : List Value} {h : AH} : Run M_X8_bestLift 21 [x0, x1] (.ref a :: st) h = if (gF h a 4 6).isSome = true then Run M_X8_bestLift 24 [x0, x1] ((gF h a 4 6).getD .null :: st) h else none := R_getfield d_X8_bestLift_21 rfl
theorem d_X8_bestLift_24 : decode (mB M_X8_bestLift) 24 = .ok (.getfield 114, 3) := by decide +kernel
theorem r_X8_bestLift_24 {x0 x1 : Value} {a : Nat} {st : List Value} {h : AH} : Run M_X8_bestLift 24 [x0, x1] (.ref a :: st) h = if (gF h a 0 2).isSome = true then Run M_X8_bestLift 27 [x0, x1] ((gF h a 0 2).getD .null :: st) h else none := R_getfield d_X8_bestLift_24 rfl
theorem d_X8_bestLift_27 : decode (mB M_X8_bestLift) 27 = .ok (.aload_n 0, 1) := by decide +kernel
theorem r_X8_bestLift_27 {x1 : Value} {a : Nat} {st : List Value} {h : AH} : Run M_X8_bestLift 27 [.ref a, x1] st h = Run M_X8_bestLift 28 [.ref a, x1] (.ref a :: st) h := R_aload_n d_X8_bestLift_27 rfl
theorem d_X8_bestLift_28 : decode (mB M_X8_bestLift) 28 = .ok (.getfield 57, 3) := by decide +kernel
theorem r_X8_bestLift_28 {x0 x1 : Value} {a : Nat} {st : List Value} {h : AH} : Run M_X8_bestLift 28 [x0, x1] (.ref a :: st) h = if (gF h a 8 7).isSome = true then Run M_X8_bestLift 31 [x0, x1] ((gF h a 8 7).getD .null :: st) h else none := R_getfield d_X8_bestLift_28 rfl
theorem d_X8_bestLift_31 : decode (mB M_X8_bestLift) 31 = .ok (.getfield 92, 3) := by decide +kernel
theorem r_X8_bestLift_31 {x0 x1 : Value} {a : Nat} {st : List Value} {h : AH} : Run M_X8_bestLift 31 [x0, x1] (.ref a :: st) h = if (gF h a 4 6).isSome = true then Run M_X8_bestLift 34 [x0, x1] ((gF h a 4 6).getD .null :: st) h else none := R_getfield d_X8_bestLift_31 rfl
theorem d_X8_bestLift_34 : decode (mB M_X8_bestLift) 34 = .ok (.getfield 111, 3) := by decide +kernel
theorem r_X8_bestLift_34 {x0 x1 : Value} {a : Nat} {st : List Value} {h : AH} : Run M_X8_bestLift 34 [x0, x1] (.ref a :: st) h = if (gF h a 0 1).isSome = true then Run M_X8_bestLift 37 [x0, x1] ((gF h a 0 1).getD .null :: st) h else none := R_getfield d_X8_bestLift_34 rfl
theorem d_X8_bestLift_37 : decode (mB M_X8_bestLift) 37 = .ok (.iload_n 1, 1) := by decide +kernel
theorem r_X8_bestLift_37 {x0 : Value} {a : Int32} {st : List Value} {h : AH} : Run M_X8_bestLift 37 [x0, .int a] st h = Run M_X8_bestLift 38 [x0, .int a] (.int a :: st) h := R_iload_n d_X8_bestLift_37 rfl
theorem d_X8_bestLift_38 : decode (mB M_X8_bestLift) 38 = .ok (.invokevirtual 249, 3) := by decide +kernel
theorem r_X8_bestLift_38 {x0 x1 : Value} {p0 : Int32} {p1 : Int32} {p2 : Int32} {a : Nat} {h : AH} : Run M_X8_bestLift 38 [x0, x1] (.int p2 :: .int p1 :: .int p0 :: .ref a :: []) h = if refO h 2 (some (.ref a)) = true then (if (Call M_X2_cheapest h [.ref a, .int p0, .int p1, .int p2]).isSome = true then Run M_X8_bestLift 41 [x0, x1] (rL (Call M_X2_cheapest h [.ref a, .int p0, .int p1, .int p2]) ++ []) (cH (Call M_X2_cheapest h [.ref a, .int p0, .int p1, .int p2])) else none) else none := R_virt d_X8_bestLift_38 rfl rfl rfl rfl rfl (Nat.le_of_ble_eq_true rfl)
theorem d_X8_bestLift_41 : decode (mB M_X8_bestLift) 41 = .ok (.ireturn, 1) := by decide +kernel
theorem r_X8_bestLift_41 {x0 x1 : Value} {v : Int32} {h : AH} : Run M_X8_bestLift 41 [x0, x1] [.int v] h = some (h, some (.int v)) := R_ireturn d_X8_bestLift_41 rfl rfl
theorem d_X8_saved_0 : decode (mB M_X8_saved) 0 = .ok (.iload_n 1, 1) := by decide +kernel
theorem r_X8_saved_0 {x0 x2 : Value} {a : Int32} {st : List Value} {h : AH} : Run M_X8_saved 0 [x0, .int a, x2] st h = Run M_X8_saved 1 [x0, .int a, x2] (.int a :: st) h := R_iload_n d_X8_saved_0 rfl
theorem d_X8_saved_1 : decode (mB M_X8_saved) 1 = .ok (.iconst 0, 1) := by decide +kernel
theorem r_X8_saved_1 {x0 x1 x2 : Value} {st : List Value} {h : AH} : Run M_X8_saved 1 [x0, x1, x2] st h = Run M_X8_saved 2 [x0, x1, x2] (.int (nI 0) :: st) h := R_iconst d_X8_saved_1 (by decide)
theorem d_X8_saved_2 : decode (mB M_X8_saved) 2 = .ok (.bipush 8, 2) := by decide +kernel
theorem r_X8_saved_2 {x0 x1 x2 : Value} {st : List Value} {h : AH} : Run M_X8_saved 2 [x0, x1, x2] st h = Run M_X8_saved 4 [x0, x1, x2] (.int (nI 8) :: st) h := R_bipush d_X8_saved_2 (by decide)
theorem d_X8_saved_4 : decode (mB M_X8_saved) 4 = .ok (.invokestatic 65, 3) := by decide +kernel
theorem r_X8_saved_4 {x0 x1 x2 : Value} {p0 : Int32} {p1 : Int32} {p2 : Int32} {h : AH} : Run M_X8_saved 4 [x0, x1, x2] (.int p2 :: .int p1 :: .int p0 :: []) h = if (Call M_X8_within h [.int p0, .int p1, .int p2]).isSome = true then Run M_X8_saved 7 [x0, x1, x2] (rL (Call M_X8_within h [.int p0, .int p1, .int p2]) ++ []) (cH (Call M_X8_within h [.int p0, .int p1, .int p2])) else none := R_stat d_X8_saved_4 rfl rfl rfl rfl (Nat.le_of_ble_eq_true rfl)
theorem d_X8_saved_7 : decode (mB M_X8_saved) 7 = .ok (.ifCond .eq 10, 3) := by decide +kernel
theorem r_X8_saved_7 {x0 x1 x2 : Value} {x : Int32} {st : List Value} {h : AH} : Run M_X8_saved 7 [x0, x1, x2] (.int x :: st) h = if x = nI 0 then Run M_X8_saved 17 [x0, x1, x2] st h else Run M_X8_saved 10 [x0, x1, x2] st h := R_if_eq d_X8_saved_7 (by decide)
theorem d_X8_saved_10 : decode (mB M_X8_saved) 10 = .ok (.iload_n 2, 1) := by decide +kernel
theorem r_X8_saved_10 {x0 x1 : Value} {a : Int32} {st : List Value} {h : AH} : Run M_X8_saved 10 [x0, x1, .int a] st h = Run M_X8_saved 11 [x0, x1, .int a] (.int a :: st) h := R_iload_n d_X8_saved_10 rfl
theorem d_X8_saved_11 : decode (mB M_X8_saved) 11 = .ok (.invokestatic 191, 3) := by decide +kernel
theorem r_X8_saved_11 {x0 x1 x2 : Value} {p0 : Int32} {h : AH} : Run M_X8_saved 11 [x0, x1, x2] (.int p0 :: []) h = if (Call M_X8_isSide h [.int p0]).isSome = true then Run M_X8_saved 14 [x0, x1, x2] (rL (Call M_X8_isSide h [.int p0]) ++ []) (cH (Call M_X8_isSide h [.int p0])) else none := R_stat d_X8_saved_11 rfl rfl rfl rfl (Nat.le_of_ble_eq_true rfl)
theorem d_X8_saved_14 : decode (mB M_X8_saved) 14 = .ok (.ifCond .ne 7, 3) := by decide +kernel
theorem r_X8_saved_14 {x0 x1 x2 : Value} {x : Int32} {st : List Value} {h : AH} : Run M_X8_saved 14 [x0, x1, x2] (.int x :: st) h = if x = nI 0 then Run M_X8_saved 17 [x0, x1, x2] st h else Run M_X8_saved 21 [x0, x1, x2] st h := R_if_ne d_X8_saved_14 (by decide)
theorem d_X8_saved_17 : decode (mB M_X8_saved) 17 = .ok (.ldc2_w 194, 3) := by decide +kernel
theorem r_X8_saved_17 {x0 x1 x2 : Value} {st : List Value} {h : AH} : Run M_X8_saved 17 [x0, x1, x2] st h = Run M_X8_saved 20 [x0, x1, x2] (.long (-1000000002) :: st) h := R_ldc2_w d_X8_saved_17 (by decide)
theorem d_X8_saved_20 : decode (mB M_X8_saved) 20 = .ok (.lreturn, 1) := by decide +kernel
theorem r_X8_saved_20 {x0 x1 x2 : Value} {v : Int64} {h : AH} : Run M_X8_saved 20 [x0, x1, x2] [.long v] h = some (h, some (.long v)) := R_lreturn d_X8_saved_20 rfl
theorem d_X8_saved_21 : decode (mB M_X8_saved) 21 = .ok (.aload_n 0, 1) := by decide +kernel
theorem r_X8_saved_21 {x1 x2 : Value} {a : Nat} {st : List Value} {h : AH} : Run M_X8_saved 21 [.ref a, x1, x2] st h = Run M_X8_saved 22 [.ref a, x1, x2] (.ref a :: st) h := R_aload_n d_X8_saved_21 rfl
theorem d_X8_saved_22 : decode (mB M_X8_saved) 22 = .ok (.aload_n 0, 1) := by decide +kernel
theorem r_X8_saved_22 {x1 x2 : Value} {a : Nat} {st : List Value} {h : AH} : Run M_X8_saved 22 [.ref a, x1, x2] st h = Run M_X8_saved 23 [.ref a, x1, x2] (.ref a :: st) h := R_aload_n d_X8_saved_22 rfl
theorem d_X8_saved_23 : decode (mB M_X8_saved) 23 = .ok (.invokevirtual 181, 3) := by decide +kernel
theorem r_X8_saved_23 {x0 x1 x2 : Value} {a : Nat} {w0 : Value} {h : AH} : Run M_X8_saved 23 [x0, x1, x2] (.ref a :: [w0]) h = if refO h 8 (some (.ref a)) = true then (if (Call M_X8_cheapestGo h [.ref a]).isSome = true then Run M_X8_saved 26 [x0, x1, x2] (rL (Call M_X8_cheapestGo h [.ref a]) ++ [w0]) (cH (Call M_X8_cheapestGo h [.ref a])) else none) else none := R_virt d_X8_saved_23 rfl rfl rfl rfl rfl (Nat.le_of_ble_eq_true rfl)
theorem d_X8_saved_26 : decode (mB M_X8_saved) 26 = .ok (.invokevirtual 242, 3) := by decide +kernel
theorem r_X8_saved_26 {x0 x1 x2 : Value} {p0 : Int32} {a : Nat} {h : AH} : Run M_X8_saved 26 [x0, x1, x2] (.int p0 :: .ref a :: []) h = if refO h 8 (some (.ref a)) = true then (if (Call M_X8_goCost h [.ref a, .int p0]).isSome = true then Run M_X8_saved 29 [x0, x1, x2] (rL (Call M_X8_goCost h [.ref a, .int p0]) ++ []) (cH (Call M_X8_goCost h [.ref a, .int p0])) else none) else none := R_virt d_X8_saved_26 rfl rfl rfl rfl rfl (Nat.le_of_ble_eq_true rfl)
theorem d_X8_saved_29 : decode (mB M_X8_saved) 29 = .ok (.iload_n 1, 1) := by decide +kernel
theorem r_X8_saved_29 {x0 x2 : Value} {a : Int32} {st : List Value} {h : AH} : Run M_X8_saved 29 [x0, .int a, x2] st h = Run M_X8_saved 30 [x0, .int a, x2] (.int a :: st) h := R_iload_n d_X8_saved_29 rfl
theorem d_X8_saved_30 : decode (mB M_X8_saved) 30 = .ok (.i2l, 1) := by decide +kernel
theorem r_X8_saved_30 {x0 x1 x2 : Value} {x : Int32} {st : List Value} {h : AH} : Run M_X8_saved 30 [x0, x1, x2] (.int x :: st) h = Run M_X8_saved 31 [x0, x1, x2] (.long x.toInt64 :: st) h := R_i2l d_X8_saved_30
theorem d_X8_saved_31 : decode (mB M_X8_saved) 31 = .ok (.lmul, 1) := by decide +kernel
theorem r_X8_saved_31 {x0 x1 x2 : Value} {x y : Int64} {st : List Value} {h : AH} : Run M_X8_saved 31 [x0, x1, x2] (.long y :: .long x :: st) h = Run M_X8_saved 32 [x0, x1, x2] (.long (x * y) :: st) h := R_lmul d_X8_saved_31
theorem d_X8_saved_32 : decode (mB M_X8_saved) 32 = .ok (.aload_n 0, 1) := by decide +kernel
theorem r_X8_saved_32 {x1 x2 : Value} {a : Nat} {st : List Value} {h : AH} : Run M_X8_saved 32 [.ref a, x1, x2] st h = Run M_X8_saved 33 [.ref a, x1, x2] (.ref a :: st) h := R_aload_n d_X8_saved_32 rfl
theorem d_X8_saved_33 : decode (mB M_X8_saved) 33 = .ok (.getfield 19, 3) := by decide +kernel
theorem r_X8_saved_33 {x0 x1 x2 : Value} {a : Nat} {st : List Value} {h : AH} : Run M_X8_saved 33 [x0, x1, x2] (.ref a :: st) h = if (gF h a 8 1).isSome = true then Run M_X8_saved 36 [x0, x1, x2] ((gF h a 8 1).getD .null :: st) h else none := R_getfield d_X8_saved_33 rfl
theorem d_X8_saved_36 : decode (mB M_X8_saved) 36 = .ok (.invokevirtual 200, 3) := by decide +kernel
theorem r_X8_saved_36 {x0 x1 x2 : Value} {a : Nat} {w0 : Value} {h : AH} : Run M_X8_saved 36 [x0, x1, x2] (.ref a :: [w0]) h = if refO h 2 (some (.ref a)) = true then (if (Call M_X2_all h [.ref a]).isSome = true then Run M_X8_saved 39 [x0, x1, x2] (rL (Call M_X2_all h [.ref a]) ++ [w0]) (cH (Call M_X2_all h [.ref a])) else none) else none := R_virt d_X8_saved_36 rfl rfl rfl rfl rfl (Nat.le_of_ble_eq_true rfl)
theorem d_X8_saved_39 : decode (mB M_X8_saved) 39 = .ok (.ldc2_w 230, 3) := by decide +kernel
theorem r_X8_saved_39 {x0 x1 x2 : Value} {st : List Value} {h : AH} : Run M_X8_saved 39 [x0, x1, x2] st h = Run M_X8_saved 42 [x0, x1, x2] (.long (lN 8) :: st) h := R_ldc2_w d_X8_saved_39 (by decide)
theorem d_X8_saved_42 : decode (mB M_X8_saved) 42 = .ok (.lmul, 1) := by decide +kernel
theorem r_X8_saved_42 {x0 x1 x2 : Value} {x y : Int64} {st : List Value} {h : AH} : Run M_X8_saved 42 [x0, x1, x2] (.long y :: .long x :: st) h = Run M_X8_saved 43 [x0, x1, x2] (.long (x * y) :: st) h := R_lmul d_X8_saved_42
theorem d_X8_saved_43 : decode (mB M_X8_saved) 43 = .ok (.iload_n 2, 1) := by decide +kernel
theorem r_X8_saved_43 {x0 x1 : Value} {a : Int32} {st : List Value} {h : AH} : Run M_X8_saved 43 [x0, x1, .int a] st h = Run M_X8_saved 44 [x0, x1, .int a] (.int a :: st) h := R_iload_n d_X8_saved_43 rfl
theorem d_X8_saved_44 : decode (mB M_X8_saved) 44 = .ok (.invokestatic 204, 3) := by decide +kernel
theorem r_X8_saved_44 {x0 x1 x2 : Value} {p0 : Int64} {p1 : Int64} {p2 : Int32} {h : AH} : Run M_X8_saved 44 [x0, x1, x2] (.int p2 :: .long p1 :: .long p0 :: []) h = if (Call M_X8_inLowest h [.long p0, .long p1, .int p2]).isSome = true then Run M_X8_saved 47 [x0, x1, x2] (rL (Call M_X8_inLowest h [.long p0, .long p1, .int p2]) ++ []) (cH (Call M_X8_inLowest h [.long p0, .long p1, .int p2])) else none := R_stat d_X8_saved_44 rfl rfl rfl rfl (Nat.le_of_ble_eq_true rfl)
theorem d_X8_saved_47 : decode (mB M_X8_saved) 47 = .ok (.lreturn, 1) := by decide +kernel
theorem r_X8_saved_47 {x0 x1 x2 : Value} {v : Int64} {h : AH} : Run M_X8_saved 47 [x0, x1, x2] [.long v] h = some (h, some (.long v)) := R_lreturn d_X8_saved_47 rfl
theorem d_X8_apart_0 : decode (mB M_X8_apart) 0 = .ok (.aload_n 0, 1) := by decide +kernel
theorem r_X8_apart_0 {a : Nat} {st : List Value} {h : AH} : Run M_X8_apart 0 [.ref a] st h = Run M_X8_apart 1 [.ref a] (.ref a :: st) h := R_aload_n d_X8_apart_0 rfl
theorem d_X8_apart_1 : decode (mB M_X8_apart) 1 = .ok (.getfield 57, 3) := by decide +kernel
theorem r_X8_apart_1 {x0 : Value} {a : Nat} {st : List Value} {h : AH} : Run M_X8_apart 1 [x0] (.ref a :: st) h = if (gF h a 8 7).isSome = true then Run M_X8_apart 4 [x0] ((gF h a 8 7).getD .null :: st) h else none := R_getfield d_X8_apart_1 rfl
theorem d_X8_apart_4 : decode (mB M_X8_apart) 4 = .ok (.aload_n 0, 1) := by decide +kernel
theorem r_X8_apart_4 {a : Nat} {st : List Value} {h : AH} : Run M_X8_apart 4 [.ref a] st h = Run M_X8_apart 5 [.ref a] (.ref a :: st) h := R_aload_n d_X8_apart_4 rfl
theorem d_X8_apart_5 : decode (mB M_X8_apart) 5 = .ok (.getfield 57, 3) := by decide +kernel
theorem r_X8_apart_5 {x0 : Value} {a : Nat} {st : List Value} {h : AH} : Run M_X8_apart 5 [x0] (.ref a :: st) h = if (gF h a 8 7).isSome = true then Run M_X8_apart 8 [x0] ((gF h a 8 7).getD .null :: st) h else none := R_getfield d_X8_apart_5 rfl
theorem d_X8_apart_8 : decode (mB M_X8_apart) 8 = .ok (.getfield 92, 3) := by decide +kernel
theorem r_X8_apart_8 {x0 : Value} {a : Nat} {st : List Value} {h : AH} : Run M_X8_apart 8 [x0] (.ref a :: st) h = if (gF h a 4 6).isSome = true then Run M_X8_apart 11 [x0] ((gF h a 4 6).getD .null :: st) h else none := R_getfield d_X8_apart_8 rfl
theorem d_X8_apart_11 : decode (mB M_X8_apart) 11 = .ok (.getfield 117, 3) := by decide +kernel
theorem r_X8_apart_11 {x0 : Value} {a : Nat} {st : List Value} {h : AH} : Run M_X8_apart 11 [x0] (.ref a :: st) h = if (gF h a 0 7).isSome = true then Run M_X8_apart 14 [x0] ((gF h a 0 7).getD .null :: st) h else none := R_getfield d_X8_apart_11 rfl
theorem d_X8_apart_14 : decode (mB M_X8_apart) 14 = .ok (.iconst 0, 1) := by decide +kernel
theorem r_X8_apart_14 {x0 : Value} {st : List Value} {h : AH} : Run M_X8_apart 14 [x0] st h = Run M_X8_apart 15 [x0] (.int (nI 0) :: st) h := R_iconst d_X8_apart_14 (by decide)
theorem d_X8_apart_15 : decode (mB M_X8_apart) 15 = .ok (.invokevirtual 253, 3) := by decide +kernel
theorem r_X8_apart_15 {x0 : Value} {p0 : Int32} {p1 : Int32} {a : Nat} {h : AH} : Run M_X8_apart 15 [x0] (.int p1 :: .int p0 :: .ref a :: []) h = if refO h 4 (some (.ref a)) = true then (if (Call M_X4_lagSpread h [.ref a, .int p0, .int p1]).isSome = true then Run M_X8_apart 18 [x0] (rL (Call M_X4_lagSpread h [.ref a, .int p0, .int p1]) ++ []) (cH (Call M_X4_lagSpread h [.ref a, .int p0, .int p1])) else none) else none := R_virt d_X8_apart_15 rfl rfl rfl rfl rfl (Nat.le_of_ble_eq_true rfl)
theorem d_X8_apart_18 : decode (mB M_X8_apart) 18 = .ok (.ireturn, 1) := by decide +kernel
theorem r_X8_apart_18 {x0 : Value} {v : Int32} {h : AH} : Run M_X8_apart 18 [x0] [.int v] h = some (h, some (.int v)) := R_ireturn d_X8_apart_18 rfl rfl
theorem d_X8_bestWay_0 : decode (mB M_X8_bestWay) 0 = .ok (.iload_n 1, 1) := by decide +kernel
theorem r_X8_bestWay_0 {x0 x2 x3 x4 x5 : Value} {a : Int32} {st : List Value} {h : AH} : Run M_X8_bestWay 0 [x0, .int a, x2, x3, x4, x5] st h = Run M_X8_bestWay 1 [x0, .int a, x2, x3, x4, x5] (.int a :: st) h := R_iload_n d_X8_bestWay_0 rfl
theorem d_X8_bestWay_1 : decode (mB M_X8_bestWay) 1 = .ok (.iconst 0, 1) := by decide +kernel
theorem r_X8_bestWay_1 {x0 x1 x2 x3 x4 x5 : Value} {st : List Value} {h : AH} : Run M_X8_bestWay 1 [x0, x1, x2, x3, x4, x5] st h = Run M_X8_bestWay 2 [x0, x1, x2, x3, x4, x5] (.int (nI 0) :: st) h := R_iconst d_X8_bestWay_1 (by decide)
theorem d_X8_bestWay_2 : decode (mB M_X8_bestWay) 2 = .ok (.iconst 1, 1) := by decide +kernel
theorem r_X8_bestWay_2 {x0 x1 x2 x3 x4 x5 : Value} {st : List Value} {h : AH} : Run M_X8_bestWay 2 [x0, x1, x2, x3, x4, x5] st h = Run M_X8_bestWay 3 [x0, x1, x2, x3, x4, x5] (.int (nI 1) :: st) h := R_iconst d_X8_bestWay_2 (by decide)
theorem d_X8_bestWay_3 : decode (mB M_X8_bestWay) 3 = .ok (.invokestatic 65, 3) := by decide +kernel
theorem r_X8_bestWay_3 {x0 x1 x2 x3 x4 x5 : Value} {p0 : Int32} {p1 : Int32} {p2 : Int32} {h : AH} : Run M_X8_bestWay 3 [x0, x1, x2, x3, x4, x5] (.int p2 :: .int p1 :: .int p0 :: []) h = if (Call M_X8_within h [.int p0, .int p1, .int p2]).isSome = true then Run M_X8_bestWay 6 [x0, x1, x2, x3, x4, x5] (rL (Call M_X8_within h [.int p0, .int p1, .int p2]) ++ []) (cH (Call M_X8_within h [.int p0, .int p1, .int p2])) else none := R_stat d_X8_bestWay_3 rfl rfl rfl rfl (Nat.le_of_ble_eq_true rfl)
theorem d_X8_bestWay_6 : decode (mB M_X8_bestWay) 6 = .ok (.ifCond .ne 6, 3) := by decide +kernel
theorem r_X8_bestWay_6 {x0 x1 x2 x3 x4 x5 : Value} {x : Int32} {st : List Value} {h : AH} : Run M_X8_bestWay 6 [x0, x1, x2, x3, x4, x5] (.int x :: st) h = if x = nI 0 then Run M_X8_bestWay 9 [x0, x1, x2, x3, x4, x5] st h else Run M_X8_bestWay 12 [x0, x1, x2, x3, x4, x5] st h := R_if_ne d_X8_bestWay_6 (by decide)
theorem d_X8_bestWay_9 : decode (mB M_X8_bestWay) 9 = .ok (.ldc 69, 2) := by decide +kernel
theorem r_X8_bestWay_9 {x0 x1 x2 x3 x4 x5 : Value} {st : List Value} {h : AH} : Run M_X8_bestWay 9 [x0, x1, x2, x3, x4, x5] st h = Run M_X8_bestWay 11 [x0, x1, x2, x3, x4, x5] (.int (-1000000002) :: st) h := R_ldc d_X8_bestWay_9 (by decide)
theorem d_X8_bestWay_11 : decode (mB M_X8_bestWay) 11 = .ok (.ireturn, 1) := by decide +kernel
theorem r_X8_bestWay_11 {x0 x1 x2 x3 x4 x5 : Value} {v : Int32} {h : AH} : Run M_X8_bestWay 11 [x0, x1, x2, x3, x4, x5] [.int v] h = some (h, some (.int v)) := R_ireturn d_X8_bestWay_11 rfl rfl
theorem d_X8_bestWay_12 : decode (mB M_X8_bestWay) 12 = .ok (.iconst 0, 1) := by decide +kernel
theorem r_X8_bestWay_12 {x0 x1 x2 x3 x4 x5 : Value} {st : List Value} {h : AH} : Run M_X8_bestWay 12 [x0, x1, x2, x3, x4, x5] st h = Run M_X8_bestWay 13 [x0, x1, x2, x3, x4, x5] (.int (nI 0) :: st) h := R_iconst d_X8_bestWay_12 (by decide)
theorem d_X8_bestWay_13 : decode (mB M_X8_bestWay) 13 = .ok (.istore_n 2, 1) := by decide +kernel
theorem r_X8_bestWay_13 {x0 x1 x2 x3 x4 x5 : Value} {a : Int32} {st : List Value} {h : AH} (hc : x1.category = 1) : Run M_X8_bestWay 13 [x0, x1, x2, x3, x4, x5] (.int a :: st) h = Run M_X8_bestWay 14 [x0, x1, .int a, x3, x4, x5] st h := R_istore_n d_X8_bestWay_13 (Nat.lt_of_lt_of_le (by decide : 2 < 6) (Nat.le_refl 6)) (catP_of rfl hc)
theorem d_X8_bestWay_14 : decode (mB M_X8_bestWay) 14 = .ok (.aload_n 0, 1) := by decide +kernel
theorem r_X8_bestWay_14 {x1 x2 x3 x4 x5 : Value} {a : Nat} {st : List Value} {h : AH} : Run M_X8_bestWay 14 [.ref a, x1, x2, x3, x4, x5] st h = Run M_X8_bestWay 15 [.ref a, x1, x2, x3, x4, x5] (.ref a :: st) h := R_aload_n d_X8_bestWay_14 rfl
theorem d_X8_bestWay_15 : decode (mB M_X8_bestWay) 15 = .ok (.getfield 57, 3) := by decide +kernel
theorem r_X8_bestWay_15 {x0 x1 x2 x3 x4 x5 : Value} {a : Nat} {st : List Value} {h : AH} : Run M_X8_bestWay 15 [x0, x1, x2, x3, x4, x5] (.ref a :: st) h = if (gF h a 8 7).isSome = true then Run M_X8_bestWay 18 [x0, x1, x2, x3, x4, x5] ((gF h a 8 7).getD .null :: st) h else none := R_getfield d_X8_bestWay_15 rfl
theorem d_X8_bestWay_18 : decode (mB M_X8_bestWay) 18 = .ok (.iconst 0, 1) := by decide +kernel
theorem r_X8_bestWay_18 {x0 x1 x2 x3 x4 x5 : Value} {st : List Value} {h : AH} : Run M_X8_bestWay 18 [x0, x1, x2, x3, x4, x5] st h = Run M_X8_bestWay 19 [x0, x1, x2, x3, x4, x5] (.int (nI 0) :: st) h := R_iconst d_X8_bestWay_18 (by decide)
theorem d_X8_bestWay_19 : decode (mB M_X8_bestWay) 19 = .ok (.iconst 0, 1) := by decide +kernel
theorem r_X8_bestWay_19 {x0 x1 x2 x3 x4 x5 : Value} {st : List Value} {h : AH} : Run M_X8_bestWay 19 [x0, x1, x2, x3, x4, x5] st h = Run M_X8_bestWay 20 [x0, x1, x2, x3, x4, x5] (.int (nI 0) :: st) h := R_iconst d_X8_bestWay_19 (by decide)
theorem d_X8_bestWay_20 : decode (mB M_X8_bestWay) 20 = .ok (.invokevirtual 253, 3) := by decide +kernel
theorem r_X8_bestWay_20 {x0 x1 x2 x3 x4 x5 : Value} {p0 : Int32} {p1 : Int32} {a : Nat} {h : AH} : Run M_X8_bestWay 20 [x0, x1, x2, x3, x4, x5] (.int p1 :: .int p0 :: .ref a :: []) h = if refO h 4 (some (.ref a)) = true then (if (Call M_X4_lagSpread h [.ref a, .int p0, .int p1]).isSome = true then Run M_X8_bestWay 23 [x0, x1, x2, x3, x4, x5] (rL (Call M_X4_lagSpread h [.ref a, .int p0, .int p1]) ++ []) (cH (Call M_X4_lagSpread h [.ref a, .int p0, .int p1])) else none) else none := R_virt d_X8_bestWay_20 rfl rfl rfl rfl rfl (Nat.le_of_ble_eq_true rfl)
theorem d_X8_bestWay_23 : decode (mB M_X8_bestWay) 23 = .ok (.istore_n 3, 1) := by decide +kernel
theorem r_X8_bestWay_23 {x0 x1 x2 x3 x4 x5 : Value} {a : Int32} {st : List Value} {h : AH} (hc : x2.category = 1) : Run M_X8_bestWay 23 [x0, x1, x2, x3, x4, x5] (.int a :: st) h = Run M_X8_bestWay 24 [x0, x1, x2, .int a, x4, x5] st h := R_istore_n d_X8_bestWay_23 (Nat.lt_of_lt_of_le (by decide : 3 < 6) (Nat.le_refl 6)) (catP_of rfl hc)
theorem d_X8_bestWay_24 : decode (mB M_X8_bestWay) 24 = .ok (.iconst 1, 1) := by decide +kernel
theorem r_X8_bestWay_24 {x0 x1 x2 x3 x4 x5 : Value} {st : List Value} {h : AH} : Run M_X8_bestWay 24 [x0, x1, x2, x3, x4, x5] st h = Run M_X8_bestWay 25 [x0, x1, x2, x3, x4, x5] (.int (nI 1) :: st) h := R_iconst d_X8_bestWay_24 (by decide)
theorem d_X8_bestWay_25 : decode (mB M_X8_bestWay) 25 = .ok (.istore 4, 2) := by decide +kernel
theorem r_X8_bestWay_25 {x0 x1 x2 x3 x4 x5 : Value} {a : Int32} {st : List Value} {h : AH} (hc : x3.category = 1) : Run M_X8_bestWay 25 [x0, x1, x2, x3, x4, x5] (.int a :: st) h = Run M_X8_bestWay 27 [x0, x1, x2, x3, .int a, x5] st h := R_istore d_X8_bestWay_25 (Nat.lt_of_lt_of_le (by decide : 4 < 6) (Nat.le_refl 6)) (catP_of rfl hc)
theorem d_X8_bestWay_27 : decode (mB M_X8_bestWay) 27 = .ok (.iload 4, 2) := by decide +kernel
theorem r_X8_bestWay_27 {x0 x1 x2 x3 x5 : Value} {a : Int32} {st : List Value} {h : AH} : Run M_X8_bestWay 27 [x0, x1, x2, x3, .int a, x5] st h = Run M_X8_bestWay 29 [x0, x1, x2, x3, .int a, x5] (.int a :: st) h := R_iload d_X8_bestWay_27 rfl
theorem d_X8_bestWay_29 : decode (mB M_X8_bestWay) 29 = .ok (.aload_n 0, 1) := by decide +kernel
theorem r_X8_bestWay_29 {x1 x2 x3 x4 x5 : Value} {a : Nat} {st : List Value} {h : AH} : Run M_X8_bestWay 29 [.ref a, x1, x2, x3, x4, x5] st h = Run M_X8_bestWay 30 [.ref a, x1, x2, x3, x4, x5] (.ref a :: st) h := R_aload_n d_X8_bestWay_29 rfl
theorem d_X8_bestWay_30 : decode (mB M_X8_bestWay) 30 = .ok (.getfield 57, 3) := by decide +kernel
theorem r_X8_bestWay_30 {x0 x1 x2 x3 x4 x5 : Value} {a : Nat} {st : List Value} {h : AH} : Run M_X8_bestWay 30 [x0, x1, x2, x3, x4, x5] (.ref a :: st) h = if (gF h a 8 7).isSome = true then Run M_X8_bestWay 33 [x0, x1, x2, x3, x4, x5] ((gF h a 8 7).getD .null :: st) h else none := R_getfield d_X8_bestWay_30 rfl
theorem d_X8_bestWay_33 : decode (mB M_X8_bestWay) 33 = .ok (.invokevirtual 177, 3) := by decide +kernel
theorem r_X8_bestWay_33 {x0 x1 x2 x3 x4 x5 : Value} {a : Nat} {w0 : Value} {h : AH} : Run M_X8_bestWay 33 [x0, x1, x2, x3, x4, x5] (.ref a :: [w0]) h = if refO h 4 (some (.ref a)) = true then (if (Call M_X4_everyPlayer h [.ref a]).isSome = true then Run M_X8_bestWay 36 [x0, x1, x2, x3, x4, x5] (rL (Call M_X4_everyPlayer h [.ref a]) ++ [w0]) (cH (Call M_X4_everyPlayer h [.ref a])) else none) else none := R_virt d_X8_bestWay_33 rfl rfl rfl rfl rfl (Nat.le_of_ble_eq_true rfl)
theorem d_X8_bestWay_36 : decode (mB M_X8_bestWay) 36 = .ok (.if_icmp .gt 33, 3) := by decide +kernel
theorem r_X8_bestWay_36 {x0 x1 x2 x3 x4 x5 : Value} {x y : Int32} {st : List Value} {h : AH} : Run M_X8_bestWay 36 [x0, x1, x2, x3, x4, x5] (.int y :: .int x :: st) h = if y < x then Run M_X8_bestWay 69 [x0, x1, x2, x3, x4, x5] st h else Run M_X8_bestWay 39 [x0, x1, x2, x3, x4, x5] st h := R_icmp_gt d_X8_bestWay_36 (by decide)
theorem d_X8_bestWay_39 : decode (mB M_X8_bestWay) 39 = .ok (.aload_n 0, 1) := by decide +kernel
theorem r_X8_bestWay_39 {x1 x2 x3 x4 x5 : Value} {a : Nat} {st : List Value} {h : AH} : Run M_X8_bestWay 39 [.ref a, x1, x2, x3, x4, x5] st h = Run M_X8_bestWay 40 [.ref a, x1, x2, x3, x4, x5] (.ref a :: st) h := R_aload_n d_X8_bestWay_39 rfl
theorem d_X8_bestWay_40 : decode (mB M_X8_bestWay) 40 = .ok (.getfield 57, 3) := by decide +kernel
theorem r_X8_bestWay_40 {x0 x1 x2 x3 x4 x5 : Value} {a : Nat} {st : List Value} {h : AH} : Run M_X8_bestWay 40 [x0, x1, x2, x3, x4, x5] (.ref a :: st) h = if (gF h a 8 7).isSome = true then Run M_X8_bestWay 43 [x0, x1, x2, x3, x4, x5] ((gF h a 8 7).getD .null :: st) h else none := R_getfield d_X8_bestWay_40 rfl
theorem d_X8_bestWay_43 : decode (mB M_X8_bestWay) 43 = .ok (.iload 4, 2) := by decide +kernel
theorem r_X8_bestWay_43 {x0 x1 x2 x3 x5 : Value} {a : Int32} {st : List Value} {h : AH} : Run M_X8_bestWay 43 [x0, x1, x2, x3, .int a, x5] st h = Run M_X8_bestWay 45 [x0, x1, x2, x3, .int a, x5] (.int a :: st) h := R_iload d_X8_bestWay_43 rfl
theorem d_X8_bestWay_45 : decode (mB M_X8_bestWay) 45 = .ok (.iconst 0, 1) := by decide +kernel
theorem r_X8_bestWay_45 {x0 x1 x2 x3 x4 x5 : Value} {st : List Value} {h : AH} : Run M_X8_bestWay 45 [x0, x1, x2, x3, x4, x5] st h = Run M_X8_bestWay 46 [x0, x1, x2, x3, x4, x5] (.int (nI 0) :: st) h := R_iconst d_X8_bestWay_45 (by decide)
theorem d_X8_bestWay_46 : decode (mB M_X8_bestWay) 46 = .ok (.invokevirtual 253, 3) := by decide +kernel
theorem r_X8_bestWay_46 {x0 x1 x2 x3 x4 x5 : Value} {p0 : Int32} {p1 : Int32} {a : Nat} {h : AH} : Run M_X8_bestWay 46 [x0, x1, x2, x3, x4, x5] (.int p1 :: .int p0 :: .ref a :: []) h = if refO h 4 (some (.ref a)) = true then (if (Call M_X4_lagSpread h [.ref a, .int p0, .int p1]).isSome = true then Run M_X8_bestWay 49 [x0, x1, x2, x3, x4, x5] (rL (Call M_X4_lagSpread h [.ref a, .int p0, .int p1]) ++ []) (cH (Call M_X4_lagSpread h [.ref a, .int p0, .int p1])) else none) else none := R_virt d_X8_bestWay_46 rfl rfl rfl rfl rfl (Nat.le_of_ble_eq_true rfl)
theorem d_X8_bestWay_49 : decode (mB M_X8_bestWay) 49 = .ok (.istore 5, 2) := by decide +kernel
theorem r_X8_bestWay_49 {x0 x1 x2 x3 x4 x5 : Value} {a : Int32} {st : List Value} {h : AH} (hc : x4.category = 1) : Run M_X8_bestWay 49 [x0, x1, x2, x3, x4, x5] (.int a :: st) h = Run M_X8_bestWay 51 [x0, x1, x2, x3, x4, .int a] st h := R_istore d_X8_bestWay_49 (Nat.lt_of_lt_of_le (by decide : 5 < 6) (Nat.le_refl 6)) (catP_of rfl hc)
theorem d_X8_bestWay_51 : decode (mB M_X8_bestWay) 51 = .ok (.iload 5, 2) := by decide +kernel
theorem r_X8_bestWay_51 {x0 x1 x2 x3 x4 : Value} {a : Int32} {st : List Value} {h : AH} : Run M_X8_bestWay 51 [x0, x1, x2, x3, x4, .int a] st h = Run M_X8_bestWay 53 [x0, x1, x2, x3, x4, .int a] (.int a :: st) h := R_iload d_X8_bestWay_51 rfl
theorem d_X8_bestWay_53 : decode (mB M_X8_bestWay) 53 = .ok (.iload_n 3, 1) := by decide +kernel
theorem r_X8_bestWay_53 {x0 x1 x2 x4 x5 : Value} {a : Int32} {st : List Value} {h : AH} : Run M_X8_bestWay 53 [x0, x1, x2, .int a, x4, x5] st h = Run M_X8_bestWay 54 [x0, x1, x2, .int a, x4, x5] (.int a :: st) h := R_iload_n d_X8_bestWay_53 rfl
theorem d_X8_bestWay_54 : decode (mB M_X8_bestWay) 54 = .ok (.if_icmp .ge 9, 3) := by decide +kernel
theorem r_X8_bestWay_54 {x0 x1 x2 x3 x4 x5 : Value} {x y : Int32} {st : List Value} {h : AH} : Run M_X8_bestWay 54 [x0, x1, x2, x3, x4, x5] (.int y :: .int x :: st) h = if y ≤ x then Run M_X8_bestWay 63 [x0, x1, x2, x3, x4, x5] st h else Run M_X8_bestWay 57 [x0, x1, x2, x3, x4, x5] st h := R_icmp_ge d_X8_bestWay_54 (by decide)
theorem d_X8_bestWay_57 : decode (mB M_X8_bestWay) 57 = .ok (.iload 5, 2) := by decide +kernel
theorem r_X8_bestWay_57 {x0 x1 x2 x3 x4 : Value} {a : Int32} {st : List Value} {h : AH} : Run M_X8_bestWay 57 [x0, x1, x2, x3, x4, .int a] st h = Run M_X8_bestWay 59 [x0, x1, x2, x3, x4, .int a] (.int a :: st) h := R_iload d_X8_bestWay_57 rfl
theorem d_X8_bestWay_59 : decode (mB M_X8_bestWay) 59 = .ok (.istore_n 3, 1) := by decide +kernel
theorem r_X8_bestWay_59 {x0 x1 x2 x3 x4 x5 : Value} {a : Int32} {st : List Value} {h : AH} (hc : x2.category = 1) : Run M_X8_bestWay 59 [x0, x1, x2, x3, x4, x5] (.int a :: st) h = Run M_X8_bestWay 60 [x0, x1, x2, .int a, x4, x5] st h := R_istore_n d_X8_bestWay_59 (Nat.lt_of_lt_of_le (by decide : 3 < 6) (Nat.le_refl 6)) (catP_of rfl hc)
theorem d_X8_bestWay_60 : decode (mB M_X8_bestWay) 60 = .ok (.iload 4, 2) := by decide +kernel
theorem r_X8_bestWay_60 {x0 x1 x2 x3 x5 : Value} {a : Int32} {st : List Value} {h : AH} : Run M_X8_bestWay 60 [x0, x1, x2, x3, .int a, x5] st h = Run M_X8_bestWay 62 [x0, x1, x2, x3, .int a, x5] (.int a :: st) h := R_iload d_X8_bestWay_60 rfl
theorem d_X8_bestWay_62 : decode (mB M_X8_bestWay) 62 = .ok (.istore_n 2, 1) := by decide +kernel
theorem r_X8_bestWay_62 {x0 x1 x2 x3 x4 x5 : Value} {a : Int32} {st : List Value} {h : AH} (hc : x1.category = 1) : Run M_X8_bestWay 62 [x0, x1, x2, x3, x4, x5] (.int a :: st) h = Run M_X8_bestWay 63 [x0, x1, .int a, x3, x4, x5] st h := R_istore_n d_X8_bestWay_62 (Nat.lt_of_lt_of_le (by decide : 2 < 6) (Nat.le_refl 6)) (catP_of rfl hc)
theorem d_X8_bestWay_63 : decode (mB M_X8_bestWay) 63 = .ok (.iinc 4 1, 3) := by decide +kernel
theorem r_X8_bestWay_63 {x0 x1 x2 x3 x5 : Value} {a : Int32} {st : List Value} {h : AH} (hc : x3.category = 1) : Run M_X8_bestWay 63 [x0, x1, x2, x3, .int a, x5] st h = Run M_X8_bestWay 66 [x0, x1, x2, x3, .int (a + (nI 1)), x5] st h := R_iinc d_X8_bestWay_63 (by decide) rfl (catP_of rfl hc)
theorem d_X8_bestWay_66 : decode (mB M_X8_bestWay) 66 = .ok (.goto (-39), 3) := by decide +kernel
theorem r_X8_bestWay_66 {x0 x1 x2 x3 x4 x5 : Value} {st : List Value} {h : AH} : Run M_X8_bestWay 66 [x0, x1, x2, x3, x4, x5] st h = Run M_X8_bestWay 27 [x0, x1, x2, x3, x4, x5] st h := R_goto d_X8_bestWay_66 (by decide)
theorem d_X8_bestWay_69 : decode (mB M_X8_bestWay) 69 = .ok (.iload_n 1, 1) := by decide +kernel
theorem r_X8_bestWay_69 {x0 x2 x3 x4 x5 : Value} {a : Int32} {st : List Value} {h : AH} : Run M_X8_bestWay 69 [x0, .int a, x2, x3, x4, x5] st h = Run M_X8_bestWay 70 [x0, .int a, x2, x3, x4, x5] (.int a :: st) h := R_iload_n d_X8_bestWay_69 rfl
theorem d_X8_bestWay_70 : decode (mB M_X8_bestWay) 70 = .ok (.ifCond .ne 7, 3) := by decide +kernel
theorem r_X8_bestWay_70 {x0 x1 x2 x3 x4 x5 : Value} {x : Int32} {st : List Value} {h : AH} : Run M_X8_bestWay 70 [x0, x1, x2, x3, x4, x5] (.int x :: st) h = if x = nI 0 then Run M_X8_bestWay 73 [x0, x1, x2, x3, x4, x5] st h else Run M_X8_bestWay 77 [x0, x1, x2, x3, x4, x5] st h := R_if_ne d_X8_bestWay_70 (by decide)
theorem d_X8_bestWay_73 : decode (mB M_X8_bestWay) 73 = .ok (.iload_n 2, 1) := by decide +kernel
theorem r_X8_bestWay_73 {x0 x1 x3 x4 x5 : Value} {a : Int32} {st : List Value} {h : AH} : Run M_X8_bestWay 73 [x0, x1, .int a, x3, x4, x5] st h = Run M_X8_bestWay 74 [x0, x1, .int a, x3, x4, x5] (.int a :: st) h := R_iload_n d_X8_bestWay_73 rfl
theorem d_X8_bestWay_74 : decode (mB M_X8_bestWay) 74 = .ok (.goto 4, 3) := by decide +kernel
theorem r_X8_bestWay_74 {x0 x1 x2 x3 x4 x5 : Value} {st : List Value} {h : AH} : Run M_X8_bestWay 74 [x0, x1, x2, x3, x4, x5] st h = Run M_X8_bestWay 78 [x0, x1, x2, x3, x4, x5] st h := R_goto d_X8_bestWay_74 (by decide)
theorem d_X8_bestWay_77 : decode (mB M_X8_bestWay) 77 = .ok (.iload_n 3, 1) := by decide +kernel
theorem r_X8_bestWay_77 {x0 x1 x2 x4 x5 : Value} {a : Int32} {st : List Value} {h : AH} : Run M_X8_bestWay 77 [x0, x1, x2, .int a, x4, x5] st h = Run M_X8_bestWay 78 [x0, x1, x2, .int a, x4, x5] (.int a :: st) h := R_iload_n d_X8_bestWay_77 rfl
theorem d_X8_bestWay_78 : decode (mB M_X8_bestWay) 78 = .ok (.ireturn, 1) := by decide +kernel
theorem r_X8_bestWay_78 {x0 x1 x2 x3 x4 x5 : Value} {v : Int32} {h : AH} : Run M_X8_bestWay 78 [x0, x1, x2, x3, x4, x5] [.int v] h = some (h, some (.int v)) := R_ireturn d_X8_bestWay_78 rfl rfl
