/-! the equations of the run, an instruction each (program: wip/whole/gen_pcs.py) -/
theorem d_X7_init_0 : decode (mB M_X7_init) 0 = .ok (.aload_n 0, 1) := by decide +kernel
theorem r_X7_init_0 {a : Nat} {st : List Value} {h : AH} : Run M_X7_init 0 [.ref a] st h = Run M_X7_init 1 [.ref a] (.ref a :: st) h := R_aload_n d_X7_init_0 rfl
theorem d_X7_init_1 : decode (mB M_X7_init) 1 = .ok (.invokespecial 3, 3) := by decide +kernel
theorem r_X7_init_1 {x0 : Value} {a : Nat} {h : AH} : Run M_X7_init 1 [x0] (.ref a :: []) h = Run M_X7_init 4 [x0] [] h := R_obj d_X7_init_1 rfl rfl ⟨by decide, Nat.le_of_ble_eq_true rfl, by decide, by decide⟩
theorem d_X7_init_4 : decode (mB M_X7_init) 4 = .ok (.aload_n 0, 1) := by decide +kernel
theorem r_X7_init_4 {a : Nat} {st : List Value} {h : AH} : Run M_X7_init 4 [.ref a] st h = Run M_X7_init 5 [.ref a] (.ref a :: st) h := R_aload_n d_X7_init_4 rfl
theorem d_X7_init_5 : decode (mB M_X7_init) 5 = .ok (.sipush 250, 3) := by decide +kernel
theorem r_X7_init_5 {x0 : Value} {st : List Value} {h : AH} : Run M_X7_init 5 [x0] st h = Run M_X7_init 8 [x0] (.int (nI 250) :: st) h := R_sipush d_X7_init_5 (by decide)
theorem d_X7_init_8 : decode (mB M_X7_init) 8 = .ok (.newarray .int, 2) := by decide +kernel
theorem r_X7_init_8 {x0 : Value} {st : List Value} {h : AH} : Run M_X7_init 8 [x0] (.int (nI 250) :: st) h = Run M_X7_init 10 [x0] (.ref h.1 :: st) (hnew h 250 (iA 250 (fun _ => 0))) := R_newarray d_X7_init_8 rfl ⟨by decide, by decide⟩ (by decide) rfl
theorem d_X7_init_10 : decode (mB M_X7_init) 10 = .ok (.putfield 9, 3) := by decide +kernel
theorem r_X7_init_10 {x0 : Value} {v : Nat} {a : Nat} {st : List Value} {h : AH} : Run M_X7_init 10 [x0] (.ref v :: .ref a :: st) h = if (pF h a 7 0 (.ref v)).isSome = true then Run M_X7_init 13 [x0] st ((pF h a 7 0 (.ref v)).getD h) else none := R_putfield d_X7_init_10 rfl (okP_arr rfl (Or.inr ⟨rfl, rfl⟩))
theorem d_X7_init_13 : decode (mB M_X7_init) 13 = .ok (.aload_n 0, 1) := by decide +kernel
theorem r_X7_init_13 {a : Nat} {st : List Value} {h : AH} : Run M_X7_init 13 [.ref a] st h = Run M_X7_init 14 [.ref a] (.ref a :: st) h := R_aload_n d_X7_init_13 rfl
theorem d_X7_init_14 : decode (mB M_X7_init) 14 = .ok (.iconst (-1), 1) := by decide +kernel
theorem r_X7_init_14 {x0 : Value} {st : List Value} {h : AH} : Run M_X7_init 14 [x0] st h = Run M_X7_init 15 [x0] (.int (-1) :: st) h := R_iconst d_X7_init_14 (by decide)
theorem d_X7_init_15 : decode (mB M_X7_init) 15 = .ok (.putfield 15, 3) := by decide +kernel
theorem r_X7_init_15 {x0 : Value} {v : Int32} {a : Nat} {st : List Value} {h : AH} : Run M_X7_init 15 [x0] (.int v :: .ref a :: st) h = if (pF h a 7 2 (.int v)).isSome = true then Run M_X7_init 18 [x0] st ((pF h a 7 2 (.int v)).getD h) else none := R_putfield d_X7_init_15 rfl (okP_int rfl rfl)
theorem d_X7_init_18 : decode (mB M_X7_init) 18 = .ok (.return_, 1) := by decide +kernel
theorem r_X7_init_18 {x0 : Value} {h : AH} : Run M_X7_init 18 [x0] [] h = some (h, none) := R_return d_X7_init_18 rfl
theorem d_X7_put_0 : decode (mB M_X7_put) 0 = .ok (.aload_n 0, 1) := by decide +kernel
theorem r_X7_put_0 {x1 : Value} {a : Nat} {st : List Value} {h : AH} : Run M_X7_put 0 [.ref a, x1] st h = Run M_X7_put 1 [.ref a, x1] (.ref a :: st) h := R_aload_n d_X7_put_0 rfl
theorem d_X7_put_1 : decode (mB M_X7_put) 1 = .ok (.getfield 19, 3) := by decide +kernel
theorem r_X7_put_1 {x0 x1 : Value} {a : Nat} {st : List Value} {h : AH} : Run M_X7_put 1 [x0, x1] (.ref a :: st) h = if (gF h a 7 1).isSome = true then Run M_X7_put 4 [x0, x1] ((gF h a 7 1).getD .null :: st) h else none := R_getfield d_X7_put_1 rfl
theorem d_X7_put_4 : decode (mB M_X7_put) 4 = .ok (.sipush 250, 3) := by decide +kernel
theorem r_X7_put_4 {x0 x1 : Value} {st : List Value} {h : AH} : Run M_X7_put 4 [x0, x1] st h = Run M_X7_put 7 [x0, x1] (.int (nI 250) :: st) h := R_sipush d_X7_put_4 (by decide)
theorem d_X7_put_7 : decode (mB M_X7_put) 7 = .ok (.if_icmp .lt 5, 3) := by decide +kernel
theorem r_X7_put_7 {x0 x1 : Value} {x y : Int32} {st : List Value} {h : AH} : Run M_X7_put 7 [x0, x1] (.int y :: .int x :: st) h = if x < y then Run M_X7_put 12 [x0, x1] st h else Run M_X7_put 10 [x0, x1] st h := R_icmp_lt d_X7_put_7 (by decide)
theorem d_X7_put_10 : decode (mB M_X7_put) 10 = .ok (.iconst 0, 1) := by decide +kernel
theorem r_X7_put_10 {x0 x1 : Value} {st : List Value} {h : AH} : Run M_X7_put 10 [x0, x1] st h = Run M_X7_put 11 [x0, x1] (.int (nI 0) :: st) h := R_iconst d_X7_put_10 (by decide)
theorem d_X7_put_11 : decode (mB M_X7_put) 11 = .ok (.ireturn, 1) := by decide +kernel
theorem r_X7_put_11_0 {x0 x1 : Value} {h : AH} : Run M_X7_put 11 [x0, x1] [.int (nI 0)] h = some (h, some (.int (nI 0))) := R_ireturn d_X7_put_11 rfl (by decide)
theorem r_X7_put_11_1 {x0 x1 : Value} {h : AH} : Run M_X7_put 11 [x0, x1] [.int (nI 1)] h = some (h, some (.int (nI 1))) := R_ireturn d_X7_put_11 rfl (by decide)
theorem r_X7_put_11_c {x0 x1 : Value} {c : Prop} [Decidable c] {h : AH} : Run M_X7_put 11 [x0, x1] [.int (bI c)] h = some (h, some (.int (bI c))) := R_ireturn d_X7_put_11 rfl narrow_bI
theorem d_X7_put_12 : decode (mB M_X7_put) 12 = .ok (.aload_n 0, 1) := by decide +kernel
theorem r_X7_put_12 {x1 : Value} {a : Nat} {st : List Value} {h : AH} : Run M_X7_put 12 [.ref a, x1] st h = Run M_X7_put 13 [.ref a, x1] (.ref a :: st) h := R_aload_n d_X7_put_12 rfl
theorem d_X7_put_13 : decode (mB M_X7_put) 13 = .ok (.getfield 9, 3) := by decide +kernel
theorem r_X7_put_13 {x0 x1 : Value} {a : Nat} {st : List Value} {h : AH} : Run M_X7_put 13 [x0, x1] (.ref a :: st) h = if (gF h a 7 0).isSome = true then Run M_X7_put 16 [x0, x1] ((gF h a 7 0).getD .null :: st) h else none := R_getfield d_X7_put_13 rfl
theorem d_X7_put_16 : decode (mB M_X7_put) 16 = .ok (.aload_n 0, 1) := by decide +kernel
theorem r_X7_put_16 {x1 : Value} {a : Nat} {st : List Value} {h : AH} : Run M_X7_put 16 [.ref a, x1] st h = Run M_X7_put 17 [.ref a, x1] (.ref a :: st) h := R_aload_n d_X7_put_16 rfl
theorem d_X7_put_17 : decode (mB M_X7_put) 17 = .ok (.getfield 19, 3) := by decide +kernel
theorem r_X7_put_17 {x0 x1 : Value} {a : Nat} {st : List Value} {h : AH} : Run M_X7_put 17 [x0, x1] (.ref a :: st) h = if (gF h a 7 1).isSome = true then Run M_X7_put 20 [x0, x1] ((gF h a 7 1).getD .null :: st) h else none := R_getfield d_X7_put_17 rfl
theorem d_X7_put_20 : decode (mB M_X7_put) 20 = .ok (.iload_n 1, 1) := by decide +kernel
theorem r_X7_put_20 {x0 : Value} {a : Int32} {st : List Value} {h : AH} : Run M_X7_put 20 [x0, .int a] st h = Run M_X7_put 21 [x0, .int a] (.int a :: st) h := R_iload_n d_X7_put_20 rfl
theorem d_X7_put_21 : decode (mB M_X7_put) 21 = .ok (.iastore, 1) := by decide +kernel
theorem r_X7_put_21 {x0 x1 : Value} {a : Nat} {i x : Int32} {st : List Value} {h : AH} : Run M_X7_put 21 [x0, x1] (.int x :: .int i :: .ref a :: st) h = if (pI 0 h a i x).isSome = true then Run M_X7_put 22 [x0, x1] st ((pI 0 h a i x).getD h) else none := R_iastore d_X7_put_21
theorem d_X7_put_22 : decode (mB M_X7_put) 22 = .ok (.aload_n 0, 1) := by decide +kernel
theorem r_X7_put_22 {x1 : Value} {a : Nat} {st : List Value} {h : AH} : Run M_X7_put 22 [.ref a, x1] st h = Run M_X7_put 23 [.ref a, x1] (.ref a :: st) h := R_aload_n d_X7_put_22 rfl
theorem d_X7_put_23 : decode (mB M_X7_put) 23 = .ok (.dup, 1) := by decide +kernel
theorem r_X7_put_23 {x0 x1 : Value} {x : Nat} {st : List Value} {h : AH} : Run M_X7_put 23 [x0, x1] (.ref x :: st) h = Run M_X7_put 24 [x0, x1] (.ref x :: .ref x :: st) h := R_dupr d_X7_put_23
theorem d_X7_put_24 : decode (mB M_X7_put) 24 = .ok (.getfield 19, 3) := by decide +kernel
theorem r_X7_put_24 {x0 x1 : Value} {a : Nat} {st : List Value} {h : AH} : Run M_X7_put 24 [x0, x1] (.ref a :: st) h = if (gF h a 7 1).isSome = true then Run M_X7_put 27 [x0, x1] ((gF h a 7 1).getD .null :: st) h else none := R_getfield d_X7_put_24 rfl
theorem d_X7_put_27 : decode (mB M_X7_put) 27 = .ok (.iconst 1, 1) := by decide +kernel
theorem r_X7_put_27 {x0 x1 : Value} {st : List Value} {h : AH} : Run M_X7_put 27 [x0, x1] st h = Run M_X7_put 28 [x0, x1] (.int (nI 1) :: st) h := R_iconst d_X7_put_27 (by decide)
theorem d_X7_put_28 : decode (mB M_X7_put) 28 = .ok (.iadd, 1) := by decide +kernel
theorem r_X7_put_28 {x0 x1 : Value} {x y : Int32} {st : List Value} {h : AH} : Run M_X7_put 28 [x0, x1] (.int y :: .int x :: st) h = Run M_X7_put 29 [x0, x1] (.int (x + y) :: st) h := R_iadd d_X7_put_28
theorem d_X7_put_29 : decode (mB M_X7_put) 29 = .ok (.putfield 19, 3) := by decide +kernel
theorem r_X7_put_29 {x0 x1 : Value} {v : Int32} {a : Nat} {st : List Value} {h : AH} : Run M_X7_put 29 [x0, x1] (.int v :: .ref a :: st) h = if (pF h a 7 1 (.int v)).isSome = true then Run M_X7_put 32 [x0, x1] st ((pF h a 7 1 (.int v)).getD h) else none := R_putfield d_X7_put_29 rfl (okP_int rfl rfl)
theorem d_X7_put_32 : decode (mB M_X7_put) 32 = .ok (.iconst 1, 1) := by decide +kernel
theorem r_X7_put_32 {x0 x1 : Value} {st : List Value} {h : AH} : Run M_X7_put 32 [x0, x1] st h = Run M_X7_put 33 [x0, x1] (.int (nI 1) :: st) h := R_iconst d_X7_put_32 (by decide)
theorem d_X7_put_33 : decode (mB M_X7_put) 33 = .ok (.ireturn, 1) := by decide +kernel
theorem r_X7_put_33_0 {x0 x1 : Value} {h : AH} : Run M_X7_put 33 [x0, x1] [.int (nI 0)] h = some (h, some (.int (nI 0))) := R_ireturn d_X7_put_33 rfl (by decide)
theorem r_X7_put_33_1 {x0 x1 : Value} {h : AH} : Run M_X7_put 33 [x0, x1] [.int (nI 1)] h = some (h, some (.int (nI 1))) := R_ireturn d_X7_put_33 rfl (by decide)
theorem r_X7_put_33_c {x0 x1 : Value} {c : Prop} [Decidable c] {h : AH} : Run M_X7_put 33 [x0, x1] [.int (bI c)] h = some (h, some (.int (bI c))) := R_ireturn d_X7_put_33 rfl narrow_bI
theorem d_X7_readInto_0 : decode (mB M_X7_readInto) 0 = .ok (.aload_n 0, 1) := by decide +kernel
theorem r_X7_readInto_0 {x1 x2 : Value} {a : Nat} {st : List Value} {h : AH} : Run M_X7_readInto 0 [.ref a, x1, x2] st h = Run M_X7_readInto 1 [.ref a, x1, x2] (.ref a :: st) h := R_aload_n d_X7_readInto_0 rfl
theorem d_X7_readInto_1 : decode (mB M_X7_readInto) 1 = .ok (.iconst 0, 1) := by decide +kernel
theorem r_X7_readInto_1 {x0 x1 x2 : Value} {st : List Value} {h : AH} : Run M_X7_readInto 1 [x0, x1, x2] st h = Run M_X7_readInto 2 [x0, x1, x2] (.int (nI 0) :: st) h := R_iconst d_X7_readInto_1 (by decide)
theorem d_X7_readInto_2 : decode (mB M_X7_readInto) 2 = .ok (.putfield 22, 3) := by decide +kernel
theorem r_X7_readInto_2 {x0 x1 x2 : Value} {v : Int32} {a : Nat} {st : List Value} {h : AH} : Run M_X7_readInto 2 [x0, x1, x2] (.int v :: .ref a :: st) h = if (pF h a 7 3 (.int v)).isSome = true then Run M_X7_readInto 5 [x0, x1, x2] st ((pF h a 7 3 (.int v)).getD h) else none := R_putfield d_X7_readInto_2 rfl (okP_int rfl rfl)
theorem d_X7_readInto_5 : decode (mB M_X7_readInto) 5 = .ok (.aload_n 0, 1) := by decide +kernel
theorem r_X7_readInto_5 {x1 x2 : Value} {a : Nat} {st : List Value} {h : AH} : Run M_X7_readInto 5 [.ref a, x1, x2] st h = Run M_X7_readInto 6 [.ref a, x1, x2] (.ref a :: st) h := R_aload_n d_X7_readInto_5 rfl
theorem d_X7_readInto_6 : decode (mB M_X7_readInto) 6 = .ok (.iconst (-1), 1) := by decide +kernel
theorem r_X7_readInto_6 {x0 x1 x2 : Value} {st : List Value} {h : AH} : Run M_X7_readInto 6 [x0, x1, x2] st h = Run M_X7_readInto 7 [x0, x1, x2] (.int (-1) :: st) h := R_iconst d_X7_readInto_6 (by decide)
theorem d_X7_readInto_7 : decode (mB M_X7_readInto) 7 = .ok (.putfield 15, 3) := by decide +kernel
theorem r_X7_readInto_7 {x0 x1 x2 : Value} {v : Int32} {a : Nat} {st : List Value} {h : AH} : Run M_X7_readInto 7 [x0, x1, x2] (.int v :: .ref a :: st) h = if (pF h a 7 2 (.int v)).isSome = true then Run M_X7_readInto 10 [x0, x1, x2] st ((pF h a 7 2 (.int v)).getD h) else none := R_putfield d_X7_readInto_7 rfl (okP_int rfl rfl)
theorem d_X7_readInto_10 : decode (mB M_X7_readInto) 10 = .ok (.aload_n 0, 1) := by decide +kernel
theorem r_X7_readInto_10 {x1 x2 : Value} {a : Nat} {st : List Value} {h : AH} : Run M_X7_readInto 10 [.ref a, x1, x2] st h = Run M_X7_readInto 11 [.ref a, x1, x2] (.ref a :: st) h := R_aload_n d_X7_readInto_10 rfl
theorem d_X7_readInto_11 : decode (mB M_X7_readInto) 11 = .ok (.iconst 0, 1) := by decide +kernel
theorem r_X7_readInto_11 {x0 x1 x2 : Value} {st : List Value} {h : AH} : Run M_X7_readInto 11 [x0, x1, x2] st h = Run M_X7_readInto 12 [x0, x1, x2] (.int (nI 0) :: st) h := R_iconst d_X7_readInto_11 (by decide)
theorem d_X7_readInto_12 : decode (mB M_X7_readInto) 12 = .ok (.putfield 25, 3) := by decide +kernel
theorem r_X7_readInto_12 {x0 x1 x2 : Value} {v : Int32} {a : Nat} {st : List Value} {h : AH} : Run M_X7_readInto 12 [x0, x1, x2] (.int v :: .ref a :: st) h = if (pF h a 7 4 (.int v)).isSome = true then Run M_X7_readInto 15 [x0, x1, x2] st ((pF h a 7 4 (.int v)).getD h) else none := R_putfield d_X7_readInto_12 rfl (okP_int rfl rfl)
theorem d_X7_readInto_15 : decode (mB M_X7_readInto) 15 = .ok (.aload_n 0, 1) := by decide +kernel
theorem r_X7_readInto_15 {x1 x2 : Value} {a : Nat} {st : List Value} {h : AH} : Run M_X7_readInto 15 [.ref a, x1, x2] st h = Run M_X7_readInto 16 [.ref a, x1, x2] (.ref a :: st) h := R_aload_n d_X7_readInto_15 rfl
theorem d_X7_readInto_16 : decode (mB M_X7_readInto) 16 = .ok (.iconst 0, 1) := by decide +kernel
theorem r_X7_readInto_16 {x0 x1 x2 : Value} {st : List Value} {h : AH} : Run M_X7_readInto 16 [x0, x1, x2] st h = Run M_X7_readInto 17 [x0, x1, x2] (.int (nI 0) :: st) h := R_iconst d_X7_readInto_16 (by decide)
theorem d_X7_readInto_17 : decode (mB M_X7_readInto) 17 = .ok (.putfield 28, 3) := by decide +kernel
theorem r_X7_readInto_17_0 {x0 x1 x2 : Value} {a : Nat} {st : List Value} {h : AH} : Run M_X7_readInto 17 [x0, x1, x2] (.int (nI 0) :: .ref a :: st) h = if (pF h a 7 6 (.int (nI 0))).isSome = true then Run M_X7_readInto 20 [x0, x1, x2] st ((pF h a 7 6 (.int (nI 0))).getD h) else none := R_putfield d_X7_readInto_17 rfl (okP_bool rfl rfl (Or.inl rfl))
theorem r_X7_readInto_17_1 {x0 x1 x2 : Value} {a : Nat} {st : List Value} {h : AH} : Run M_X7_readInto 17 [x0, x1, x2] (.int (nI 1) :: .ref a :: st) h = if (pF h a 7 6 (.int (nI 1))).isSome = true then Run M_X7_readInto 20 [x0, x1, x2] st ((pF h a 7 6 (.int (nI 1))).getD h) else none := R_putfield d_X7_readInto_17 rfl (okP_bool rfl rfl (Or.inr rfl))
theorem d_X7_readInto_20 : decode (mB M_X7_readInto) 20 = .ok (.aload_n 0, 1) := by decide +kernel
theorem r_X7_readInto_20 {x1 x2 : Value} {a : Nat} {st : List Value} {h : AH} : Run M_X7_readInto 20 [.ref a, x1, x2] st h = Run M_X7_readInto 21 [.ref a, x1, x2] (.ref a :: st) h := R_aload_n d_X7_readInto_20 rfl
theorem d_X7_readInto_21 : decode (mB M_X7_readInto) 21 = .ok (.iconst 0, 1) := by decide +kernel
theorem r_X7_readInto_21 {x0 x1 x2 : Value} {st : List Value} {h : AH} : Run M_X7_readInto 21 [x0, x1, x2] st h = Run M_X7_readInto 22 [x0, x1, x2] (.int (nI 0) :: st) h := R_iconst d_X7_readInto_21 (by decide)
theorem d_X7_readInto_22 : decode (mB M_X7_readInto) 22 = .ok (.putfield 32, 3) := by decide +kernel
theorem r_X7_readInto_22_0 {x0 x1 x2 : Value} {a : Nat} {st : List Value} {h : AH} : Run M_X7_readInto 22 [x0, x1, x2] (.int (nI 0) :: .ref a :: st) h = if (pF h a 7 7 (.int (nI 0))).isSome = true then Run M_X7_readInto 25 [x0, x1, x2] st ((pF h a 7 7 (.int (nI 0))).getD h) else none := R_putfield d_X7_readInto_22 rfl (okP_bool rfl rfl (Or.inl rfl))
theorem r_X7_readInto_22_1 {x0 x1 x2 : Value} {a : Nat} {st : List Value} {h : AH} : Run M_X7_readInto 22 [x0, x1, x2] (.int (nI 1) :: .ref a :: st) h = if (pF h a 7 7 (.int (nI 1))).isSome = true then Run M_X7_readInto 25 [x0, x1, x2] st ((pF h a 7 7 (.int (nI 1))).getD h) else none := R_putfield d_X7_readInto_22 rfl (okP_bool rfl rfl (Or.inr rfl))
theorem d_X7_readInto_25 : decode (mB M_X7_readInto) 25 = .ok (.aload_n 1, 1) := by decide +kernel
theorem r_X7_readInto_25 {x0 x2 : Value} {a : Nat} {st : List Value} {h : AH} : Run M_X7_readInto 25 [x0, .ref a, x2] st h = Run M_X7_readInto 26 [x0, .ref a, x2] (.ref a :: st) h := R_aload_n d_X7_readInto_25 rfl
theorem d_X7_readInto_26 : decode (mB M_X7_readInto) 26 = .ok (.invokevirtual 35, 3) := by decide +kernel
theorem r_X7_readInto_26 {x0 x1 x2 : Value} {a : Nat} {h : AH} : Run M_X7_readInto 26 [x0, x1, x2] (.ref a :: []) h = if refO h 4 (some (.ref a)) = true then (if (Call M_X4_clear h [.ref a]).isSome = true then Run M_X7_readInto 29 [x0, x1, x2] (rL (Call M_X4_clear h [.ref a]) ++ []) (cH (Call M_X4_clear h [.ref a])) else none) else none := R_virt d_X7_readInto_26 rfl rfl rfl rfl rfl (Nat.le_of_ble_eq_true rfl)
theorem d_X7_readInto_29 : decode (mB M_X7_readInto) 29 = .ok (.aload_n 0, 1) := by decide +kernel
theorem r_X7_readInto_29 {x1 x2 : Value} {a : Nat} {st : List Value} {h : AH} : Run M_X7_readInto 29 [.ref a, x1, x2] st h = Run M_X7_readInto 30 [.ref a, x1, x2] (.ref a :: st) h := R_aload_n d_X7_readInto_29 rfl
theorem d_X7_readInto_30 : decode (mB M_X7_readInto) 30 = .ok (.invokevirtual 40, 3) := by decide +kernel
theorem r_X7_readInto_30 {x0 x1 x2 : Value} {a : Nat} {h : AH} : Run M_X7_readInto 30 [x0, x1, x2] (.ref a :: []) h = if refO h 7 (some (.ref a)) = true then (if (Call M_X7_skipBlanks h [.ref a]).isSome = true then Run M_X7_readInto 33 [x0, x1, x2] (rL (Call M_X7_skipBlanks h [.ref a]) ++ []) (cH (Call M_X7_skipBlanks h [.ref a])) else none) else none := R_virt d_X7_readInto_30 rfl rfl rfl rfl rfl (Nat.le_of_ble_eq_true rfl)
theorem d_X7_readInto_33 : decode (mB M_X7_readInto) 33 = .ok (.iconst 0, 1) := by decide +kernel
theorem r_X7_readInto_33 {x0 x1 x2 : Value} {st : List Value} {h : AH} : Run M_X7_readInto 33 [x0, x1, x2] st h = Run M_X7_readInto 34 [x0, x1, x2] (.int (nI 0) :: st) h := R_iconst d_X7_readInto_33 (by decide)
theorem d_X7_readInto_34 : decode (mB M_X7_readInto) 34 = .ok (.istore_n 2, 1) := by decide +kernel
theorem r_X7_readInto_34 {x0 x1 x2 : Value} {a : Int32} {st : List Value} {h : AH} (hc : x1.category = 1) : Run M_X7_readInto 34 [x0, x1, x2] (.int a :: st) h = Run M_X7_readInto 35 [x0, x1, .int a] st h := R_istore_n d_X7_readInto_34 (Nat.lt_of_lt_of_le (by decide : 2 < 3) (Nat.le_refl 3)) (catP_of rfl hc)
theorem d_X7_readInto_35 : decode (mB M_X7_readInto) 35 = .ok (.iload_n 2, 1) := by decide +kernel
theorem r_X7_readInto_35 {x0 x1 : Value} {a : Int32} {st : List Value} {h : AH} : Run M_X7_readInto 35 [x0, x1, .int a] st h = Run M_X7_readInto 36 [x0, x1, .int a] (.int a :: st) h := R_iload_n d_X7_readInto_35 rfl
theorem d_X7_readInto_36 : decode (mB M_X7_readInto) 36 = .ok (.sipush 250, 3) := by decide +kernel
theorem r_X7_readInto_36 {x0 x1 x2 : Value} {st : List Value} {h : AH} : Run M_X7_readInto 36 [x0, x1, x2] st h = Run M_X7_readInto 39 [x0, x1, x2] (.int (nI 250) :: st) h := R_sipush d_X7_readInto_36 (by decide)
theorem d_X7_readInto_39 : decode (mB M_X7_readInto) 39 = .ok (.if_icmp .ge 36, 3) := by decide +kernel
theorem r_X7_readInto_39 {x0 x1 x2 : Value} {x y : Int32} {st : List Value} {h : AH} : Run M_X7_readInto 39 [x0, x1, x2] (.int y :: .int x :: st) h = if y ≤ x then Run M_X7_readInto 75 [x0, x1, x2] st h else Run M_X7_readInto 42 [x0, x1, x2] st h := R_icmp_ge d_X7_readInto_39 (by decide)
theorem d_X7_readInto_42 : decode (mB M_X7_readInto) 42 = .ok (.aload_n 0, 1) := by decide +kernel
theorem r_X7_readInto_42 {x1 x2 : Value} {a : Nat} {st : List Value} {h : AH} : Run M_X7_readInto 42 [.ref a, x1, x2] st h = Run M_X7_readInto 43 [.ref a, x1, x2] (.ref a :: st) h := R_aload_n d_X7_readInto_42 rfl
theorem d_X7_readInto_43 : decode (mB M_X7_readInto) 43 = .ok (.getfield 25, 3) := by decide +kernel
theorem r_X7_readInto_43 {x0 x1 x2 : Value} {a : Nat} {st : List Value} {h : AH} : Run M_X7_readInto 43 [x0, x1, x2] (.ref a :: st) h = if (gF h a 7 4).isSome = true then Run M_X7_readInto 46 [x0, x1, x2] ((gF h a 7 4).getD .null :: st) h else none := R_getfield d_X7_readInto_43 rfl
theorem d_X7_readInto_46 : decode (mB M_X7_readInto) 46 = .ok (.aload_n 0, 1) := by decide +kernel
theorem r_X7_readInto_46 {x1 x2 : Value} {a : Nat} {st : List Value} {h : AH} : Run M_X7_readInto 46 [.ref a, x1, x2] st h = Run M_X7_readInto 47 [.ref a, x1, x2] (.ref a :: st) h := R_aload_n d_X7_readInto_46 rfl
theorem d_X7_readInto_47 : decode (mB M_X7_readInto) 47 = .ok (.getfield 19, 3) := by decide +kernel
theorem r_X7_readInto_47 {x0 x1 x2 : Value} {a : Nat} {st : List Value} {h : AH} : Run M_X7_readInto 47 [x0, x1, x2] (.ref a :: st) h = if (gF h a 7 1).isSome = true then Run M_X7_readInto 50 [x0, x1, x2] ((gF h a 7 1).getD .null :: st) h else none := R_getfield d_X7_readInto_47 rfl
theorem d_X7_readInto_50 : decode (mB M_X7_readInto) 50 = .ok (.if_icmp .ge 25, 3) := by decide +kernel
theorem r_X7_readInto_50 {x0 x1 x2 : Value} {x y : Int32} {st : List Value} {h : AH} : Run M_X7_readInto 50 [x0, x1, x2] (.int y :: .int x :: st) h = if y ≤ x then Run M_X7_readInto 75 [x0, x1, x2] st h else Run M_X7_readInto 53 [x0, x1, x2] st h := R_icmp_ge d_X7_readInto_50 (by decide)
theorem d_X7_readInto_53 : decode (mB M_X7_readInto) 53 = .ok (.aload_n 0, 1) := by decide +kernel
theorem r_X7_readInto_53 {x1 x2 : Value} {a : Nat} {st : List Value} {h : AH} : Run M_X7_readInto 53 [.ref a, x1, x2] st h = Run M_X7_readInto 54 [.ref a, x1, x2] (.ref a :: st) h := R_aload_n d_X7_readInto_53 rfl
theorem d_X7_readInto_54 : decode (mB M_X7_readInto) 54 = .ok (.getfield 22, 3) := by decide +kernel
theorem r_X7_readInto_54 {x0 x1 x2 : Value} {a : Nat} {st : List Value} {h : AH} : Run M_X7_readInto 54 [x0, x1, x2] (.ref a :: st) h = if (gF h a 7 3).isSome = true then Run M_X7_readInto 57 [x0, x1, x2] ((gF h a 7 3).getD .null :: st) h else none := R_getfield d_X7_readInto_54 rfl
theorem d_X7_readInto_57 : decode (mB M_X7_readInto) 57 = .ok (.ifCond .ne 18, 3) := by decide +kernel
theorem r_X7_readInto_57 {x0 x1 x2 : Value} {x : Int32} {st : List Value} {h : AH} : Run M_X7_readInto 57 [x0, x1, x2] (.int x :: st) h = if x = nI 0 then Run M_X7_readInto 60 [x0, x1, x2] st h else Run M_X7_readInto 75 [x0, x1, x2] st h := R_if_ne d_X7_readInto_57 (by decide)
theorem d_X7_readInto_60 : decode (mB M_X7_readInto) 60 = .ok (.aload_n 0, 1) := by decide +kernel
theorem r_X7_readInto_60 {x1 x2 : Value} {a : Nat} {st : List Value} {h : AH} : Run M_X7_readInto 60 [.ref a, x1, x2] st h = Run M_X7_readInto 61 [.ref a, x1, x2] (.ref a :: st) h := R_aload_n d_X7_readInto_60 rfl
theorem d_X7_readInto_61 : decode (mB M_X7_readInto) 61 = .ok (.aload_n 1, 1) := by decide +kernel
theorem r_X7_readInto_61 {x0 x2 : Value} {a : Nat} {st : List Value} {h : AH} : Run M_X7_readInto 61 [x0, .ref a, x2] st h = Run M_X7_readInto 62 [x0, .ref a, x2] (.ref a :: st) h := R_aload_n d_X7_readInto_61 rfl
theorem d_X7_readInto_62 : decode (mB M_X7_readInto) 62 = .ok (.invokevirtual 43, 3) := by decide +kernel
theorem r_X7_readInto_62 {x0 x1 x2 : Value} {p0 : Nat} {a : Nat} {h : AH} : Run M_X7_readInto 62 [x0, x1, x2] (.ref p0 :: .ref a :: []) h = if refO h 7 (some (.ref a)) = true then (if (Call M_X7_readClause h [.ref a, .ref p0]).isSome = true then Run M_X7_readInto 65 [x0, x1, x2] (rL (Call M_X7_readClause h [.ref a, .ref p0]) ++ []) (cH (Call M_X7_readClause h [.ref a, .ref p0])) else none) else none := R_virt d_X7_readInto_62 rfl rfl rfl rfl rfl (Nat.le_of_ble_eq_true rfl)
theorem d_X7_readInto_65 : decode (mB M_X7_readInto) 65 = .ok (.aload_n 0, 1) := by decide +kernel
theorem r_X7_readInto_65 {x1 x2 : Value} {a : Nat} {st : List Value} {h : AH} : Run M_X7_readInto 65 [.ref a, x1, x2] st h = Run M_X7_readInto 66 [.ref a, x1, x2] (.ref a :: st) h := R_aload_n d_X7_readInto_65 rfl
theorem d_X7_readInto_66 : decode (mB M_X7_readInto) 66 = .ok (.invokevirtual 40, 3) := by decide +kernel
theorem r_X7_readInto_66 {x0 x1 x2 : Value} {a : Nat} {h : AH} : Run M_X7_readInto 66 [x0, x1, x2] (.ref a :: []) h = if refO h 7 (some (.ref a)) = true then (if (Call M_X7_skipBlanks h [.ref a]).isSome = true then Run M_X7_readInto 69 [x0, x1, x2] (rL (Call M_X7_skipBlanks h [.ref a]) ++ []) (cH (Call M_X7_skipBlanks h [.ref a])) else none) else none := R_virt d_X7_readInto_66 rfl rfl rfl rfl rfl (Nat.le_of_ble_eq_true rfl)
theorem d_X7_readInto_69 : decode (mB M_X7_readInto) 69 = .ok (.iinc 2 1, 3) := by decide +kernel
theorem r_X7_readInto_69 {x0 x1 : Value} {a : Int32} {st : List Value} {h : AH} (hc : x1.category = 1) : Run M_X7_readInto 69 [x0, x1, .int a] st h = Run M_X7_readInto 72 [x0, x1, .int (a + (nI 1))] st h := R_iinc d_X7_readInto_69 (by decide) rfl (catP_of rfl hc)
theorem d_X7_readInto_72 : decode (mB M_X7_readInto) 72 = .ok (.goto (-37), 3) := by decide +kernel
theorem r_X7_readInto_72 {x0 x1 x2 : Value} {st : List Value} {h : AH} : Run M_X7_readInto 72 [x0, x1, x2] st h = Run M_X7_readInto 35 [x0, x1, x2] st h := R_goto d_X7_readInto_72 (by decide)
theorem d_X7_readInto_75 : decode (mB M_X7_readInto) 75 = .ok (.aload_n 0, 1) := by decide +kernel
theorem r_X7_readInto_75 {x1 x2 : Value} {a : Nat} {st : List Value} {h : AH} : Run M_X7_readInto 75 [.ref a, x1, x2] st h = Run M_X7_readInto 76 [.ref a, x1, x2] (.ref a :: st) h := R_aload_n d_X7_readInto_75 rfl
theorem d_X7_readInto_76 : decode (mB M_X7_readInto) 76 = .ok (.getfield 22, 3) := by decide +kernel
theorem r_X7_readInto_76 {x0 x1 x2 : Value} {a : Nat} {st : List Value} {h : AH} : Run M_X7_readInto 76 [x0, x1, x2] (.ref a :: st) h = if (gF h a 7 3).isSome = true then Run M_X7_readInto 79 [x0, x1, x2] ((gF h a 7 3).getD .null :: st) h else none := R_getfield d_X7_readInto_76 rfl
theorem d_X7_readInto_79 : decode (mB M_X7_readInto) 79 = .ok (.ireturn, 1) := by decide +kernel
theorem r_X7_readInto_79 {x0 x1 x2 : Value} {v : Int32} {h : AH} : Run M_X7_readInto 79 [x0, x1, x2] [.int v] h = some (h, some (.int v)) := R_ireturn d_X7_readInto_79 rfl rfl
theorem d_X7_readClause_0 : decode (mB M_X7_readClause) 0 = .ok (.aload_n 0, 1) := by decide +kernel
theorem r_X7_readClause_0 {x1 : Value} {a : Nat} {st : List Value} {h : AH} : Run M_X7_readClause 0 [.ref a, x1] st h = Run M_X7_readClause 1 [.ref a, x1] (.ref a :: st) h := R_aload_n d_X7_readClause_0 rfl
theorem d_X7_readClause_1 : decode (mB M_X7_readClause) 1 = .ok (.invokevirtual 47, 3) := by decide +kernel
theorem r_X7_readClause_1 {x0 x1 : Value} {a : Nat} {h : AH} : Run M_X7_readClause 1 [x0, x1] (.ref a :: []) h = if refO h 7 (some (.ref a)) = true then (if (Call M_X7_here h [.ref a]).isSome = true then Run M_X7_readClause 4 [x0, x1] (rL (Call M_X7_here h [.ref a]) ++ []) (cH (Call M_X7_here h [.ref a])) else none) else none := R_virt d_X7_readClause_1 rfl rfl rfl rfl rfl (Nat.le_of_ble_eq_true rfl)
theorem d_X7_readClause_4 : decode (mB M_X7_readClause) 4 = .ok (.lookupswitch 98 #[(99, 71), (105, 90), (108, 82), (112, 52), (115, 60)], 52) := by decide +kernel
theorem r_X7_readClause_4 {x0 x1 : Value} {x : Int32} {st : List Value} {h : AH} : Run M_X7_readClause 4 [x0, x1] (.int x :: st) h = if x = (nI 99) then Run M_X7_readClause 75 [x0, x1] st h else if x = (nI 105) then Run M_X7_readClause 94 [x0, x1] st h else if x = (nI 108) then Run M_X7_readClause 86 [x0, x1] st h else if x = (nI 112) then Run M_X7_readClause 56 [x0, x1] st h else if x = (nI 115) then Run M_X7_readClause 64 [x0, x1] st h else Run M_X7_readClause 102 [x0, x1] st h := by
  by_cases h0 : x = (nI 99)
  · subst h0; rw [if_pos rfl]; exact R_lookup (off := 71) d_X7_readClause_4 (by decide) (by decide) (by decide) (by decide)
  rw [if_neg h0]
  by_cases h1 : x = (nI 105)
  · subst h1; rw [if_pos rfl]; exact R_lookup (off := 90) d_X7_readClause_4 (by decide) (by decide) (by decide) (by decide)
  rw [if_neg h1]
  by_cases h2 : x = (nI 108)
  · subst h2; rw [if_pos rfl]; exact R_lookup (off := 82) d_X7_readClause_4 (by decide) (by decide) (by decide) (by decide)
  rw [if_neg h2]
  by_cases h3 : x = (nI 112)
  · subst h3; rw [if_pos rfl]; exact R_lookup (off := 52) d_X7_readClause_4 (by decide) (by decide) (by decide) (by decide)
  rw [if_neg h3]
  by_cases h4 : x = (nI 115)
  · subst h4; rw [if_pos rfl]; exact R_lookup (off := 60) d_X7_readClause_4 (by decide) (by decide) (by decide) (by decide)
  rw [if_neg h4]
  refine R_lookup (off := 98) d_X7_readClause_4 (by decide) (by decide) ?_ (by decide)
  show Op.lookupswitch.offset [(99, 71), (105, 90), (108, 82), (112, 52), (115, 60)] 98 x.toInt = 98
  rw [lv_osw h0 (by decide), lv_osw h1 (by decide), lv_osw h2 (by decide), lv_osw h3 (by decide), lv_osw h4 (by decide)]
  rfl
theorem d_X7_readClause_56 : decode (mB M_X7_readClause) 56 = .ok (.aload_n 0, 1) := by decide +kernel
theorem r_X7_readClause_56 {x1 : Value} {a : Nat} {st : List Value} {h : AH} : Run M_X7_readClause 56 [.ref a, x1] st h = Run M_X7_readClause 57 [.ref a, x1] (.ref a :: st) h := R_aload_n d_X7_readClause_56 rfl
theorem d_X7_readClause_57 : decode (mB M_X7_readClause) 57 = .ok (.aload_n 1, 1) := by decide +kernel
theorem r_X7_readClause_57 {x0 : Value} {a : Nat} {st : List Value} {h : AH} : Run M_X7_readClause 57 [x0, .ref a] st h = Run M_X7_readClause 58 [x0, .ref a] (.ref a :: st) h := R_aload_n d_X7_readClause_57 rfl
theorem d_X7_readClause_58 : decode (mB M_X7_readClause) 58 = .ok (.invokevirtual 51, 3) := by decide +kernel
theorem r_X7_readClause_58 {x0 x1 : Value} {p0 : Nat} {a : Nat} {h : AH} : Run M_X7_readClause 58 [x0, x1] (.ref p0 :: .ref a :: []) h = if refO h 7 (some (.ref a)) = true then (if (Call M_X7_readPart h [.ref a, .ref p0]).isSome = true then Run M_X7_readClause 61 [x0, x1] (rL (Call M_X7_readPart h [.ref a, .ref p0]) ++ []) (cH (Call M_X7_readPart h [.ref a, .ref p0])) else none) else none := R_virt d_X7_readClause_58 rfl rfl rfl rfl rfl (Nat.le_of_ble_eq_true rfl)
theorem d_X7_readClause_61 : decode (mB M_X7_readClause) 61 = .ok (.goto 50, 3) := by decide +kernel
theorem r_X7_readClause_61 {x0 x1 : Value} {st : List Value} {h : AH} : Run M_X7_readClause 61 [x0, x1] st h = Run M_X7_readClause 111 [x0, x1] st h := R_goto d_X7_readClause_61 (by decide)
theorem d_X7_readClause_64 : decode (mB M_X7_readClause) 64 = .ok (.aload_n 0, 1) := by decide +kernel
theorem r_X7_readClause_64 {x1 : Value} {a : Nat} {st : List Value} {h : AH} : Run M_X7_readClause 64 [.ref a, x1] st h = Run M_X7_readClause 65 [.ref a, x1] (.ref a :: st) h := R_aload_n d_X7_readClause_64 rfl
theorem d_X7_readClause_65 : decode (mB M_X7_readClause) 65 = .ok (.aload_n 1, 1) := by decide +kernel
theorem r_X7_readClause_65 {x0 : Value} {a : Nat} {st : List Value} {h : AH} : Run M_X7_readClause 65 [x0, .ref a] st h = Run M_X7_readClause 66 [x0, .ref a] (.ref a :: st) h := R_aload_n d_X7_readClause_65 rfl
theorem d_X7_readClause_66 : decode (mB M_X7_readClause) 66 = .ok (.getfield 54, 3) := by decide +kernel
theorem r_X7_readClause_66 {x0 x1 : Value} {a : Nat} {st : List Value} {h : AH} : Run M_X7_readClause 66 [x0, x1] (.ref a :: st) h = if (gF h a 4 6).isSome = true then Run M_X7_readClause 69 [x0, x1] ((gF h a 4 6).getD .null :: st) h else none := R_getfield d_X7_readClause_66 rfl
theorem d_X7_readClause_69 : decode (mB M_X7_readClause) 69 = .ok (.invokevirtual 58, 3) := by decide +kernel
theorem r_X7_readClause_69 {x0 x1 : Value} {p0 : Nat} {a : Nat} {h : AH} : Run M_X7_readClause 69 [x0, x1] (.ref p0 :: .ref a :: []) h = if refO h 7 (some (.ref a)) = true then (if (Call M_X7_readSign h [.ref a, .ref p0]).isSome = true then Run M_X7_readClause 72 [x0, x1] (rL (Call M_X7_readSign h [.ref a, .ref p0]) ++ []) (cH (Call M_X7_readSign h [.ref a, .ref p0])) else none) else none := R_virt d_X7_readClause_69 rfl rfl rfl rfl rfl (Nat.le_of_ble_eq_true rfl)
theorem d_X7_readClause_72 : decode (mB M_X7_readClause) 72 = .ok (.goto 39, 3) := by decide +kernel
theorem r_X7_readClause_72 {x0 x1 : Value} {st : List Value} {h : AH} : Run M_X7_readClause 72 [x0, x1] st h = Run M_X7_readClause 111 [x0, x1] st h := R_goto d_X7_readClause_72 (by decide)
theorem d_X7_readClause_75 : decode (mB M_X7_readClause) 75 = .ok (.aload_n 0, 1) := by decide +kernel
theorem r_X7_readClause_75 {x1 : Value} {a : Nat} {st : List Value} {h : AH} : Run M_X7_readClause 75 [.ref a, x1] st h = Run M_X7_readClause 76 [.ref a, x1] (.ref a :: st) h := R_aload_n d_X7_readClause_75 rfl
theorem d_X7_readClause_76 : decode (mB M_X7_readClause) 76 = .ok (.aload_n 1, 1) := by decide +kernel
theorem r_X7_readClause_76 {x0 : Value} {a : Nat} {st : List Value} {h : AH} : Run M_X7_readClause 76 [x0, .ref a] st h = Run M_X7_readClause 77 [x0, .ref a] (.ref a :: st) h := R_aload_n d_X7_readClause_76 rfl
theorem d_X7_readClause_77 : decode (mB M_X7_readClause) 77 = .ok (.getfield 54, 3) := by decide +kernel
theorem r_X7_readClause_77 {x0 x1 : Value} {a : Nat} {st : List Value} {h : AH} : Run M_X7_readClause 77 [x0, x1] (.ref a :: st) h = if (gF h a 4 6).isSome = true then Run M_X7_readClause 80 [x0, x1] ((gF h a 4 6).getD .null :: st) h else none := R_getfield d_X7_readClause_77 rfl
theorem d_X7_readClause_80 : decode (mB M_X7_readClause) 80 = .ok (.invokevirtual 62, 3) := by decide +kernel
theorem r_X7_readClause_80 {x0 x1 : Value} {p0 : Nat} {a : Nat} {h : AH} : Run M_X7_readClause 80 [x0, x1] (.ref p0 :: .ref a :: []) h = if refO h 7 (some (.ref a)) = true then (if (Call M_X7_readCosts h [.ref a, .ref p0]).isSome = true then Run M_X7_readClause 83 [x0, x1] (rL (Call M_X7_readCosts h [.ref a, .ref p0]) ++ []) (cH (Call M_X7_readCosts h [.ref a, .ref p0])) else none) else none := R_virt d_X7_readClause_80 rfl rfl rfl rfl rfl (Nat.le_of_ble_eq_true rfl)
theorem d_X7_readClause_83 : decode (mB M_X7_readClause) 83 = .ok (.goto 28, 3) := by decide +kernel
theorem r_X7_readClause_83 {x0 x1 : Value} {st : List Value} {h : AH} : Run M_X7_readClause 83 [x0, x1] st h = Run M_X7_readClause 111 [x0, x1] st h := R_goto d_X7_readClause_83 (by decide)
theorem d_X7_readClause_86 : decode (mB M_X7_readClause) 86 = .ok (.aload_n 0, 1) := by decide +kernel
theorem r_X7_readClause_86 {x1 : Value} {a : Nat} {st : List Value} {h : AH} : Run M_X7_readClause 86 [.ref a, x1] st h = Run M_X7_readClause 87 [.ref a, x1] (.ref a :: st) h := R_aload_n d_X7_readClause_86 rfl
theorem d_X7_readClause_87 : decode (mB M_X7_readClause) 87 = .ok (.aload_n 1, 1) := by decide +kernel
theorem r_X7_readClause_87 {x0 : Value} {a : Nat} {st : List Value} {h : AH} : Run M_X7_readClause 87 [x0, .ref a] st h = Run M_X7_readClause 88 [x0, .ref a] (.ref a :: st) h := R_aload_n d_X7_readClause_87 rfl
theorem d_X7_readClause_88 : decode (mB M_X7_readClause) 88 = .ok (.invokevirtual 65, 3) := by decide +kernel
theorem r_X7_readClause_88 {x0 x1 : Value} {p0 : Nat} {a : Nat} {h : AH} : Run M_X7_readClause 88 [x0, x1] (.ref p0 :: .ref a :: []) h = if refO h 7 (some (.ref a)) = true then (if (Call M_X7_readPlayer h [.ref a, .ref p0]).isSome = true then Run M_X7_readClause 91 [x0, x1] (rL (Call M_X7_readPlayer h [.ref a, .ref p0]) ++ []) (cH (Call M_X7_readPlayer h [.ref a, .ref p0])) else none) else none := R_virt d_X7_readClause_88 rfl rfl rfl rfl rfl (Nat.le_of_ble_eq_true rfl)
theorem d_X7_readClause_91 : decode (mB M_X7_readClause) 91 = .ok (.goto 20, 3) := by decide +kernel
theorem r_X7_readClause_91 {x0 x1 : Value} {st : List Value} {h : AH} : Run M_X7_readClause 91 [x0, x1] st h = Run M_X7_readClause 111 [x0, x1] st h := R_goto d_X7_readClause_91 (by decide)
theorem d_X7_readClause_94 : decode (mB M_X7_readClause) 94 = .ok (.aload_n 0, 1) := by decide +kernel
theorem r_X7_readClause_94 {x1 : Value} {a : Nat} {st : List Value} {h : AH} : Run M_X7_readClause 94 [.ref a, x1] st h = Run M_X7_readClause 95 [.ref a, x1] (.ref a :: st) h := R_aload_n d_X7_readClause_94 rfl
theorem d_X7_readClause_95 : decode (mB M_X7_readClause) 95 = .ok (.aload_n 1, 1) := by decide +kernel
theorem r_X7_readClause_95 {x0 : Value} {a : Nat} {st : List Value} {h : AH} : Run M_X7_readClause 95 [x0, .ref a] st h = Run M_X7_readClause 96 [x0, .ref a] (.ref a :: st) h := R_aload_n d_X7_readClause_95 rfl
theorem d_X7_readClause_96 : decode (mB M_X7_readClause) 96 = .ok (.invokevirtual 68, 3) := by decide +kernel
theorem r_X7_readClause_96 {x0 x1 : Value} {p0 : Nat} {a : Nat} {h : AH} : Run M_X7_readClause 96 [x0, x1] (.ref p0 :: .ref a :: []) h = if refO h 7 (some (.ref a)) = true then (if (Call M_X7_readInstrument h [.ref a, .ref p0]).isSome = true then Run M_X7_readClause 99 [x0, x1] (rL (Call M_X7_readInstrument h [.ref a, .ref p0]) ++ []) (cH (Call M_X7_readInstrument h [.ref a, .ref p0])) else none) else none := R_virt d_X7_readClause_96 rfl rfl rfl rfl rfl (Nat.le_of_ble_eq_true rfl)
theorem d_X7_readClause_99 : decode (mB M_X7_readClause) 99 = .ok (.goto 12, 3) := by decide +kernel
theorem r_X7_readClause_99 {x0 x1 : Value} {st : List Value} {h : AH} : Run M_X7_readClause 99 [x0, x1] st h = Run M_X7_readClause 111 [x0, x1] st h := R_goto d_X7_readClause_99 (by decide)
theorem d_X7_readClause_102 : decode (mB M_X7_readClause) 102 = .ok (.aload_n 0, 1) := by decide +kernel
theorem r_X7_readClause_102 {x1 : Value} {a : Nat} {st : List Value} {h : AH} : Run M_X7_readClause 102 [.ref a, x1] st h = Run M_X7_readClause 103 [.ref a, x1] (.ref a :: st) h := R_aload_n d_X7_readClause_102 rfl
theorem d_X7_readClause_103 : decode (mB M_X7_readClause) 103 = .ok (.iconst 1, 1) := by decide +kernel
theorem r_X7_readClause_103 {x0 x1 : Value} {st : List Value} {h : AH} : Run M_X7_readClause 103 [x0, x1] st h = Run M_X7_readClause 104 [x0, x1] (.int (nI 1) :: st) h := R_iconst d_X7_readClause_103 (by decide)
theorem d_X7_readClause_104 : decode (mB M_X7_readClause) 104 = .ok (.aload_n 0, 1) := by decide +kernel
theorem r_X7_readClause_104 {x1 : Value} {a : Nat} {st : List Value} {h : AH} : Run M_X7_readClause 104 [.ref a, x1] st h = Run M_X7_readClause 105 [.ref a, x1] (.ref a :: st) h := R_aload_n d_X7_readClause_104 rfl
theorem d_X7_readClause_105 : decode (mB M_X7_readClause) 105 = .ok (.getfield 25, 3) := by decide +kernel
theorem r_X7_readClause_105 {x0 x1 : Value} {a : Nat} {st : List Value} {h : AH} : Run M_X7_readClause 105 [x0, x1] (.ref a :: st) h = if (gF h a 7 4).isSome = true then Run M_X7_readClause 108 [x0, x1] ((gF h a 7 4).getD .null :: st) h else none := R_getfield d_X7_readClause_105 rfl
theorem d_X7_readClause_108 : decode (mB M_X7_readClause) 108 = .ok (.invokevirtual 71, 3) := by decide +kernel
theorem r_X7_readClause_108 {x0 x1 : Value} {p0 : Int32} {p1 : Int32} {a : Nat} {h : AH} : Run M_X7_readClause 108 [x0, x1] (.int p1 :: .int p0 :: .ref a :: []) h = if refO h 7 (some (.ref a)) = true then (if (Call M_X7_fail h [.ref a, .int p0, .int p1]).isSome = true then Run M_X7_readClause 111 [x0, x1] (rL (Call M_X7_fail h [.ref a, .int p0, .int p1]) ++ []) (cH (Call M_X7_fail h [.ref a, .int p0, .int p1])) else none) else none := R_virt d_X7_readClause_108 rfl rfl rfl rfl rfl (Nat.le_of_ble_eq_true rfl)
theorem d_X7_readClause_111 : decode (mB M_X7_readClause) 111 = .ok (.return_, 1) := by decide +kernel
theorem r_X7_readClause_111 {x0 x1 : Value} {h : AH} : Run M_X7_readClause 111 [x0, x1] [] h = some (h, none) := R_return d_X7_readClause_111 rfl
theorem d_X7_readPart_0 : decode (mB M_X7_readPart) 0 = .ok (.aload_n 1, 1) := by decide +kernel
theorem r_X7_readPart_0 {x0 x2 : Value} {a : Nat} {st : List Value} {h : AH} : Run M_X7_readPart 0 [x0, .ref a, x2] st h = Run M_X7_readPart 1 [x0, .ref a, x2] (.ref a :: st) h := R_aload_n d_X7_readPart_0 rfl
theorem d_X7_readPart_1 : decode (mB M_X7_readPart) 1 = .ok (.getfield 75, 3) := by decide +kernel
theorem r_X7_readPart_1 {x0 x1 x2 : Value} {a : Nat} {st : List Value} {h : AH} : Run M_X7_readPart 1 [x0, x1, x2] (.ref a :: st) h = if (gF h a 4 0).isSome = true then Run M_X7_readPart 4 [x0, x1, x2] ((gF h a 4 0).getD .null :: st) h else none := R_getfield d_X7_readPart_1 rfl
theorem d_X7_readPart_4 : decode (mB M_X7_readPart) 4 = .ok (.bipush 7, 2) := by decide +kernel
theorem r_X7_readPart_4 {x0 x1 x2 : Value} {st : List Value} {h : AH} : Run M_X7_readPart 4 [x0, x1, x2] st h = Run M_X7_readPart 6 [x0, x1, x2] (.int (nI 7) :: st) h := R_bipush d_X7_readPart_4 (by decide)
theorem d_X7_readPart_6 : decode (mB M_X7_readPart) 6 = .ok (.if_icmp .lt 13, 3) := by decide +kernel
theorem r_X7_readPart_6 {x0 x1 x2 : Value} {x y : Int32} {st : List Value} {h : AH} : Run M_X7_readPart 6 [x0, x1, x2] (.int y :: .int x :: st) h = if x < y then Run M_X7_readPart 19 [x0, x1, x2] st h else Run M_X7_readPart 9 [x0, x1, x2] st h := R_icmp_lt d_X7_readPart_6 (by decide)
theorem d_X7_readPart_9 : decode (mB M_X7_readPart) 9 = .ok (.aload_n 0, 1) := by decide +kernel
theorem r_X7_readPart_9 {x1 x2 : Value} {a : Nat} {st : List Value} {h : AH} : Run M_X7_readPart 9 [.ref a, x1, x2] st h = Run M_X7_readPart 10 [.ref a, x1, x2] (.ref a :: st) h := R_aload_n d_X7_readPart_9 rfl
theorem d_X7_readPart_10 : decode (mB M_X7_readPart) 10 = .ok (.iconst 3, 1) := by decide +kernel
theorem r_X7_readPart_10 {x0 x1 x2 : Value} {st : List Value} {h : AH} : Run M_X7_readPart 10 [x0, x1, x2] st h = Run M_X7_readPart 11 [x0, x1, x2] (.int (nI 3) :: st) h := R_iconst d_X7_readPart_10 (by decide)
theorem d_X7_readPart_11 : decode (mB M_X7_readPart) 11 = .ok (.aload_n 0, 1) := by decide +kernel
theorem r_X7_readPart_11 {x1 x2 : Value} {a : Nat} {st : List Value} {h : AH} : Run M_X7_readPart 11 [.ref a, x1, x2] st h = Run M_X7_readPart 12 [.ref a, x1, x2] (.ref a :: st) h := R_aload_n d_X7_readPart_11 rfl
theorem d_X7_readPart_12 : decode (mB M_X7_readPart) 12 = .ok (.getfield 25, 3) := by decide +kernel
theorem r_X7_readPart_12 {x0 x1 x2 : Value} {a : Nat} {st : List Value} {h : AH} : Run M_X7_readPart 12 [x0, x1, x2] (.ref a :: st) h = if (gF h a 7 4).isSome = true then Run M_X7_readPart 15 [x0, x1, x2] ((gF h a 7 4).getD .null :: st) h else none := R_getfield d_X7_readPart_12 rfl
theorem d_X7_readPart_15 : decode (mB M_X7_readPart) 15 = .ok (.invokevirtual 71, 3) := by decide +kernel
theorem r_X7_readPart_15 {x0 x1 x2 : Value} {p0 : Int32} {p1 : Int32} {a : Nat} {h : AH} : Run M_X7_readPart 15 [x0, x1, x2] (.int p1 :: .int p0 :: .ref a :: []) h = if refO h 7 (some (.ref a)) = true then (if (Call M_X7_fail h [.ref a, .int p0, .int p1]).isSome = true then Run M_X7_readPart 18 [x0, x1, x2] (rL (Call M_X7_fail h [.ref a, .int p0, .int p1]) ++ []) (cH (Call M_X7_fail h [.ref a, .int p0, .int p1])) else none) else none := R_virt d_X7_readPart_15 rfl rfl rfl rfl rfl (Nat.le_of_ble_eq_true rfl)
theorem d_X7_readPart_18 : decode (mB M_X7_readPart) 18 = .ok (.return_, 1) := by decide +kernel
theorem r_X7_readPart_18 {x0 x1 x2 : Value} {h : AH} : Run M_X7_readPart 18 [x0, x1, x2] [] h = some (h, none) := R_return d_X7_readPart_18 rfl
theorem d_X7_readPart_19 : decode (mB M_X7_readPart) 19 = .ok (.aload_n 1, 1) := by decide +kernel
theorem r_X7_readPart_19 {x0 x2 : Value} {a : Nat} {st : List Value} {h : AH} : Run M_X7_readPart 19 [x0, .ref a, x2] st h = Run M_X7_readPart 20 [x0, .ref a, x2] (.ref a :: st) h := R_aload_n d_X7_readPart_19 rfl
theorem d_X7_readPart_20 : decode (mB M_X7_readPart) 20 = .ok (.invokevirtual 78, 3) := by decide +kernel
theorem r_X7_readPart_20 {x0 x1 x2 : Value} {a : Nat} {h : AH} : Run M_X7_readPart 20 [x0, x1, x2] (.ref a :: []) h = if refO h 4 (some (.ref a)) = true then (if (Call M_X4_endsInTrill h [.ref a]).isSome = true then Run M_X7_readPart 23 [x0, x1, x2] (rL (Call M_X4_endsInTrill h [.ref a]) ++ []) (cH (Call M_X4_endsInTrill h [.ref a])) else none) else none := R_virt d_X7_readPart_20 rfl rfl rfl rfl rfl (Nat.le_of_ble_eq_true rfl)
theorem d_X7_readPart_23 : decode (mB M_X7_readPart) 23 = .ok (.ifCond .eq 13, 3) := by decide +kernel
theorem r_X7_readPart_23 {x0 x1 x2 : Value} {x : Int32} {st : List Value} {h : AH} : Run M_X7_readPart 23 [x0, x1, x2] (.int x :: st) h = if x = nI 0 then Run M_X7_readPart 36 [x0, x1, x2] st h else Run M_X7_readPart 26 [x0, x1, x2] st h := R_if_eq d_X7_readPart_23 (by decide)
theorem d_X7_readPart_26 : decode (mB M_X7_readPart) 26 = .ok (.aload_n 0, 1) := by decide +kernel
theorem r_X7_readPart_26 {x1 x2 : Value} {a : Nat} {st : List Value} {h : AH} : Run M_X7_readPart 26 [.ref a, x1, x2] st h = Run M_X7_readPart 27 [.ref a, x1, x2] (.ref a :: st) h := R_aload_n d_X7_readPart_26 rfl
theorem d_X7_readPart_27 : decode (mB M_X7_readPart) 27 = .ok (.iconst 4, 1) := by decide +kernel
theorem r_X7_readPart_27 {x0 x1 x2 : Value} {st : List Value} {h : AH} : Run M_X7_readPart 27 [x0, x1, x2] st h = Run M_X7_readPart 28 [x0, x1, x2] (.int (nI 4) :: st) h := R_iconst d_X7_readPart_27 (by decide)
theorem d_X7_readPart_28 : decode (mB M_X7_readPart) 28 = .ok (.aload_n 0, 1) := by decide +kernel
theorem r_X7_readPart_28 {x1 x2 : Value} {a : Nat} {st : List Value} {h : AH} : Run M_X7_readPart 28 [.ref a, x1, x2] st h = Run M_X7_readPart 29 [.ref a, x1, x2] (.ref a :: st) h := R_aload_n d_X7_readPart_28 rfl
theorem d_X7_readPart_29 : decode (mB M_X7_readPart) 29 = .ok (.getfield 25, 3) := by decide +kernel
theorem r_X7_readPart_29 {x0 x1 x2 : Value} {a : Nat} {st : List Value} {h : AH} : Run M_X7_readPart 29 [x0, x1, x2] (.ref a :: st) h = if (gF h a 7 4).isSome = true then Run M_X7_readPart 32 [x0, x1, x2] ((gF h a 7 4).getD .null :: st) h else none := R_getfield d_X7_readPart_29 rfl
theorem d_X7_readPart_32 : decode (mB M_X7_readPart) 32 = .ok (.invokevirtual 71, 3) := by decide +kernel
theorem r_X7_readPart_32 {x0 x1 x2 : Value} {p0 : Int32} {p1 : Int32} {a : Nat} {h : AH} : Run M_X7_readPart 32 [x0, x1, x2] (.int p1 :: .int p0 :: .ref a :: []) h = if refO h 7 (some (.ref a)) = true then (if (Call M_X7_fail h [.ref a, .int p0, .int p1]).isSome = true then Run M_X7_readPart 35 [x0, x1, x2] (rL (Call M_X7_fail h [.ref a, .int p0, .int p1]) ++ []) (cH (Call M_X7_fail h [.ref a, .int p0, .int p1])) else none) else none := R_virt d_X7_readPart_32 rfl rfl rfl rfl rfl (Nat.le_of_ble_eq_true rfl)
theorem d_X7_readPart_35 : decode (mB M_X7_readPart) 35 = .ok (.return_, 1) := by decide +kernel
theorem r_X7_readPart_35 {x0 x1 x2 : Value} {h : AH} : Run M_X7_readPart 35 [x0, x1, x2] [] h = some (h, none) := R_return d_X7_readPart_35 rfl
theorem d_X7_readPart_36 : decode (mB M_X7_readPart) 36 = .ok (.aload_n 0, 1) := by decide +kernel
theorem r_X7_readPart_36 {x1 x2 : Value} {a : Nat} {st : List Value} {h : AH} : Run M_X7_readPart 36 [.ref a, x1, x2] st h = Run M_X7_readPart 37 [.ref a, x1, x2] (.ref a :: st) h := R_aload_n d_X7_readPart_36 rfl
theorem d_X7_readPart_37 : decode (mB M_X7_readPart) 37 = .ok (.dup, 1) := by decide +kernel
theorem r_X7_readPart_37 {x0 x1 x2 : Value} {x : Nat} {st : List Value} {h : AH} : Run M_X7_readPart 37 [x0, x1, x2] (.ref x :: st) h = Run M_X7_readPart 38 [x0, x1, x2] (.ref x :: .ref x :: st) h := R_dupr d_X7_readPart_37
theorem d_X7_readPart_38 : decode (mB M_X7_readPart) 38 = .ok (.getfield 25, 3) := by decide +kernel
theorem r_X7_readPart_38 {x0 x1 x2 : Value} {a : Nat} {st : List Value} {h : AH} : Run M_X7_readPart 38 [x0, x1, x2] (.ref a :: st) h = if (gF h a 7 4).isSome = true then Run M_X7_readPart 41 [x0, x1, x2] ((gF h a 7 4).getD .null :: st) h else none := R_getfield d_X7_readPart_38 rfl
theorem d_X7_readPart_41 : decode (mB M_X7_readPart) 41 = .ok (.iconst 1, 1) := by decide +kernel
theorem r_X7_readPart_41 {x0 x1 x2 : Value} {st : List Value} {h : AH} : Run M_X7_readPart 41 [x0, x1, x2] st h = Run M_X7_readPart 42 [x0, x1, x2] (.int (nI 1) :: st) h := R_iconst d_X7_readPart_41 (by decide)
theorem d_X7_readPart_42 : decode (mB M_X7_readPart) 42 = .ok (.iadd, 1) := by decide +kernel
theorem r_X7_readPart_42 {x0 x1 x2 : Value} {x y : Int32} {st : List Value} {h : AH} : Run M_X7_readPart 42 [x0, x1, x2] (.int y :: .int x :: st) h = Run M_X7_readPart 43 [x0, x1, x2] (.int (x + y) :: st) h := R_iadd d_X7_readPart_42
theorem d_X7_readPart_43 : decode (mB M_X7_readPart) 43 = .ok (.putfield 25, 3) := by decide +kernel
theorem r_X7_readPart_43 {x0 x1 x2 : Value} {v : Int32} {a : Nat} {st : List Value} {h : AH} : Run M_X7_readPart 43 [x0, x1, x2] (.int v :: .ref a :: st) h = if (pF h a 7 4 (.int v)).isSome = true then Run M_X7_readPart 46 [x0, x1, x2] st ((pF h a 7 4 (.int v)).getD h) else none := R_putfield d_X7_readPart_43 rfl (okP_int rfl rfl)
theorem d_X7_readPart_46 : decode (mB M_X7_readPart) 46 = .ok (.aload_n 1, 1) := by decide +kernel
theorem r_X7_readPart_46 {x0 x2 : Value} {a : Nat} {st : List Value} {h : AH} : Run M_X7_readPart 46 [x0, .ref a, x2] st h = Run M_X7_readPart 47 [x0, .ref a, x2] (.ref a :: st) h := R_aload_n d_X7_readPart_46 rfl
theorem d_X7_readPart_47 : decode (mB M_X7_readPart) 47 = .ok (.getfield 82, 3) := by decide +kernel
theorem r_X7_readPart_47 {x0 x1 x2 : Value} {a : Nat} {st : List Value} {h : AH} : Run M_X7_readPart 47 [x0, x1, x2] (.ref a :: st) h = if (gF h a 4 1).isSome = true then Run M_X7_readPart 50 [x0, x1, x2] ((gF h a 4 1).getD .null :: st) h else none := R_getfield d_X7_readPart_47 rfl
theorem d_X7_readPart_50 : decode (mB M_X7_readPart) 50 = .ok (.aload_n 1, 1) := by decide +kernel
theorem r_X7_readPart_50 {x0 x2 : Value} {a : Nat} {st : List Value} {h : AH} : Run M_X7_readPart 50 [x0, .ref a, x2] st h = Run M_X7_readPart 51 [x0, .ref a, x2] (.ref a :: st) h := R_aload_n d_X7_readPart_50 rfl
theorem d_X7_readPart_51 : decode (mB M_X7_readPart) 51 = .ok (.getfield 75, 3) := by decide +kernel
theorem r_X7_readPart_51 {x0 x1 x2 : Value} {a : Nat} {st : List Value} {h : AH} : Run M_X7_readPart 51 [x0, x1, x2] (.ref a :: st) h = if (gF h a 4 0).isSome = true then Run M_X7_readPart 54 [x0, x1, x2] ((gF h a 4 0).getD .null :: st) h else none := R_getfield d_X7_readPart_51 rfl
theorem d_X7_readPart_54 : decode (mB M_X7_readPart) 54 = .ok (.aaload, 1) := by decide +kernel
theorem r_X7_readPart_54 {x0 x1 x2 : Value} {a : Nat} {i : Int32} {st : List Value} {h : AH} : Run M_X7_readPart 54 [x0, x1, x2] (.int i :: .ref a :: st) h = if (gR h a i).isSome = true then Run M_X7_readPart 55 [x0, x1, x2] (.ref ((gR h a i).getD 0) :: st) h else none := R_aaload d_X7_readPart_54
theorem d_X7_readPart_55 : decode (mB M_X7_readPart) 55 = .ok (.astore_n 2, 1) := by decide +kernel
theorem r_X7_readPart_55 {x0 x1 x2 : Value} {a : Nat} {st : List Value} {h : AH} (hc : x1.category = 1) : Run M_X7_readPart 55 [x0, x1, x2] (.ref a :: st) h = Run M_X7_readPart 56 [x0, x1, .ref a] st h := R_astore_n d_X7_readPart_55 (Nat.lt_of_lt_of_le (by decide : 2 < 3) (Nat.le_refl 3)) (catP_of rfl hc)
theorem d_X7_readPart_56 : decode (mB M_X7_readPart) 56 = .ok (.aload_n 2, 1) := by decide +kernel
theorem r_X7_readPart_56 {x0 x1 : Value} {a : Nat} {st : List Value} {h : AH} : Run M_X7_readPart 56 [x0, x1, .ref a] st h = Run M_X7_readPart 57 [x0, x1, .ref a] (.ref a :: st) h := R_aload_n d_X7_readPart_56 rfl
theorem d_X7_readPart_57 : decode (mB M_X7_readPart) 57 = .ok (.aload_n 0, 1) := by decide +kernel
theorem r_X7_readPart_57 {x1 x2 : Value} {a : Nat} {st : List Value} {h : AH} : Run M_X7_readPart 57 [.ref a, x1, x2] st h = Run M_X7_readPart 58 [.ref a, x1, x2] (.ref a :: st) h := R_aload_n d_X7_readPart_57 rfl
theorem d_X7_readPart_58 : decode (mB M_X7_readPart) 58 = .ok (.iconst 0, 1) := by decide +kernel
theorem r_X7_readPart_58 {x0 x1 x2 : Value} {st : List Value} {h : AH} : Run M_X7_readPart 58 [x0, x1, x2] st h = Run M_X7_readPart 59 [x0, x1, x2] (.int (nI 0) :: st) h := R_iconst d_X7_readPart_58 (by decide)
theorem d_X7_readPart_59 : decode (mB M_X7_readPart) 59 = .ok (.iconst 3, 1) := by decide +kernel
theorem r_X7_readPart_59 {x0 x1 x2 : Value} {st : List Value} {h : AH} : Run M_X7_readPart 59 [x0, x1, x2] st h = Run M_X7_readPart 60 [x0, x1, x2] (.int (nI 3) :: st) h := R_iconst d_X7_readPart_59 (by decide)
theorem d_X7_readPart_60 : decode (mB M_X7_readPart) 60 = .ok (.invokevirtual 86, 3) := by decide +kernel
theorem r_X7_readPart_60 {x0 x1 x2 : Value} {p0 : Int32} {p1 : Int32} {a : Nat} {w0 : Value} {h : AH} : Run M_X7_readPart 60 [x0, x1, x2] (.int p1 :: .int p0 :: .ref a :: [w0]) h = if refO h 7 (some (.ref a)) = true then (if (Call M_X7_number h [.ref a, .int p0, .int p1]).isSome = true then Run M_X7_readPart 63 [x0, x1, x2] (rL (Call M_X7_number h [.ref a, .int p0, .int p1]) ++ [w0]) (cH (Call M_X7_number h [.ref a, .int p0, .int p1])) else none) else none := R_virt d_X7_readPart_60 rfl rfl rfl rfl rfl (Nat.le_of_ble_eq_true rfl)
theorem d_X7_readPart_63 : decode (mB M_X7_readPart) 63 = .ok (.putfield 90, 3) := by decide +kernel
theorem r_X7_readPart_63 {x0 x1 x2 : Value} {v : Int32} {a : Nat} {st : List Value} {h : AH} : Run M_X7_readPart 63 [x0, x1, x2] (.int v :: .ref a :: st) h = if (pF h a 6 0 (.int v)).isSome = true then Run M_X7_readPart 66 [x0, x1, x2] st ((pF h a 6 0 (.int v)).getD h) else none := R_putfield d_X7_readPart_63 rfl (okP_int rfl rfl)
theorem d_X7_readPart_66 : decode (mB M_X7_readPart) 66 = .ok (.aload_n 2, 1) := by decide +kernel
theorem r_X7_readPart_66 {x0 x1 : Value} {a : Nat} {st : List Value} {h : AH} : Run M_X7_readPart 66 [x0, x1, .ref a] st h = Run M_X7_readPart 67 [x0, x1, .ref a] (.ref a :: st) h := R_aload_n d_X7_readPart_66 rfl
theorem d_X7_readPart_67 : decode (mB M_X7_readPart) 67 = .ok (.aload_n 0, 1) := by decide +kernel
theorem r_X7_readPart_67 {x1 x2 : Value} {a : Nat} {st : List Value} {h : AH} : Run M_X7_readPart 67 [.ref a, x1, x2] st h = Run M_X7_readPart 68 [.ref a, x1, x2] (.ref a :: st) h := R_aload_n d_X7_readPart_67 rfl
theorem d_X7_readPart_68 : decode (mB M_X7_readPart) 68 = .ok (.iconst 0, 1) := by decide +kernel
theorem r_X7_readPart_68 {x0 x1 x2 : Value} {st : List Value} {h : AH} : Run M_X7_readPart 68 [x0, x1, x2] st h = Run M_X7_readPart 69 [x0, x1, x2] (.int (nI 0) :: st) h := R_iconst d_X7_readPart_68 (by decide)
theorem d_X7_readPart_69 : decode (mB M_X7_readPart) 69 = .ok (.bipush 7, 2) := by decide +kernel
theorem r_X7_readPart_69 {x0 x1 x2 : Value} {st : List Value} {h : AH} : Run M_X7_readPart 69 [x0, x1, x2] st h = Run M_X7_readPart 71 [x0, x1, x2] (.int (nI 7) :: st) h := R_bipush d_X7_readPart_69 (by decide)
theorem d_X7_readPart_71 : decode (mB M_X7_readPart) 71 = .ok (.invokevirtual 86, 3) := by decide +kernel
theorem r_X7_readPart_71 {x0 x1 x2 : Value} {p0 : Int32} {p1 : Int32} {a : Nat} {w0 : Value} {h : AH} : Run M_X7_readPart 71 [x0, x1, x2] (.int p1 :: .int p0 :: .ref a :: [w0]) h = if refO h 7 (some (.ref a)) = true then (if (Call M_X7_number h [.ref a, .int p0, .int p1]).isSome = true then Run M_X7_readPart 74 [x0, x1, x2] (rL (Call M_X7_number h [.ref a, .int p0, .int p1]) ++ [w0]) (cH (Call M_X7_number h [.ref a, .int p0, .int p1])) else none) else none := R_virt d_X7_readPart_71 rfl rfl rfl rfl rfl (Nat.le_of_ble_eq_true rfl)
theorem d_X7_readPart_74 : decode (mB M_X7_readPart) 74 = .ok (.putfield 95, 3) := by decide +kernel
theorem r_X7_readPart_74 {x0 x1 x2 : Value} {v : Int32} {a : Nat} {st : List Value} {h : AH} : Run M_X7_readPart 74 [x0, x1, x2] (.int v :: .ref a :: st) h = if (pF h a 6 1 (.int v)).isSome = true then Run M_X7_readPart 77 [x0, x1, x2] st ((pF h a 6 1 (.int v)).getD h) else none := R_putfield d_X7_readPart_74 rfl (okP_int rfl rfl)
theorem d_X7_readPart_77 : decode (mB M_X7_readPart) 77 = .ok (.aload_n 2, 1) := by decide +kernel
theorem r_X7_readPart_77 {x0 x1 : Value} {a : Nat} {st : List Value} {h : AH} : Run M_X7_readPart 77 [x0, x1, .ref a] st h = Run M_X7_readPart 78 [x0, x1, .ref a] (.ref a :: st) h := R_aload_n d_X7_readPart_77 rfl
theorem d_X7_readPart_78 : decode (mB M_X7_readPart) 78 = .ok (.getfield 90, 3) := by decide +kernel
theorem r_X7_readPart_78 {x0 x1 x2 : Value} {a : Nat} {st : List Value} {h : AH} : Run M_X7_readPart 78 [x0, x1, x2] (.ref a :: st) h = if (gF h a 6 0).isSome = true then Run M_X7_readPart 81 [x0, x1, x2] ((gF h a 6 0).getD .null :: st) h else none := R_getfield d_X7_readPart_78 rfl
theorem d_X7_readPart_81 : decode (mB M_X7_readPart) 81 = .ok (.iconst 3, 1) := by decide +kernel
theorem r_X7_readPart_81 {x0 x1 x2 : Value} {st : List Value} {h : AH} : Run M_X7_readPart 81 [x0, x1, x2] st h = Run M_X7_readPart 82 [x0, x1, x2] (.int (nI 3) :: st) h := R_iconst d_X7_readPart_81 (by decide)
theorem d_X7_readPart_82 : decode (mB M_X7_readPart) 82 = .ok (.if_icmp .ne 19, 3) := by decide +kernel
theorem r_X7_readPart_82 {x0 x1 x2 : Value} {x y : Int32} {st : List Value} {h : AH} : Run M_X7_readPart 82 [x0, x1, x2] (.int y :: .int x :: st) h = if x = y then Run M_X7_readPart 85 [x0, x1, x2] st h else Run M_X7_readPart 101 [x0, x1, x2] st h := R_icmp_ne d_X7_readPart_82 (by decide)
theorem d_X7_readPart_85 : decode (mB M_X7_readPart) 85 = .ok (.aload_n 2, 1) := by decide +kernel
theorem r_X7_readPart_85 {x0 x1 : Value} {a : Nat} {st : List Value} {h : AH} : Run M_X7_readPart 85 [x0, x1, .ref a] st h = Run M_X7_readPart 86 [x0, x1, .ref a] (.ref a :: st) h := R_aload_n d_X7_readPart_85 rfl
theorem d_X7_readPart_86 : decode (mB M_X7_readPart) 86 = .ok (.getfield 95, 3) := by decide +kernel
theorem r_X7_readPart_86 {x0 x1 x2 : Value} {a : Nat} {st : List Value} {h : AH} : Run M_X7_readPart 86 [x0, x1, x2] (.ref a :: st) h = if (gF h a 6 1).isSome = true then Run M_X7_readPart 89 [x0, x1, x2] ((gF h a 6 1).getD .null :: st) h else none := R_getfield d_X7_readPart_86 rfl
theorem d_X7_readPart_89 : decode (mB M_X7_readPart) 89 = .ok (.ifCond .eq 12, 3) := by decide +kernel
theorem r_X7_readPart_89 {x0 x1 x2 : Value} {x : Int32} {st : List Value} {h : AH} : Run M_X7_readPart 89 [x0, x1, x2] (.int x :: st) h = if x = nI 0 then Run M_X7_readPart 101 [x0, x1, x2] st h else Run M_X7_readPart 92 [x0, x1, x2] st h := R_if_eq d_X7_readPart_89 (by decide)
theorem d_X7_readPart_92 : decode (mB M_X7_readPart) 92 = .ok (.aload_n 0, 1) := by decide +kernel
theorem r_X7_readPart_92 {x1 x2 : Value} {a : Nat} {st : List Value} {h : AH} : Run M_X7_readPart 92 [.ref a, x1, x2] st h = Run M_X7_readPart 93 [.ref a, x1, x2] (.ref a :: st) h := R_aload_n d_X7_readPart_92 rfl
theorem d_X7_readPart_93 : decode (mB M_X7_readPart) 93 = .ok (.iconst 4, 1) := by decide +kernel
theorem r_X7_readPart_93 {x0 x1 x2 : Value} {st : List Value} {h : AH} : Run M_X7_readPart 93 [x0, x1, x2] st h = Run M_X7_readPart 94 [x0, x1, x2] (.int (nI 4) :: st) h := R_iconst d_X7_readPart_93 (by decide)
theorem d_X7_readPart_94 : decode (mB M_X7_readPart) 94 = .ok (.aload_n 0, 1) := by decide +kernel
theorem r_X7_readPart_94 {x1 x2 : Value} {a : Nat} {st : List Value} {h : AH} : Run M_X7_readPart 94 [.ref a, x1, x2] st h = Run M_X7_readPart 95 [.ref a, x1, x2] (.ref a :: st) h := R_aload_n d_X7_readPart_94 rfl
theorem d_X7_readPart_95 : decode (mB M_X7_readPart) 95 = .ok (.getfield 98, 3) := by decide +kernel
theorem r_X7_readPart_95 {x0 x1 x2 : Value} {a : Nat} {st : List Value} {h : AH} : Run M_X7_readPart 95 [x0, x1, x2] (.ref a :: st) h = if (gF h a 7 5).isSome = true then Run M_X7_readPart 98 [x0, x1, x2] ((gF h a 7 5).getD .null :: st) h else none := R_getfield d_X7_readPart_95 rfl
theorem d_X7_readPart_98 : decode (mB M_X7_readPart) 98 = .ok (.invokevirtual 71, 3) := by decide +kernel
theorem r_X7_readPart_98 {x0 x1 x2 : Value} {p0 : Int32} {p1 : Int32} {a : Nat} {h : AH} : Run M_X7_readPart 98 [x0, x1, x2] (.int p1 :: .int p0 :: .ref a :: []) h = if refO h 7 (some (.ref a)) = true then (if (Call M_X7_fail h [.ref a, .int p0, .int p1]).isSome = true then Run M_X7_readPart 101 [x0, x1, x2] (rL (Call M_X7_fail h [.ref a, .int p0, .int p1]) ++ []) (cH (Call M_X7_fail h [.ref a, .int p0, .int p1])) else none) else none := R_virt d_X7_readPart_98 rfl rfl rfl rfl rfl (Nat.le_of_ble_eq_true rfl)
theorem d_X7_readPart_101 : decode (mB M_X7_readPart) 101 = .ok (.aload_n 2, 1) := by decide +kernel
theorem r_X7_readPart_101 {x0 x1 : Value} {a : Nat} {st : List Value} {h : AH} : Run M_X7_readPart 101 [x0, x1, .ref a] st h = Run M_X7_readPart 102 [x0, x1, .ref a] (.ref a :: st) h := R_aload_n d_X7_readPart_101 rfl
theorem d_X7_readPart_102 : decode (mB M_X7_readPart) 102 = .ok (.aload_n 0, 1) := by decide +kernel
theorem r_X7_readPart_102 {x1 x2 : Value} {a : Nat} {st : List Value} {h : AH} : Run M_X7_readPart 102 [.ref a, x1, x2] st h = Run M_X7_readPart 103 [.ref a, x1, x2] (.ref a :: st) h := R_aload_n d_X7_readPart_102 rfl
theorem d_X7_readPart_103 : decode (mB M_X7_readPart) 103 = .ok (.iconst 0, 1) := by decide +kernel
theorem r_X7_readPart_103 {x0 x1 x2 : Value} {st : List Value} {h : AH} : Run M_X7_readPart 103 [x0, x1, x2] st h = Run M_X7_readPart 104 [x0, x1, x2] (.int (nI 0) :: st) h := R_iconst d_X7_readPart_103 (by decide)
theorem d_X7_readPart_104 : decode (mB M_X7_readPart) 104 = .ok (.bipush 11, 2) := by decide +kernel
theorem r_X7_readPart_104 {x0 x1 x2 : Value} {st : List Value} {h : AH} : Run M_X7_readPart 104 [x0, x1, x2] st h = Run M_X7_readPart 106 [x0, x1, x2] (.int (nI 11) :: st) h := R_bipush d_X7_readPart_104 (by decide)
theorem d_X7_readPart_106 : decode (mB M_X7_readPart) 106 = .ok (.invokevirtual 86, 3) := by decide +kernel
theorem r_X7_readPart_106 {x0 x1 x2 : Value} {p0 : Int32} {p1 : Int32} {a : Nat} {w0 : Value} {h : AH} : Run M_X7_readPart 106 [x0, x1, x2] (.int p1 :: .int p0 :: .ref a :: [w0]) h = if refO h 7 (some (.ref a)) = true then (if (Call M_X7_number h [.ref a, .int p0, .int p1]).isSome = true then Run M_X7_readPart 109 [x0, x1, x2] (rL (Call M_X7_number h [.ref a, .int p0, .int p1]) ++ [w0]) (cH (Call M_X7_number h [.ref a, .int p0, .int p1])) else none) else none := R_virt d_X7_readPart_106 rfl rfl rfl rfl rfl (Nat.le_of_ble_eq_true rfl)
theorem d_X7_readPart_109 : decode (mB M_X7_readPart) 109 = .ok (.putfield 101, 3) := by decide +kernel
theorem r_X7_readPart_109 {x0 x1 x2 : Value} {v : Int32} {a : Nat} {st : List Value} {h : AH} : Run M_X7_readPart 109 [x0, x1, x2] (.int v :: .ref a :: st) h = if (pF h a 6 2 (.int v)).isSome = true then Run M_X7_readPart 112 [x0, x1, x2] st ((pF h a 6 2 (.int v)).getD h) else none := R_putfield d_X7_readPart_109 rfl (okP_int rfl rfl)
theorem d_X7_readPart_112 : decode (mB M_X7_readPart) 112 = .ok (.aload_n 0, 1) := by decide +kernel
theorem r_X7_readPart_112 {x1 x2 : Value} {a : Nat} {st : List Value} {h : AH} : Run M_X7_readPart 112 [.ref a, x1, x2] st h = Run M_X7_readPart 113 [.ref a, x1, x2] (.ref a :: st) h := R_aload_n d_X7_readPart_112 rfl
theorem d_X7_readPart_113 : decode (mB M_X7_readPart) 113 = .ok (.aload_n 2, 1) := by decide +kernel
theorem r_X7_readPart_113 {x0 x1 : Value} {a : Nat} {st : List Value} {h : AH} : Run M_X7_readPart 113 [x0, x1, .ref a] st h = Run M_X7_readPart 114 [x0, x1, .ref a] (.ref a :: st) h := R_aload_n d_X7_readPart_113 rfl
theorem d_X7_readPart_114 : decode (mB M_X7_readPart) 114 = .ok (.invokevirtual 104, 3) := by decide +kernel
theorem r_X7_readPart_114 {x0 x1 x2 : Value} {p0 : Nat} {a : Nat} {h : AH} : Run M_X7_readPart 114 [x0, x1, x2] (.ref p0 :: .ref a :: []) h = if refO h 7 (some (.ref a)) = true then (if (Call M_X7_readLengths h [.ref a, .ref p0]).isSome = true then Run M_X7_readPart 117 [x0, x1, x2] (rL (Call M_X7_readLengths h [.ref a, .ref p0]) ++ []) (cH (Call M_X7_readLengths h [.ref a, .ref p0])) else none) else none := R_virt d_X7_readPart_114 rfl rfl rfl rfl rfl (Nat.le_of_ble_eq_true rfl)
theorem d_X7_readPart_117 : decode (mB M_X7_readPart) 117 = .ok (.aload_n 0, 1) := by decide +kernel
theorem r_X7_readPart_117 {x1 x2 : Value} {a : Nat} {st : List Value} {h : AH} : Run M_X7_readPart 117 [.ref a, x1, x2] st h = Run M_X7_readPart 118 [.ref a, x1, x2] (.ref a :: st) h := R_aload_n d_X7_readPart_117 rfl
theorem d_X7_readPart_118 : decode (mB M_X7_readPart) 118 = .ok (.invokevirtual 108, 3) := by decide +kernel
theorem r_X7_readPart_118 {x0 x1 x2 : Value} {a : Nat} {h : AH} : Run M_X7_readPart 118 [x0, x1, x2] (.ref a :: []) h = if refO h 7 (some (.ref a)) = true then (if (Call M_X7_close h [.ref a]).isSome = true then Run M_X7_readPart 121 [x0, x1, x2] (rL (Call M_X7_close h [.ref a]) ++ []) (cH (Call M_X7_close h [.ref a])) else none) else none := R_virt d_X7_readPart_118 rfl rfl rfl rfl rfl (Nat.le_of_ble_eq_true rfl)
theorem d_X7_readPart_121 : decode (mB M_X7_readPart) 121 = .ok (.aload_n 1, 1) := by decide +kernel
theorem r_X7_readPart_121 {x0 x2 : Value} {a : Nat} {st : List Value} {h : AH} : Run M_X7_readPart 121 [x0, .ref a, x2] st h = Run M_X7_readPart 122 [x0, .ref a, x2] (.ref a :: st) h := R_aload_n d_X7_readPart_121 rfl
theorem d_X7_readPart_122 : decode (mB M_X7_readPart) 122 = .ok (.dup, 1) := by decide +kernel
theorem r_X7_readPart_122 {x0 x1 x2 : Value} {x : Nat} {st : List Value} {h : AH} : Run M_X7_readPart 122 [x0, x1, x2] (.ref x :: st) h = Run M_X7_readPart 123 [x0, x1, x2] (.ref x :: .ref x :: st) h := R_dupr d_X7_readPart_122
theorem d_X7_readPart_123 : decode (mB M_X7_readPart) 123 = .ok (.getfield 75, 3) := by decide +kernel
theorem r_X7_readPart_123 {x0 x1 x2 : Value} {a : Nat} {st : List Value} {h : AH} : Run M_X7_readPart 123 [x0, x1, x2] (.ref a :: st) h = if (gF h a 4 0).isSome = true then Run M_X7_readPart 126 [x0, x1, x2] ((gF h a 4 0).getD .null :: st) h else none := R_getfield d_X7_readPart_123 rfl
theorem d_X7_readPart_126 : decode (mB M_X7_readPart) 126 = .ok (.iconst 1, 1) := by decide +kernel
theorem r_X7_readPart_126 {x0 x1 x2 : Value} {st : List Value} {h : AH} : Run M_X7_readPart 126 [x0, x1, x2] st h = Run M_X7_readPart 127 [x0, x1, x2] (.int (nI 1) :: st) h := R_iconst d_X7_readPart_126 (by decide)
theorem d_X7_readPart_127 : decode (mB M_X7_readPart) 127 = .ok (.iadd, 1) := by decide +kernel
theorem r_X7_readPart_127 {x0 x1 x2 : Value} {x y : Int32} {st : List Value} {h : AH} : Run M_X7_readPart 127 [x0, x1, x2] (.int y :: .int x :: st) h = Run M_X7_readPart 128 [x0, x1, x2] (.int (x + y) :: st) h := R_iadd d_X7_readPart_127
theorem d_X7_readPart_128 : decode (mB M_X7_readPart) 128 = .ok (.putfield 75, 3) := by decide +kernel
theorem r_X7_readPart_128 {x0 x1 x2 : Value} {v : Int32} {a : Nat} {st : List Value} {h : AH} : Run M_X7_readPart 128 [x0, x1, x2] (.int v :: .ref a :: st) h = if (pF h a 4 0 (.int v)).isSome = true then Run M_X7_readPart 131 [x0, x1, x2] st ((pF h a 4 0 (.int v)).getD h) else none := R_putfield d_X7_readPart_128 rfl (okP_int rfl rfl)
theorem d_X7_readPart_131 : decode (mB M_X7_readPart) 131 = .ok (.return_, 1) := by decide +kernel
theorem r_X7_readPart_131 {x0 x1 x2 : Value} {h : AH} : Run M_X7_readPart 131 [x0, x1, x2] [] h = some (h, none) := R_return d_X7_readPart_131 rfl
theorem d_X7_readLengths_0 : decode (mB M_X7_readLengths) 0 = .ok (.iconst 1, 1) := by decide +kernel
theorem r_X7_readLengths_0 {x0 x1 x2 x3 : Value} {st : List Value} {h : AH} : Run M_X7_readLengths 0 [x0, x1, x2, x3] st h = Run M_X7_readLengths 1 [x0, x1, x2, x3] (.int (nI 1) :: st) h := R_iconst d_X7_readLengths_0 (by decide)
theorem d_X7_readLengths_1 : decode (mB M_X7_readLengths) 1 = .ok (.istore_n 2, 1) := by decide +kernel
theorem r_X7_readLengths_1 {x0 x1 x2 x3 : Value} {a : Int32} {st : List Value} {h : AH} (hc : x1.category = 1) : Run M_X7_readLengths 1 [x0, x1, x2, x3] (.int a :: st) h = Run M_X7_readLengths 2 [x0, x1, .int a, x3] st h := R_istore_n d_X7_readLengths_1 (Nat.lt_of_lt_of_le (by decide : 2 < 4) (Nat.le_refl 4)) (catP_of rfl hc)
theorem d_X7_readLengths_2 : decode (mB M_X7_readLengths) 2 = .ok (.iconst 0, 1) := by decide +kernel
theorem r_X7_readLengths_2 {x0 x1 x2 x3 : Value} {st : List Value} {h : AH} : Run M_X7_readLengths 2 [x0, x1, x2, x3] st h = Run M_X7_readLengths 3 [x0, x1, x2, x3] (.int (nI 0) :: st) h := R_iconst d_X7_readLengths_2 (by decide)
theorem d_X7_readLengths_3 : decode (mB M_X7_readLengths) 3 = .ok (.istore_n 3, 1) := by decide +kernel
theorem r_X7_readLengths_3 {x0 x1 x2 x3 : Value} {a : Int32} {st : List Value} {h : AH} (hc : x2.category = 1) : Run M_X7_readLengths 3 [x0, x1, x2, x3] (.int a :: st) h = Run M_X7_readLengths 4 [x0, x1, x2, .int a] st h := R_istore_n d_X7_readLengths_3 (Nat.lt_of_lt_of_le (by decide : 3 < 4) (Nat.le_refl 4)) (catP_of rfl hc)
theorem d_X7_readLengths_4 : decode (mB M_X7_readLengths) 4 = .ok (.iload_n 3, 1) := by decide +kernel
theorem r_X7_readLengths_4 {x0 x1 x2 : Value} {a : Int32} {st : List Value} {h : AH} : Run M_X7_readLengths 4 [x0, x1, x2, .int a] st h = Run M_X7_readLengths 5 [x0, x1, x2, .int a] (.int a :: st) h := R_iload_n d_X7_readLengths_4 rfl
theorem d_X7_readLengths_5 : decode (mB M_X7_readLengths) 5 = .ok (.iconst 4, 1) := by decide +kernel
theorem r_X7_readLengths_5 {x0 x1 x2 x3 : Value} {st : List Value} {h : AH} : Run M_X7_readLengths 5 [x0, x1, x2, x3] st h = Run M_X7_readLengths 6 [x0, x1, x2, x3] (.int (nI 4) :: st) h := R_iconst d_X7_readLengths_5 (by decide)
theorem d_X7_readLengths_6 : decode (mB M_X7_readLengths) 6 = .ok (.if_icmp .ge 53, 3) := by decide +kernel
theorem r_X7_readLengths_6 {x0 x1 x2 x3 : Value} {x y : Int32} {st : List Value} {h : AH} : Run M_X7_readLengths 6 [x0, x1, x2, x3] (.int y :: .int x :: st) h = if y ≤ x then Run M_X7_readLengths 59 [x0, x1, x2, x3] st h else Run M_X7_readLengths 9 [x0, x1, x2, x3] st h := R_icmp_ge d_X7_readLengths_6 (by decide)
theorem d_X7_readLengths_9 : decode (mB M_X7_readLengths) 9 = .ok (.iload_n 2, 1) := by decide +kernel
theorem r_X7_readLengths_9 {x0 x1 x3 : Value} {a : Int32} {st : List Value} {h : AH} : Run M_X7_readLengths 9 [x0, x1, .int a, x3] st h = Run M_X7_readLengths 10 [x0, x1, .int a, x3] (.int a :: st) h := R_iload_n d_X7_readLengths_9 rfl
theorem d_X7_readLengths_10 : decode (mB M_X7_readLengths) 10 = .ok (.ifCond .eq 49, 3) := by decide +kernel
theorem r_X7_readLengths_10 {x0 x1 x2 x3 : Value} {x : Int32} {st : List Value} {h : AH} : Run M_X7_readLengths 10 [x0, x1, x2, x3] (.int x :: st) h = if x = nI 0 then Run M_X7_readLengths 59 [x0, x1, x2, x3] st h else Run M_X7_readLengths 13 [x0, x1, x2, x3] st h := R_if_eq d_X7_readLengths_10 (by decide)
theorem d_X7_readLengths_13 : decode (mB M_X7_readLengths) 13 = .ok (.aload_n 1, 1) := by decide +kernel
theorem r_X7_readLengths_13 {x0 x2 x3 : Value} {a : Nat} {st : List Value} {h : AH} : Run M_X7_readLengths 13 [x0, .ref a, x2, x3] st h = Run M_X7_readLengths 14 [x0, .ref a, x2, x3] (.ref a :: st) h := R_aload_n d_X7_readLengths_13 rfl
theorem d_X7_readLengths_14 : decode (mB M_X7_readLengths) 14 = .ok (.getfield 111, 3) := by decide +kernel
theorem r_X7_readLengths_14 {x0 x1 x2 x3 : Value} {a : Nat} {st : List Value} {h : AH} : Run M_X7_readLengths 14 [x0, x1, x2, x3] (.ref a :: st) h = if (gF h a 6 4).isSome = true then Run M_X7_readLengths 17 [x0, x1, x2, x3] ((gF h a 6 4).getD .null :: st) h else none := R_getfield d_X7_readLengths_14 rfl
theorem d_X7_readLengths_17 : decode (mB M_X7_readLengths) 17 = .ok (.iload_n 3, 1) := by decide +kernel
theorem r_X7_readLengths_17 {x0 x1 x2 : Value} {a : Int32} {st : List Value} {h : AH} : Run M_X7_readLengths 17 [x0, x1, x2, .int a] st h = Run M_X7_readLengths 18 [x0, x1, x2, .int a] (.int a :: st) h := R_iload_n d_X7_readLengths_17 rfl
theorem d_X7_readLengths_18 : decode (mB M_X7_readLengths) 18 = .ok (.aload_n 0, 1) := by decide +kernel
theorem r_X7_readLengths_18 {x1 x2 x3 : Value} {a : Nat} {st : List Value} {h : AH} : Run M_X7_readLengths 18 [.ref a, x1, x2, x3] st h = Run M_X7_readLengths 19 [.ref a, x1, x2, x3] (.ref a :: st) h := R_aload_n d_X7_readLengths_18 rfl
theorem d_X7_readLengths_19 : decode (mB M_X7_readLengths) 19 = .ok (.iconst 1, 1) := by decide +kernel
theorem r_X7_readLengths_19 {x0 x1 x2 x3 : Value} {st : List Value} {h : AH} : Run M_X7_readLengths 19 [x0, x1, x2, x3] st h = Run M_X7_readLengths 20 [x0, x1, x2, x3] (.int (nI 1) :: st) h := R_iconst d_X7_readLengths_19 (by decide)
theorem d_X7_readLengths_20 : decode (mB M_X7_readLengths) 20 = .ok (.bipush 60, 2) := by decide +kernel
theorem r_X7_readLengths_20 {x0 x1 x2 x3 : Value} {st : List Value} {h : AH} : Run M_X7_readLengths 20 [x0, x1, x2, x3] st h = Run M_X7_readLengths 22 [x0, x1, x2, x3] (.int (nI 60) :: st) h := R_bipush d_X7_readLengths_20 (by decide)
theorem d_X7_readLengths_22 : decode (mB M_X7_readLengths) 22 = .ok (.invokevirtual 86, 3) := by decide +kernel
theorem r_X7_readLengths_22 {x0 x1 x2 x3 : Value} {p0 : Int32} {p1 : Int32} {a : Nat} {w0 w1 : Value} {h : AH} : Run M_X7_readLengths 22 [x0, x1, x2, x3] (.int p1 :: .int p0 :: .ref a :: [w0, w1]) h = if refO h 7 (some (.ref a)) = true then (if (Call M_X7_number h [.ref a, .int p0, .int p1]).isSome = true then Run M_X7_readLengths 25 [x0, x1, x2, x3] (rL (Call M_X7_number h [.ref a, .int p0, .int p1]) ++ [w0, w1]) (cH (Call M_X7_number h [.ref a, .int p0, .int p1])) else none) else none := R_virt d_X7_readLengths_22 rfl rfl rfl rfl rfl (Nat.le_of_ble_eq_true rfl)
theorem d_X7_readLengths_25 : decode (mB M_X7_readLengths) 25 = .ok (.iastore, 1) := by decide +kernel
theorem r_X7_readLengths_25 {x0 x1 x2 x3 : Value} {a : Nat} {i x : Int32} {st : List Value} {h : AH} : Run M_X7_readLengths 25 [x0, x1, x2, x3] (.int x :: .int i :: .ref a :: st) h = if (pI 0 h a i x).isSome = true then Run M_X7_readLengths 26 [x0, x1, x2, x3] st ((pI 0 h a i x).getD h) else none := R_iastore d_X7_readLengths_25
theorem d_X7_readLengths_26 : decode (mB M_X7_readLengths) 26 = .ok (.aload_n 1, 1) := by decide +kernel
theorem r_X7_readLengths_26 {x0 x2 x3 : Value} {a : Nat} {st : List Value} {h : AH} : Run M_X7_readLengths 26 [x0, .ref a, x2, x3] st h = Run M_X7_readLengths 27 [x0, .ref a, x2, x3] (.ref a :: st) h := R_aload_n d_X7_readLengths_26 rfl
theorem d_X7_readLengths_27 : decode (mB M_X7_readLengths) 27 = .ok (.iload_n 3, 1) := by decide +kernel
theorem r_X7_readLengths_27 {x0 x1 x2 : Value} {a : Int32} {st : List Value} {h : AH} : Run M_X7_readLengths 27 [x0, x1, x2, .int a] st h = Run M_X7_readLengths 28 [x0, x1, x2, .int a] (.int a :: st) h := R_iload_n d_X7_readLengths_27 rfl
theorem d_X7_readLengths_28 : decode (mB M_X7_readLengths) 28 = .ok (.iconst 1, 1) := by decide +kernel
theorem r_X7_readLengths_28 {x0 x1 x2 x3 : Value} {st : List Value} {h : AH} : Run M_X7_readLengths 28 [x0, x1, x2, x3] st h = Run M_X7_readLengths 29 [x0, x1, x2, x3] (.int (nI 1) :: st) h := R_iconst d_X7_readLengths_28 (by decide)
theorem d_X7_readLengths_29 : decode (mB M_X7_readLengths) 29 = .ok (.iadd, 1) := by decide +kernel
theorem r_X7_readLengths_29 {x0 x1 x2 x3 : Value} {x y : Int32} {st : List Value} {h : AH} : Run M_X7_readLengths 29 [x0, x1, x2, x3] (.int y :: .int x :: st) h = Run M_X7_readLengths 30 [x0, x1, x2, x3] (.int (x + y) :: st) h := R_iadd d_X7_readLengths_29
theorem d_X7_readLengths_30 : decode (mB M_X7_readLengths) 30 = .ok (.putfield 114, 3) := by decide +kernel
theorem r_X7_readLengths_30 {x0 x1 x2 x3 : Value} {v : Int32} {a : Nat} {st : List Value} {h : AH} : Run M_X7_readLengths 30 [x0, x1, x2, x3] (.int v :: .ref a :: st) h = if (pF h a 6 3 (.int v)).isSome = true then Run M_X7_readLengths 33 [x0, x1, x2, x3] st ((pF h a 6 3 (.int v)).getD h) else none := R_putfield d_X7_readLengths_30 rfl (okP_int rfl rfl)
theorem d_X7_readLengths_33 : decode (mB M_X7_readLengths) 33 = .ok (.iload_n 3, 1) := by decide +kernel
theorem r_X7_readLengths_33 {x0 x1 x2 : Value} {a : Int32} {st : List Value} {h : AH} : Run M_X7_readLengths 33 [x0, x1, x2, .int a] st h = Run M_X7_readLengths 34 [x0, x1, x2, .int a] (.int a :: st) h := R_iload_n d_X7_readLengths_33 rfl
theorem d_X7_readLengths_34 : decode (mB M_X7_readLengths) 34 = .ok (.iconst 1, 1) := by decide +kernel
theorem r_X7_readLengths_34 {x0 x1 x2 x3 : Value} {st : List Value} {h : AH} : Run M_X7_readLengths 34 [x0, x1, x2, x3] st h = Run M_X7_readLengths 35 [x0, x1, x2, x3] (.int (nI 1) :: st) h := R_iconst d_X7_readLengths_34 (by decide)
theorem d_X7_readLengths_35 : decode (mB M_X7_readLengths) 35 = .ok (.iadd, 1) := by decide +kernel
theorem r_X7_readLengths_35 {x0 x1 x2 x3 : Value} {x y : Int32} {st : List Value} {h : AH} : Run M_X7_readLengths 35 [x0, x1, x2, x3] (.int y :: .int x :: st) h = Run M_X7_readLengths 36 [x0, x1, x2, x3] (.int (x + y) :: st) h := R_iadd d_X7_readLengths_35
theorem d_X7_readLengths_36 : decode (mB M_X7_readLengths) 36 = .ok (.iconst 4, 1) := by decide +kernel
theorem r_X7_readLengths_36 {x0 x1 x2 x3 : Value} {st : List Value} {h : AH} : Run M_X7_readLengths 36 [x0, x1, x2, x3] st h = Run M_X7_readLengths 37 [x0, x1, x2, x3] (.int (nI 4) :: st) h := R_iconst d_X7_readLengths_36 (by decide)
theorem d_X7_readLengths_37 : decode (mB M_X7_readLengths) 37 = .ok (.if_icmp .ge 14, 3) := by decide +kernel
theorem r_X7_readLengths_37 {x0 x1 x2 x3 : Value} {x y : Int32} {st : List Value} {h : AH} : Run M_X7_readLengths 37 [x0, x1, x2, x3] (.int y :: .int x :: st) h = if y ≤ x then Run M_X7_readLengths 51 [x0, x1, x2, x3] st h else Run M_X7_readLengths 40 [x0, x1, x2, x3] st h := R_icmp_ge d_X7_readLengths_37 (by decide)
theorem d_X7_readLengths_40 : decode (mB M_X7_readLengths) 40 = .ok (.aload_n 0, 1) := by decide +kernel
theorem r_X7_readLengths_40 {x1 x2 x3 : Value} {a : Nat} {st : List Value} {h : AH} : Run M_X7_readLengths 40 [.ref a, x1, x2, x3] st h = Run M_X7_readLengths 41 [.ref a, x1, x2, x3] (.ref a :: st) h := R_aload_n d_X7_readLengths_40 rfl
theorem d_X7_readLengths_41 : decode (mB M_X7_readLengths) 41 = .ok (.invokevirtual 117, 3) := by decide +kernel
theorem r_X7_readLengths_41 {x0 x1 x2 x3 : Value} {a : Nat} {h : AH} : Run M_X7_readLengths 41 [x0, x1, x2, x3] (.ref a :: []) h = if refO h 7 (some (.ref a)) = true then (if (Call M_X7_takeComma h [.ref a]).isSome = true then Run M_X7_readLengths 44 [x0, x1, x2, x3] (rL (Call M_X7_takeComma h [.ref a]) ++ []) (cH (Call M_X7_takeComma h [.ref a])) else none) else none := R_virt d_X7_readLengths_41 rfl rfl rfl rfl rfl (Nat.le_of_ble_eq_true rfl)
theorem d_X7_readLengths_44 : decode (mB M_X7_readLengths) 44 = .ok (.ifCond .eq 7, 3) := by decide +kernel
theorem r_X7_readLengths_44 {x0 x1 x2 x3 : Value} {x : Int32} {st : List Value} {h : AH} : Run M_X7_readLengths 44 [x0, x1, x2, x3] (.int x :: st) h = if x = nI 0 then Run M_X7_readLengths 51 [x0, x1, x2, x3] st h else Run M_X7_readLengths 47 [x0, x1, x2, x3] st h := R_if_eq d_X7_readLengths_44 (by decide)
theorem d_X7_readLengths_47 : decode (mB M_X7_readLengths) 47 = .ok (.iconst 1, 1) := by decide +kernel
theorem r_X7_readLengths_47 {x0 x1 x2 x3 : Value} {st : List Value} {h : AH} : Run M_X7_readLengths 47 [x0, x1, x2, x3] st h = Run M_X7_readLengths 48 [x0, x1, x2, x3] (.int (nI 1) :: st) h := R_iconst d_X7_readLengths_47 (by decide)
theorem d_X7_readLengths_48 : decode (mB M_X7_readLengths) 48 = .ok (.goto 4, 3) := by decide +kernel
theorem r_X7_readLengths_48 {x0 x1 x2 x3 : Value} {st : List Value} {h : AH} : Run M_X7_readLengths 48 [x0, x1, x2, x3] st h = Run M_X7_readLengths 52 [x0, x1, x2, x3] st h := R_goto d_X7_readLengths_48 (by decide)
theorem d_X7_readLengths_51 : decode (mB M_X7_readLengths) 51 = .ok (.iconst 0, 1) := by decide +kernel
theorem r_X7_readLengths_51 {x0 x1 x2 x3 : Value} {st : List Value} {h : AH} : Run M_X7_readLengths 51 [x0, x1, x2, x3] st h = Run M_X7_readLengths 52 [x0, x1, x2, x3] (.int (nI 0) :: st) h := R_iconst d_X7_readLengths_51 (by decide)
theorem d_X7_readLengths_52 : decode (mB M_X7_readLengths) 52 = .ok (.istore_n 2, 1) := by decide +kernel
theorem r_X7_readLengths_52 {x0 x1 x2 x3 : Value} {a : Int32} {st : List Value} {h : AH} (hc : x1.category = 1) : Run M_X7_readLengths 52 [x0, x1, x2, x3] (.int a :: st) h = Run M_X7_readLengths 53 [x0, x1, .int a, x3] st h := R_istore_n d_X7_readLengths_52 (Nat.lt_of_lt_of_le (by decide : 2 < 4) (Nat.le_refl 4)) (catP_of rfl hc)
theorem d_X7_readLengths_53 : decode (mB M_X7_readLengths) 53 = .ok (.iinc 3 1, 3) := by decide +kernel
theorem r_X7_readLengths_53 {x0 x1 x2 : Value} {a : Int32} {st : List Value} {h : AH} (hc : x2.category = 1) : Run M_X7_readLengths 53 [x0, x1, x2, .int a] st h = Run M_X7_readLengths 56 [x0, x1, x2, .int (a + (nI 1))] st h := R_iinc d_X7_readLengths_53 (by decide) rfl (catP_of rfl hc)
theorem d_X7_readLengths_56 : decode (mB M_X7_readLengths) 56 = .ok (.goto (-52), 3) := by decide +kernel
theorem r_X7_readLengths_56 {x0 x1 x2 x3 : Value} {st : List Value} {h : AH} : Run M_X7_readLengths 56 [x0, x1, x2, x3] st h = Run M_X7_readLengths 4 [x0, x1, x2, x3] st h := R_goto d_X7_readLengths_56 (by decide)
theorem d_X7_readLengths_59 : decode (mB M_X7_readLengths) 59 = .ok (.return_, 1) := by decide +kernel
theorem r_X7_readLengths_59 {x0 x1 x2 x3 : Value} {h : AH} : Run M_X7_readLengths 59 [x0, x1, x2, x3] [] h = some (h, none) := R_return d_X7_readLengths_59 rfl
theorem d_X7_readSign_0 : decode (mB M_X7_readSign) 0 = .ok (.aload_n 0, 1) := by decide +kernel
theorem r_X7_readSign_0 {x1 x2 x3 : Value} {a : Nat} {st : List Value} {h : AH} : Run M_X7_readSign 0 [.ref a, x1, x2, x3] st h = Run M_X7_readSign 1 [.ref a, x1, x2, x3] (.ref a :: st) h := R_aload_n d_X7_readSign_0 rfl
theorem d_X7_readSign_1 : decode (mB M_X7_readSign) 1 = .ok (.getfield 28, 3) := by decide +kernel
theorem r_X7_readSign_1 {x0 x1 x2 x3 : Value} {a : Nat} {st : List Value} {h : AH} : Run M_X7_readSign 1 [x0, x1, x2, x3] (.ref a :: st) h = if (gF h a 7 6).isSome = true then Run M_X7_readSign 4 [x0, x1, x2, x3] ((gF h a 7 6).getD .null :: st) h else none := R_getfield d_X7_readSign_1 rfl
theorem d_X7_readSign_4 : decode (mB M_X7_readSign) 4 = .ok (.ifCond .eq 13, 3) := by decide +kernel
theorem r_X7_readSign_4 {x0 x1 x2 x3 : Value} {x : Int32} {st : List Value} {h : AH} : Run M_X7_readSign 4 [x0, x1, x2, x3] (.int x :: st) h = if x = nI 0 then Run M_X7_readSign 17 [x0, x1, x2, x3] st h else Run M_X7_readSign 7 [x0, x1, x2, x3] st h := R_if_eq d_X7_readSign_4 (by decide)
theorem d_X7_readSign_7 : decode (mB M_X7_readSign) 7 = .ok (.aload_n 0, 1) := by decide +kernel
theorem r_X7_readSign_7 {x1 x2 x3 : Value} {a : Nat} {st : List Value} {h : AH} : Run M_X7_readSign 7 [.ref a, x1, x2, x3] st h = Run M_X7_readSign 8 [.ref a, x1, x2, x3] (.ref a :: st) h := R_aload_n d_X7_readSign_7 rfl
theorem d_X7_readSign_8 : decode (mB M_X7_readSign) 8 = .ok (.iconst 3, 1) := by decide +kernel
theorem r_X7_readSign_8 {x0 x1 x2 x3 : Value} {st : List Value} {h : AH} : Run M_X7_readSign 8 [x0, x1, x2, x3] st h = Run M_X7_readSign 9 [x0, x1, x2, x3] (.int (nI 3) :: st) h := R_iconst d_X7_readSign_8 (by decide)
theorem d_X7_readSign_9 : decode (mB M_X7_readSign) 9 = .ok (.aload_n 0, 1) := by decide +kernel
theorem r_X7_readSign_9 {x1 x2 x3 : Value} {a : Nat} {st : List Value} {h : AH} : Run M_X7_readSign 9 [.ref a, x1, x2, x3] st h = Run M_X7_readSign 10 [.ref a, x1, x2, x3] (.ref a :: st) h := R_aload_n d_X7_readSign_9 rfl
theorem d_X7_readSign_10 : decode (mB M_X7_readSign) 10 = .ok (.getfield 25, 3) := by decide +kernel
theorem r_X7_readSign_10 {x0 x1 x2 x3 : Value} {a : Nat} {st : List Value} {h : AH} : Run M_X7_readSign 10 [x0, x1, x2, x3] (.ref a :: st) h = if (gF h a 7 4).isSome = true then Run M_X7_readSign 13 [x0, x1, x2, x3] ((gF h a 7 4).getD .null :: st) h else none := R_getfield d_X7_readSign_10 rfl
theorem d_X7_readSign_13 : decode (mB M_X7_readSign) 13 = .ok (.invokevirtual 71, 3) := by decide +kernel
theorem r_X7_readSign_13 {x0 x1 x2 x3 : Value} {p0 : Int32} {p1 : Int32} {a : Nat} {h : AH} : Run M_X7_readSign 13 [x0, x1, x2, x3] (.int p1 :: .int p0 :: .ref a :: []) h = if refO h 7 (some (.ref a)) = true then (if (Call M_X7_fail h [.ref a, .int p0, .int p1]).isSome = true then Run M_X7_readSign 16 [x0, x1, x2, x3] (rL (Call M_X7_fail h [.ref a, .int p0, .int p1]) ++ []) (cH (Call M_X7_fail h [.ref a, .int p0, .int p1])) else none) else none := R_virt d_X7_readSign_13 rfl rfl rfl rfl rfl (Nat.le_of_ble_eq_true rfl)
theorem d_X7_readSign_16 : decode (mB M_X7_readSign) 16 = .ok (.return_, 1) := by decide +kernel
theorem r_X7_readSign_16 {x0 x1 x2 x3 : Value} {h : AH} : Run M_X7_readSign 16 [x0, x1, x2, x3] [] h = some (h, none) := R_return d_X7_readSign_16 rfl
theorem d_X7_readSign_17 : decode (mB M_X7_readSign) 17 = .ok (.aload_n 0, 1) := by decide +kernel
theorem r_X7_readSign_17 {x1 x2 x3 : Value} {a : Nat} {st : List Value} {h : AH} : Run M_X7_readSign 17 [.ref a, x1, x2, x3] st h = Run M_X7_readSign 18 [.ref a, x1, x2, x3] (.ref a :: st) h := R_aload_n d_X7_readSign_17 rfl
theorem d_X7_readSign_18 : decode (mB M_X7_readSign) 18 = .ok (.iconst 1, 1) := by decide +kernel
theorem r_X7_readSign_18 {x0 x1 x2 x3 : Value} {st : List Value} {h : AH} : Run M_X7_readSign 18 [x0, x1, x2, x3] st h = Run M_X7_readSign 19 [x0, x1, x2, x3] (.int (nI 1) :: st) h := R_iconst d_X7_readSign_18 (by decide)
theorem d_X7_readSign_19 : decode (mB M_X7_readSign) 19 = .ok (.putfield 28, 3) := by decide +kernel
theorem r_X7_readSign_19_0 {x0 x1 x2 x3 : Value} {a : Nat} {st : List Value} {h : AH} : Run M_X7_readSign 19 [x0, x1, x2, x3] (.int (nI 0) :: .ref a :: st) h = if (pF h a 7 6 (.int (nI 0))).isSome = true then Run M_X7_readSign 22 [x0, x1, x2, x3] st ((pF h a 7 6 (.int (nI 0))).getD h) else none := R_putfield d_X7_readSign_19 rfl (okP_bool rfl rfl (Or.inl rfl))
theorem r_X7_readSign_19_1 {x0 x1 x2 x3 : Value} {a : Nat} {st : List Value} {h : AH} : Run M_X7_readSign 19 [x0, x1, x2, x3] (.int (nI 1) :: .ref a :: st) h = if (pF h a 7 6 (.int (nI 1))).isSome = true then Run M_X7_readSign 22 [x0, x1, x2, x3] st ((pF h a 7 6 (.int (nI 1))).getD h) else none := R_putfield d_X7_readSign_19 rfl (okP_bool rfl rfl (Or.inr rfl))
theorem d_X7_readSign_22 : decode (mB M_X7_readSign) 22 = .ok (.aload_n 0, 1) := by decide +kernel
theorem r_X7_readSign_22 {x1 x2 x3 : Value} {a : Nat} {st : List Value} {h : AH} : Run M_X7_readSign 22 [.ref a, x1, x2, x3] st h = Run M_X7_readSign 23 [.ref a, x1, x2, x3] (.ref a :: st) h := R_aload_n d_X7_readSign_22 rfl
theorem d_X7_readSign_23 : decode (mB M_X7_readSign) 23 = .ok (.dup, 1) := by decide +kernel
theorem r_X7_readSign_23 {x0 x1 x2 x3 : Value} {x : Nat} {st : List Value} {h : AH} : Run M_X7_readSign 23 [x0, x1, x2, x3] (.ref x :: st) h = Run M_X7_readSign 24 [x0, x1, x2, x3] (.ref x :: .ref x :: st) h := R_dupr d_X7_readSign_23
theorem d_X7_readSign_24 : decode (mB M_X7_readSign) 24 = .ok (.getfield 25, 3) := by decide +kernel
theorem r_X7_readSign_24 {x0 x1 x2 x3 : Value} {a : Nat} {st : List Value} {h : AH} : Run M_X7_readSign 24 [x0, x1, x2, x3] (.ref a :: st) h = if (gF h a 7 4).isSome = true then Run M_X7_readSign 27 [x0, x1, x2, x3] ((gF h a 7 4).getD .null :: st) h else none := R_getfield d_X7_readSign_24 rfl
theorem d_X7_readSign_27 : decode (mB M_X7_readSign) 27 = .ok (.iconst 1, 1) := by decide +kernel
theorem r_X7_readSign_27 {x0 x1 x2 x3 : Value} {st : List Value} {h : AH} : Run M_X7_readSign 27 [x0, x1, x2, x3] st h = Run M_X7_readSign 28 [x0, x1, x2, x3] (.int (nI 1) :: st) h := R_iconst d_X7_readSign_27 (by decide)
theorem d_X7_readSign_28 : decode (mB M_X7_readSign) 28 = .ok (.iadd, 1) := by decide +kernel
theorem r_X7_readSign_28 {x0 x1 x2 x3 : Value} {x y : Int32} {st : List Value} {h : AH} : Run M_X7_readSign 28 [x0, x1, x2, x3] (.int y :: .int x :: st) h = Run M_X7_readSign 29 [x0, x1, x2, x3] (.int (x + y) :: st) h := R_iadd d_X7_readSign_28
theorem d_X7_readSign_29 : decode (mB M_X7_readSign) 29 = .ok (.putfield 25, 3) := by decide +kernel
theorem r_X7_readSign_29 {x0 x1 x2 x3 : Value} {v : Int32} {a : Nat} {st : List Value} {h : AH} : Run M_X7_readSign 29 [x0, x1, x2, x3] (.int v :: .ref a :: st) h = if (pF h a 7 4 (.int v)).isSome = true then Run M_X7_readSign 32 [x0, x1, x2, x3] st ((pF h a 7 4 (.int v)).getD h) else none := R_putfield d_X7_readSign_29 rfl (okP_int rfl rfl)
theorem d_X7_readSign_32 : decode (mB M_X7_readSign) 32 = .ok (.aload_n 0, 1) := by decide +kernel
theorem r_X7_readSign_32 {x1 x2 x3 : Value} {a : Nat} {st : List Value} {h : AH} : Run M_X7_readSign 32 [.ref a, x1, x2, x3] st h = Run M_X7_readSign 33 [.ref a, x1, x2, x3] (.ref a :: st) h := R_aload_n d_X7_readSign_32 rfl
theorem d_X7_readSign_33 : decode (mB M_X7_readSign) 33 = .ok (.iconst 0, 1) := by decide +kernel
theorem r_X7_readSign_33 {x0 x1 x2 x3 : Value} {st : List Value} {h : AH} : Run M_X7_readSign 33 [x0, x1, x2, x3] st h = Run M_X7_readSign 34 [x0, x1, x2, x3] (.int (nI 0) :: st) h := R_iconst d_X7_readSign_33 (by decide)
theorem d_X7_readSign_34 : decode (mB M_X7_readSign) 34 = .ok (.bipush 8, 2) := by decide +kernel
theorem r_X7_readSign_34 {x0 x1 x2 x3 : Value} {st : List Value} {h : AH} : Run M_X7_readSign 34 [x0, x1, x2, x3] st h = Run M_X7_readSign 36 [x0, x1, x2, x3] (.int (nI 8) :: st) h := R_bipush d_X7_readSign_34 (by decide)
theorem d_X7_readSign_36 : decode (mB M_X7_readSign) 36 = .ok (.invokevirtual 86, 3) := by decide +kernel
theorem r_X7_readSign_36 {x0 x1 x2 x3 : Value} {p0 : Int32} {p1 : Int32} {a : Nat} {h : AH} : Run M_X7_readSign 36 [x0, x1, x2, x3] (.int p1 :: .int p0 :: .ref a :: []) h = if refO h 7 (some (.ref a)) = true then (if (Call M_X7_number h [.ref a, .int p0, .int p1]).isSome = true then Run M_X7_readSign 39 [x0, x1, x2, x3] (rL (Call M_X7_number h [.ref a, .int p0, .int p1]) ++ []) (cH (Call M_X7_number h [.ref a, .int p0, .int p1])) else none) else none := R_virt d_X7_readSign_36 rfl rfl rfl rfl rfl (Nat.le_of_ble_eq_true rfl)
theorem d_X7_readSign_39 : decode (mB M_X7_readSign) 39 = .ok (.istore_n 2, 1) := by decide +kernel
theorem r_X7_readSign_39 {x0 x1 x2 x3 : Value} {a : Int32} {st : List Value} {h : AH} (hc : x1.category = 1) : Run M_X7_readSign 39 [x0, x1, x2, x3] (.int a :: st) h = Run M_X7_readSign 40 [x0, x1, .int a, x3] st h := R_istore_n d_X7_readSign_39 (Nat.lt_of_lt_of_le (by decide : 2 < 4) (Nat.le_refl 4)) (catP_of rfl hc)
theorem d_X7_readSign_40 : decode (mB M_X7_readSign) 40 = .ok (.aload_n 0, 1) := by decide +kernel
theorem r_X7_readSign_40 {x1 x2 x3 : Value} {a : Nat} {st : List Value} {h : AH} : Run M_X7_readSign 40 [.ref a, x1, x2, x3] st h = Run M_X7_readSign 41 [.ref a, x1, x2, x3] (.ref a :: st) h := R_aload_n d_X7_readSign_40 rfl
theorem d_X7_readSign_41 : decode (mB M_X7_readSign) 41 = .ok (.iconst 0, 1) := by decide +kernel
theorem r_X7_readSign_41 {x0 x1 x2 x3 : Value} {st : List Value} {h : AH} : Run M_X7_readSign 41 [x0, x1, x2, x3] st h = Run M_X7_readSign 42 [x0, x1, x2, x3] (.int (nI 0) :: st) h := R_iconst d_X7_readSign_41 (by decide)
theorem d_X7_readSign_42 : decode (mB M_X7_readSign) 42 = .ok (.bipush 8, 2) := by decide +kernel
theorem r_X7_readSign_42 {x0 x1 x2 x3 : Value} {st : List Value} {h : AH} : Run M_X7_readSign 42 [x0, x1, x2, x3] st h = Run M_X7_readSign 44 [x0, x1, x2, x3] (.int (nI 8) :: st) h := R_bipush d_X7_readSign_42 (by decide)
theorem d_X7_readSign_44 : decode (mB M_X7_readSign) 44 = .ok (.invokevirtual 86, 3) := by decide +kernel
theorem r_X7_readSign_44 {x0 x1 x2 x3 : Value} {p0 : Int32} {p1 : Int32} {a : Nat} {h : AH} : Run M_X7_readSign 44 [x0, x1, x2, x3] (.int p1 :: .int p0 :: .ref a :: []) h = if refO h 7 (some (.ref a)) = true then (if (Call M_X7_number h [.ref a, .int p0, .int p1]).isSome = true then Run M_X7_readSign 47 [x0, x1, x2, x3] (rL (Call M_X7_number h [.ref a, .int p0, .int p1]) ++ []) (cH (Call M_X7_number h [.ref a, .int p0, .int p1])) else none) else none := R_virt d_X7_readSign_44 rfl rfl rfl rfl rfl (Nat.le_of_ble_eq_true rfl)
theorem d_X7_readSign_47 : decode (mB M_X7_readSign) 47 = .ok (.istore_n 3, 1) := by decide +kernel
theorem r_X7_readSign_47 {x0 x1 x2 x3 : Value} {a : Int32} {st : List Value} {h : AH} (hc : x2.category = 1) : Run M_X7_readSign 47 [x0, x1, x2, x3] (.int a :: st) h = Run M_X7_readSign 48 [x0, x1, x2, .int a] st h := R_istore_n d_X7_readSign_47 (Nat.lt_of_lt_of_le (by decide : 3 < 4) (Nat.le_refl 4)) (catP_of rfl hc)
theorem d_X7_readSign_48 : decode (mB M_X7_readSign) 48 = .ok (.aload_n 0, 1) := by decide +kernel
theorem r_X7_readSign_48 {x1 x2 x3 : Value} {a : Nat} {st : List Value} {h : AH} : Run M_X7_readSign 48 [.ref a, x1, x2, x3] st h = Run M_X7_readSign 49 [.ref a, x1, x2, x3] (.ref a :: st) h := R_aload_n d_X7_readSign_48 rfl
theorem d_X7_readSign_49 : decode (mB M_X7_readSign) 49 = .ok (.invokevirtual 108, 3) := by decide +kernel
theorem r_X7_readSign_49 {x0 x1 x2 x3 : Value} {a : Nat} {h : AH} : Run M_X7_readSign 49 [x0, x1, x2, x3] (.ref a :: []) h = if refO h 7 (some (.ref a)) = true then (if (Call M_X7_close h [.ref a]).isSome = true then Run M_X7_readSign 52 [x0, x1, x2, x3] (rL (Call M_X7_close h [.ref a]) ++ []) (cH (Call M_X7_close h [.ref a])) else none) else none := R_virt d_X7_readSign_49 rfl rfl rfl rfl rfl (Nat.le_of_ble_eq_true rfl)
theorem d_X7_readSign_52 : decode (mB M_X7_readSign) 52 = .ok (.aload_n 1, 1) := by decide +kernel
theorem r_X7_readSign_52 {x0 x2 x3 : Value} {a : Nat} {st : List Value} {h : AH} : Run M_X7_readSign 52 [x0, .ref a, x2, x3] st h = Run M_X7_readSign 53 [x0, .ref a, x2, x3] (.ref a :: st) h := R_aload_n d_X7_readSign_52 rfl
theorem d_X7_readSign_53 : decode (mB M_X7_readSign) 53 = .ok (.iload_n 2, 1) := by decide +kernel
theorem r_X7_readSign_53 {x0 x1 x3 : Value} {a : Int32} {st : List Value} {h : AH} : Run M_X7_readSign 53 [x0, x1, .int a, x3] st h = Run M_X7_readSign 54 [x0, x1, .int a, x3] (.int a :: st) h := R_iload_n d_X7_readSign_53 rfl
theorem d_X7_readSign_54 : decode (mB M_X7_readSign) 54 = .ok (.iload_n 3, 1) := by decide +kernel
theorem r_X7_readSign_54 {x0 x1 x2 : Value} {a : Int32} {st : List Value} {h : AH} : Run M_X7_readSign 54 [x0, x1, x2, .int a] st h = Run M_X7_readSign 55 [x0, x1, x2, .int a] (.int a :: st) h := R_iload_n d_X7_readSign_54 rfl
theorem d_X7_readSign_55 : decode (mB M_X7_readSign) 55 = .ok (.invokevirtual 120, 3) := by decide +kernel
theorem r_X7_readSign_55 {x0 x1 x2 x3 : Value} {p0 : Int32} {p1 : Int32} {a : Nat} {h : AH} : Run M_X7_readSign 55 [x0, x1, x2, x3] (.int p1 :: .int p0 :: .ref a :: []) h = if refO h 0 (some (.ref a)) = true then (if (Call M_X0_setSign h [.ref a, .int p0, .int p1]).isSome = true then Run M_X7_readSign 58 [x0, x1, x2, x3] (rL (Call M_X0_setSign h [.ref a, .int p0, .int p1]) ++ []) (cH (Call M_X0_setSign h [.ref a, .int p0, .int p1])) else none) else none := R_virt d_X7_readSign_55 rfl rfl rfl rfl rfl (Nat.le_of_ble_eq_true rfl)
theorem d_X7_readSign_58 : decode (mB M_X7_readSign) 58 = .ok (.return_, 1) := by decide +kernel
theorem r_X7_readSign_58 {x0 x1 x2 x3 : Value} {h : AH} : Run M_X7_readSign 58 [x0, x1, x2, x3] [] h = some (h, none) := R_return d_X7_readSign_58 rfl
theorem d_X7_readCosts_0 : decode (mB M_X7_readCosts) 0 = .ok (.aload_n 0, 1) := by decide +kernel
theorem r_X7_readCosts_0 {x1 x2 x3 x4 : Value} {a : Nat} {st : List Value} {h : AH} : Run M_X7_readCosts 0 [.ref a, x1, x2, x3, x4] st h = Run M_X7_readCosts 1 [.ref a, x1, x2, x3, x4] (.ref a :: st) h := R_aload_n d_X7_readCosts_0 rfl
theorem d_X7_readCosts_1 : decode (mB M_X7_readCosts) 1 = .ok (.getfield 32, 3) := by decide +kernel
theorem r_X7_readCosts_1 {x0 x1 x2 x3 x4 : Value} {a : Nat} {st : List Value} {h : AH} : Run M_X7_readCosts 1 [x0, x1, x2, x3, x4] (.ref a :: st) h = if (gF h a 7 7).isSome = true then Run M_X7_readCosts 4 [x0, x1, x2, x3, x4] ((gF h a 7 7).getD .null :: st) h else none := R_getfield d_X7_readCosts_1 rfl
theorem d_X7_readCosts_4 : decode (mB M_X7_readCosts) 4 = .ok (.ifCond .eq 13, 3) := by decide +kernel
theorem r_X7_readCosts_4 {x0 x1 x2 x3 x4 : Value} {x : Int32} {st : List Value} {h : AH} : Run M_X7_readCosts 4 [x0, x1, x2, x3, x4] (.int x :: st) h = if x = nI 0 then Run M_X7_readCosts 17 [x0, x1, x2, x3, x4] st h else Run M_X7_readCosts 7 [x0, x1, x2, x3, x4] st h := R_if_eq d_X7_readCosts_4 (by decide)
theorem d_X7_readCosts_7 : decode (mB M_X7_readCosts) 7 = .ok (.aload_n 0, 1) := by decide +kernel
theorem r_X7_readCosts_7 {x1 x2 x3 x4 : Value} {a : Nat} {st : List Value} {h : AH} : Run M_X7_readCosts 7 [.ref a, x1, x2, x3, x4] st h = Run M_X7_readCosts 8 [.ref a, x1, x2, x3, x4] (.ref a :: st) h := R_aload_n d_X7_readCosts_7 rfl
theorem d_X7_readCosts_8 : decode (mB M_X7_readCosts) 8 = .ok (.iconst 3, 1) := by decide +kernel
theorem r_X7_readCosts_8 {x0 x1 x2 x3 x4 : Value} {st : List Value} {h : AH} : Run M_X7_readCosts 8 [x0, x1, x2, x3, x4] st h = Run M_X7_readCosts 9 [x0, x1, x2, x3, x4] (.int (nI 3) :: st) h := R_iconst d_X7_readCosts_8 (by decide)
theorem d_X7_readCosts_9 : decode (mB M_X7_readCosts) 9 = .ok (.aload_n 0, 1) := by decide +kernel
theorem r_X7_readCosts_9 {x1 x2 x3 x4 : Value} {a : Nat} {st : List Value} {h : AH} : Run M_X7_readCosts 9 [.ref a, x1, x2, x3, x4] st h = Run M_X7_readCosts 10 [.ref a, x1, x2, x3, x4] (.ref a :: st) h := R_aload_n d_X7_readCosts_9 rfl
theorem d_X7_readCosts_10 : decode (mB M_X7_readCosts) 10 = .ok (.getfield 25, 3) := by decide +kernel
theorem r_X7_readCosts_10 {x0 x1 x2 x3 x4 : Value} {a : Nat} {st : List Value} {h : AH} : Run M_X7_readCosts 10 [x0, x1, x2, x3, x4] (.ref a :: st) h = if (gF h a 7 4).isSome = true then Run M_X7_readCosts 13 [x0, x1, x2, x3, x4] ((gF h a 7 4).getD .null :: st) h else none := R_getfield d_X7_readCosts_10 rfl
theorem d_X7_readCosts_13 : decode (mB M_X7_readCosts) 13 = .ok (.invokevirtual 71, 3) := by decide +kernel
theorem r_X7_readCosts_13 {x0 x1 x2 x3 x4 : Value} {p0 : Int32} {p1 : Int32} {a : Nat} {h : AH} : Run M_X7_readCosts 13 [x0, x1, x2, x3, x4] (.int p1 :: .int p0 :: .ref a :: []) h = if refO h 7 (some (.ref a)) = true then (if (Call M_X7_fail h [.ref a, .int p0, .int p1]).isSome = true then Run M_X7_readCosts 16 [x0, x1, x2, x3, x4] (rL (Call M_X7_fail h [.ref a, .int p0, .int p1]) ++ []) (cH (Call M_X7_fail h [.ref a, .int p0, .int p1])) else none) else none := R_virt d_X7_readCosts_13 rfl rfl rfl rfl rfl (Nat.le_of_ble_eq_true rfl)
theorem d_X7_readCosts_16 : decode (mB M_X7_readCosts) 16 = .ok (.return_, 1) := by decide +kernel
theorem r_X7_readCosts_16 {x0 x1 x2 x3 x4 : Value} {h : AH} : Run M_X7_readCosts 16 [x0, x1, x2, x3, x4] [] h = some (h, none) := R_return d_X7_readCosts_16 rfl
theorem d_X7_readCosts_17 : decode (mB M_X7_readCosts) 17 = .ok (.aload_n 0, 1) := by decide +kernel
theorem r_X7_readCosts_17 {x1 x2 x3 x4 : Value} {a : Nat} {st : List Value} {h : AH} : Run M_X7_readCosts 17 [.ref a, x1, x2, x3, x4] st h = Run M_X7_readCosts 18 [.ref a, x1, x2, x3, x4] (.ref a :: st) h := R_aload_n d_X7_readCosts_17 rfl
theorem d_X7_readCosts_18 : decode (mB M_X7_readCosts) 18 = .ok (.iconst 1, 1) := by decide +kernel
theorem r_X7_readCosts_18 {x0 x1 x2 x3 x4 : Value} {st : List Value} {h : AH} : Run M_X7_readCosts 18 [x0, x1, x2, x3, x4] st h = Run M_X7_readCosts 19 [x0, x1, x2, x3, x4] (.int (nI 1) :: st) h := R_iconst d_X7_readCosts_18 (by decide)
theorem d_X7_readCosts_19 : decode (mB M_X7_readCosts) 19 = .ok (.putfield 32, 3) := by decide +kernel
theorem r_X7_readCosts_19_0 {x0 x1 x2 x3 x4 : Value} {a : Nat} {st : List Value} {h : AH} : Run M_X7_readCosts 19 [x0, x1, x2, x3, x4] (.int (nI 0) :: .ref a :: st) h = if (pF h a 7 7 (.int (nI 0))).isSome = true then Run M_X7_readCosts 22 [x0, x1, x2, x3, x4] st ((pF h a 7 7 (.int (nI 0))).getD h) else none := R_putfield d_X7_readCosts_19 rfl (okP_bool rfl rfl (Or.inl rfl))
theorem r_X7_readCosts_19_1 {x0 x1 x2 x3 x4 : Value} {a : Nat} {st : List Value} {h : AH} : Run M_X7_readCosts 19 [x0, x1, x2, x3, x4] (.int (nI 1) :: .ref a :: st) h = if (pF h a 7 7 (.int (nI 1))).isSome = true then Run M_X7_readCosts 22 [x0, x1, x2, x3, x4] st ((pF h a 7 7 (.int (nI 1))).getD h) else none := R_putfield d_X7_readCosts_19 rfl (okP_bool rfl rfl (Or.inr rfl))
theorem d_X7_readCosts_22 : decode (mB M_X7_readCosts) 22 = .ok (.aload_n 0, 1) := by decide +kernel
theorem r_X7_readCosts_22 {x1 x2 x3 x4 : Value} {a : Nat} {st : List Value} {h : AH} : Run M_X7_readCosts 22 [.ref a, x1, x2, x3, x4] st h = Run M_X7_readCosts 23 [.ref a, x1, x2, x3, x4] (.ref a :: st) h := R_aload_n d_X7_readCosts_22 rfl
theorem d_X7_readCosts_23 : decode (mB M_X7_readCosts) 23 = .ok (.dup, 1) := by decide +kernel
theorem r_X7_readCosts_23 {x0 x1 x2 x3 x4 : Value} {x : Nat} {st : List Value} {h : AH} : Run M_X7_readCosts 23 [x0, x1, x2, x3, x4] (.ref x :: st) h = Run M_X7_readCosts 24 [x0, x1, x2, x3, x4] (.ref x :: .ref x :: st) h := R_dupr d_X7_readCosts_23
theorem d_X7_readCosts_24 : decode (mB M_X7_readCosts) 24 = .ok (.getfield 25, 3) := by decide +kernel
theorem r_X7_readCosts_24 {x0 x1 x2 x3 x4 : Value} {a : Nat} {st : List Value} {h : AH} : Run M_X7_readCosts 24 [x0, x1, x2, x3, x4] (.ref a :: st) h = if (gF h a 7 4).isSome = true then Run M_X7_readCosts 27 [x0, x1, x2, x3, x4] ((gF h a 7 4).getD .null :: st) h else none := R_getfield d_X7_readCosts_24 rfl
theorem d_X7_readCosts_27 : decode (mB M_X7_readCosts) 27 = .ok (.iconst 1, 1) := by decide +kernel
theorem r_X7_readCosts_27 {x0 x1 x2 x3 x4 : Value} {st : List Value} {h : AH} : Run M_X7_readCosts 27 [x0, x1, x2, x3, x4] st h = Run M_X7_readCosts 28 [x0, x1, x2, x3, x4] (.int (nI 1) :: st) h := R_iconst d_X7_readCosts_27 (by decide)
theorem d_X7_readCosts_28 : decode (mB M_X7_readCosts) 28 = .ok (.iadd, 1) := by decide +kernel
theorem r_X7_readCosts_28 {x0 x1 x2 x3 x4 : Value} {x y : Int32} {st : List Value} {h : AH} : Run M_X7_readCosts 28 [x0, x1, x2, x3, x4] (.int y :: .int x :: st) h = Run M_X7_readCosts 29 [x0, x1, x2, x3, x4] (.int (x + y) :: st) h := R_iadd d_X7_readCosts_28
theorem d_X7_readCosts_29 : decode (mB M_X7_readCosts) 29 = .ok (.putfield 25, 3) := by decide +kernel
theorem r_X7_readCosts_29 {x0 x1 x2 x3 x4 : Value} {v : Int32} {a : Nat} {st : List Value} {h : AH} : Run M_X7_readCosts 29 [x0, x1, x2, x3, x4] (.int v :: .ref a :: st) h = if (pF h a 7 4 (.int v)).isSome = true then Run M_X7_readCosts 32 [x0, x1, x2, x3, x4] st ((pF h a 7 4 (.int v)).getD h) else none := R_putfield d_X7_readCosts_29 rfl (okP_int rfl rfl)
theorem d_X7_readCosts_32 : decode (mB M_X7_readCosts) 32 = .ok (.aload_n 0, 1) := by decide +kernel
theorem r_X7_readCosts_32 {x1 x2 x3 x4 : Value} {a : Nat} {st : List Value} {h : AH} : Run M_X7_readCosts 32 [.ref a, x1, x2, x3, x4] st h = Run M_X7_readCosts 33 [.ref a, x1, x2, x3, x4] (.ref a :: st) h := R_aload_n d_X7_readCosts_32 rfl
theorem d_X7_readCosts_33 : decode (mB M_X7_readCosts) 33 = .ok (.iconst 0, 1) := by decide +kernel
theorem r_X7_readCosts_33 {x0 x1 x2 x3 x4 : Value} {st : List Value} {h : AH} : Run M_X7_readCosts 33 [x0, x1, x2, x3, x4] st h = Run M_X7_readCosts 34 [x0, x1, x2, x3, x4] (.int (nI 0) :: st) h := R_iconst d_X7_readCosts_33 (by decide)
theorem d_X7_readCosts_34 : decode (mB M_X7_readCosts) 34 = .ok (.bipush 20, 2) := by decide +kernel
theorem r_X7_readCosts_34 {x0 x1 x2 x3 x4 : Value} {st : List Value} {h : AH} : Run M_X7_readCosts 34 [x0, x1, x2, x3, x4] st h = Run M_X7_readCosts 36 [x0, x1, x2, x3, x4] (.int (nI 20) :: st) h := R_bipush d_X7_readCosts_34 (by decide)
theorem d_X7_readCosts_36 : decode (mB M_X7_readCosts) 36 = .ok (.invokevirtual 86, 3) := by decide +kernel
theorem r_X7_readCosts_36 {x0 x1 x2 x3 x4 : Value} {p0 : Int32} {p1 : Int32} {a : Nat} {h : AH} : Run M_X7_readCosts 36 [x0, x1, x2, x3, x4] (.int p1 :: .int p0 :: .ref a :: []) h = if refO h 7 (some (.ref a)) = true then (if (Call M_X7_number h [.ref a, .int p0, .int p1]).isSome = true then Run M_X7_readCosts 39 [x0, x1, x2, x3, x4] (rL (Call M_X7_number h [.ref a, .int p0, .int p1]) ++ []) (cH (Call M_X7_number h [.ref a, .int p0, .int p1])) else none) else none := R_virt d_X7_readCosts_36 rfl rfl rfl rfl rfl (Nat.le_of_ble_eq_true rfl)
theorem d_X7_readCosts_39 : decode (mB M_X7_readCosts) 39 = .ok (.istore_n 2, 1) := by decide +kernel
theorem r_X7_readCosts_39 {x0 x1 x2 x3 x4 : Value} {a : Int32} {st : List Value} {h : AH} (hc : x1.category = 1) : Run M_X7_readCosts 39 [x0, x1, x2, x3, x4] (.int a :: st) h = Run M_X7_readCosts 40 [x0, x1, .int a, x3, x4] st h := R_istore_n d_X7_readCosts_39 (Nat.lt_of_lt_of_le (by decide : 2 < 5) (Nat.le_refl 5)) (catP_of rfl hc)
theorem d_X7_readCosts_40 : decode (mB M_X7_readCosts) 40 = .ok (.aload_n 0, 1) := by decide +kernel
theorem r_X7_readCosts_40 {x1 x2 x3 x4 : Value} {a : Nat} {st : List Value} {h : AH} : Run M_X7_readCosts 40 [.ref a, x1, x2, x3, x4] st h = Run M_X7_readCosts 41 [.ref a, x1, x2, x3, x4] (.ref a :: st) h := R_aload_n d_X7_readCosts_40 rfl
theorem d_X7_readCosts_41 : decode (mB M_X7_readCosts) 41 = .ok (.iconst 0, 1) := by decide +kernel
theorem r_X7_readCosts_41 {x0 x1 x2 x3 x4 : Value} {st : List Value} {h : AH} : Run M_X7_readCosts 41 [x0, x1, x2, x3, x4] st h = Run M_X7_readCosts 42 [x0, x1, x2, x3, x4] (.int (nI 0) :: st) h := R_iconst d_X7_readCosts_41 (by decide)
theorem d_X7_readCosts_42 : decode (mB M_X7_readCosts) 42 = .ok (.bipush 20, 2) := by decide +kernel
theorem r_X7_readCosts_42 {x0 x1 x2 x3 x4 : Value} {st : List Value} {h : AH} : Run M_X7_readCosts 42 [x0, x1, x2, x3, x4] st h = Run M_X7_readCosts 44 [x0, x1, x2, x3, x4] (.int (nI 20) :: st) h := R_bipush d_X7_readCosts_42 (by decide)
theorem d_X7_readCosts_44 : decode (mB M_X7_readCosts) 44 = .ok (.invokevirtual 86, 3) := by decide +kernel
theorem r_X7_readCosts_44 {x0 x1 x2 x3 x4 : Value} {p0 : Int32} {p1 : Int32} {a : Nat} {h : AH} : Run M_X7_readCosts 44 [x0, x1, x2, x3, x4] (.int p1 :: .int p0 :: .ref a :: []) h = if refO h 7 (some (.ref a)) = true then (if (Call M_X7_number h [.ref a, .int p0, .int p1]).isSome = true then Run M_X7_readCosts 47 [x0, x1, x2, x3, x4] (rL (Call M_X7_number h [.ref a, .int p0, .int p1]) ++ []) (cH (Call M_X7_number h [.ref a, .int p0, .int p1])) else none) else none := R_virt d_X7_readCosts_44 rfl rfl rfl rfl rfl (Nat.le_of_ble_eq_true rfl)
theorem d_X7_readCosts_47 : decode (mB M_X7_readCosts) 47 = .ok (.istore_n 3, 1) := by decide +kernel
theorem r_X7_readCosts_47 {x0 x1 x2 x3 x4 : Value} {a : Int32} {st : List Value} {h : AH} (hc : x2.category = 1) : Run M_X7_readCosts 47 [x0, x1, x2, x3, x4] (.int a :: st) h = Run M_X7_readCosts 48 [x0, x1, x2, .int a, x4] st h := R_istore_n d_X7_readCosts_47 (Nat.lt_of_lt_of_le (by decide : 3 < 5) (Nat.le_refl 5)) (catP_of rfl hc)
theorem d_X7_readCosts_48 : decode (mB M_X7_readCosts) 48 = .ok (.aload_n 0, 1) := by decide +kernel
theorem r_X7_readCosts_48 {x1 x2 x3 x4 : Value} {a : Nat} {st : List Value} {h : AH} : Run M_X7_readCosts 48 [.ref a, x1, x2, x3, x4] st h = Run M_X7_readCosts 49 [.ref a, x1, x2, x3, x4] (.ref a :: st) h := R_aload_n d_X7_readCosts_48 rfl
theorem d_X7_readCosts_49 : decode (mB M_X7_readCosts) 49 = .ok (.iconst 0, 1) := by decide +kernel
theorem r_X7_readCosts_49 {x0 x1 x2 x3 x4 : Value} {st : List Value} {h : AH} : Run M_X7_readCosts 49 [x0, x1, x2, x3, x4] st h = Run M_X7_readCosts 50 [x0, x1, x2, x3, x4] (.int (nI 0) :: st) h := R_iconst d_X7_readCosts_49 (by decide)
theorem d_X7_readCosts_50 : decode (mB M_X7_readCosts) 50 = .ok (.bipush 20, 2) := by decide +kernel
theorem r_X7_readCosts_50 {x0 x1 x2 x3 x4 : Value} {st : List Value} {h : AH} : Run M_X7_readCosts 50 [x0, x1, x2, x3, x4] st h = Run M_X7_readCosts 52 [x0, x1, x2, x3, x4] (.int (nI 20) :: st) h := R_bipush d_X7_readCosts_50 (by decide)
theorem d_X7_readCosts_52 : decode (mB M_X7_readCosts) 52 = .ok (.invokevirtual 86, 3) := by decide +kernel
theorem r_X7_readCosts_52 {x0 x1 x2 x3 x4 : Value} {p0 : Int32} {p1 : Int32} {a : Nat} {h : AH} : Run M_X7_readCosts 52 [x0, x1, x2, x3, x4] (.int p1 :: .int p0 :: .ref a :: []) h = if refO h 7 (some (.ref a)) = true then (if (Call M_X7_number h [.ref a, .int p0, .int p1]).isSome = true then Run M_X7_readCosts 55 [x0, x1, x2, x3, x4] (rL (Call M_X7_number h [.ref a, .int p0, .int p1]) ++ []) (cH (Call M_X7_number h [.ref a, .int p0, .int p1])) else none) else none := R_virt d_X7_readCosts_52 rfl rfl rfl rfl rfl (Nat.le_of_ble_eq_true rfl)
theorem d_X7_readCosts_55 : decode (mB M_X7_readCosts) 55 = .ok (.istore 4, 2) := by decide +kernel
theorem r_X7_readCosts_55 {x0 x1 x2 x3 x4 : Value} {a : Int32} {st : List Value} {h : AH} (hc : x3.category = 1) : Run M_X7_readCosts 55 [x0, x1, x2, x3, x4] (.int a :: st) h = Run M_X7_readCosts 57 [x0, x1, x2, x3, .int a] st h := R_istore d_X7_readCosts_55 (Nat.lt_of_lt_of_le (by decide : 4 < 5) (Nat.le_refl 5)) (catP_of rfl hc)
theorem d_X7_readCosts_57 : decode (mB M_X7_readCosts) 57 = .ok (.aload_n 0, 1) := by decide +kernel
theorem r_X7_readCosts_57 {x1 x2 x3 x4 : Value} {a : Nat} {st : List Value} {h : AH} : Run M_X7_readCosts 57 [.ref a, x1, x2, x3, x4] st h = Run M_X7_readCosts 58 [.ref a, x1, x2, x3, x4] (.ref a :: st) h := R_aload_n d_X7_readCosts_57 rfl
theorem d_X7_readCosts_58 : decode (mB M_X7_readCosts) 58 = .ok (.invokevirtual 108, 3) := by decide +kernel
theorem r_X7_readCosts_58 {x0 x1 x2 x3 x4 : Value} {a : Nat} {h : AH} : Run M_X7_readCosts 58 [x0, x1, x2, x3, x4] (.ref a :: []) h = if refO h 7 (some (.ref a)) = true then (if (Call M_X7_close h [.ref a]).isSome = true then Run M_X7_readCosts 61 [x0, x1, x2, x3, x4] (rL (Call M_X7_close h [.ref a]) ++ []) (cH (Call M_X7_close h [.ref a])) else none) else none := R_virt d_X7_readCosts_58 rfl rfl rfl rfl rfl (Nat.le_of_ble_eq_true rfl)
theorem d_X7_readCosts_61 : decode (mB M_X7_readCosts) 61 = .ok (.aload_n 1, 1) := by decide +kernel
theorem r_X7_readCosts_61 {x0 x2 x3 x4 : Value} {a : Nat} {st : List Value} {h : AH} : Run M_X7_readCosts 61 [x0, .ref a, x2, x3, x4] st h = Run M_X7_readCosts 62 [x0, .ref a, x2, x3, x4] (.ref a :: st) h := R_aload_n d_X7_readCosts_61 rfl
theorem d_X7_readCosts_62 : decode (mB M_X7_readCosts) 62 = .ok (.iload_n 2, 1) := by decide +kernel
theorem r_X7_readCosts_62 {x0 x1 x3 x4 : Value} {a : Int32} {st : List Value} {h : AH} : Run M_X7_readCosts 62 [x0, x1, .int a, x3, x4] st h = Run M_X7_readCosts 63 [x0, x1, .int a, x3, x4] (.int a :: st) h := R_iload_n d_X7_readCosts_62 rfl
theorem d_X7_readCosts_63 : decode (mB M_X7_readCosts) 63 = .ok (.iload_n 3, 1) := by decide +kernel
theorem r_X7_readCosts_63 {x0 x1 x2 x4 : Value} {a : Int32} {st : List Value} {h : AH} : Run M_X7_readCosts 63 [x0, x1, x2, .int a, x4] st h = Run M_X7_readCosts 64 [x0, x1, x2, .int a, x4] (.int a :: st) h := R_iload_n d_X7_readCosts_63 rfl
theorem d_X7_readCosts_64 : decode (mB M_X7_readCosts) 64 = .ok (.iload 4, 2) := by decide +kernel
theorem r_X7_readCosts_64 {x0 x1 x2 x3 : Value} {a : Int32} {st : List Value} {h : AH} : Run M_X7_readCosts 64 [x0, x1, x2, x3, .int a] st h = Run M_X7_readCosts 66 [x0, x1, x2, x3, .int a] (.int a :: st) h := R_iload d_X7_readCosts_64 rfl
theorem d_X7_readCosts_66 : decode (mB M_X7_readCosts) 66 = .ok (.invokevirtual 125, 3) := by decide +kernel
theorem r_X7_readCosts_66 {x0 x1 x2 x3 x4 : Value} {p0 : Int32} {p1 : Int32} {p2 : Int32} {a : Nat} {h : AH} : Run M_X7_readCosts 66 [x0, x1, x2, x3, x4] (.int p2 :: .int p1 :: .int p0 :: .ref a :: []) h = if refO h 0 (some (.ref a)) = true then (if (Call M_X0_setCosts h [.ref a, .int p0, .int p1, .int p2]).isSome = true then Run M_X7_readCosts 69 [x0, x1, x2, x3, x4] (rL (Call M_X0_setCosts h [.ref a, .int p0, .int p1, .int p2]) ++ []) (cH (Call M_X0_setCosts h [.ref a, .int p0, .int p1, .int p2])) else none) else none := R_virt d_X7_readCosts_66 rfl rfl rfl rfl rfl (Nat.le_of_ble_eq_true rfl)
theorem d_X7_readCosts_69 : decode (mB M_X7_readCosts) 69 = .ok (.return_, 1) := by decide +kernel
theorem r_X7_readCosts_69 {x0 x1 x2 x3 x4 : Value} {h : AH} : Run M_X7_readCosts 69 [x0, x1, x2, x3, x4] [] h = some (h, none) := R_return d_X7_readCosts_69 rfl
theorem d_X7_readPlayer_0 : decode (mB M_X7_readPlayer) 0 = .ok (.aload_n 1, 1) := by decide +kernel
theorem r_X7_readPlayer_0 {x0 : Value} {a : Nat} {st : List Value} {h : AH} : Run M_X7_readPlayer 0 [x0, .ref a] st h = Run M_X7_readPlayer 1 [x0, .ref a] (.ref a :: st) h := R_aload_n d_X7_readPlayer_0 rfl
theorem d_X7_readPlayer_1 : decode (mB M_X7_readPlayer) 1 = .ok (.getfield 129, 3) := by decide +kernel
theorem r_X7_readPlayer_1 {x0 x1 : Value} {a : Nat} {st : List Value} {h : AH} : Run M_X7_readPlayer 1 [x0, x1] (.ref a :: st) h = if (gF h a 4 2).isSome = true then Run M_X7_readPlayer 4 [x0, x1] ((gF h a 4 2).getD .null :: st) h else none := R_getfield d_X7_readPlayer_1 rfl
theorem d_X7_readPlayer_4 : decode (mB M_X7_readPlayer) 4 = .ok (.iconst 5, 1) := by decide +kernel
theorem r_X7_readPlayer_4 {x0 x1 : Value} {st : List Value} {h : AH} : Run M_X7_readPlayer 4 [x0, x1] st h = Run M_X7_readPlayer 5 [x0, x1] (.int (nI 5) :: st) h := R_iconst d_X7_readPlayer_4 (by decide)
theorem d_X7_readPlayer_5 : decode (mB M_X7_readPlayer) 5 = .ok (.if_icmp .lt 13, 3) := by decide +kernel
theorem r_X7_readPlayer_5 {x0 x1 : Value} {x y : Int32} {st : List Value} {h : AH} : Run M_X7_readPlayer 5 [x0, x1] (.int y :: .int x :: st) h = if x < y then Run M_X7_readPlayer 18 [x0, x1] st h else Run M_X7_readPlayer 8 [x0, x1] st h := R_icmp_lt d_X7_readPlayer_5 (by decide)
theorem d_X7_readPlayer_8 : decode (mB M_X7_readPlayer) 8 = .ok (.aload_n 0, 1) := by decide +kernel
theorem r_X7_readPlayer_8 {x1 : Value} {a : Nat} {st : List Value} {h : AH} : Run M_X7_readPlayer 8 [.ref a, x1] st h = Run M_X7_readPlayer 9 [.ref a, x1] (.ref a :: st) h := R_aload_n d_X7_readPlayer_8 rfl
theorem d_X7_readPlayer_9 : decode (mB M_X7_readPlayer) 9 = .ok (.iconst 3, 1) := by decide +kernel
theorem r_X7_readPlayer_9 {x0 x1 : Value} {st : List Value} {h : AH} : Run M_X7_readPlayer 9 [x0, x1] st h = Run M_X7_readPlayer 10 [x0, x1] (.int (nI 3) :: st) h := R_iconst d_X7_readPlayer_9 (by decide)
theorem d_X7_readPlayer_10 : decode (mB M_X7_readPlayer) 10 = .ok (.aload_n 0, 1) := by decide +kernel
theorem r_X7_readPlayer_10 {x1 : Value} {a : Nat} {st : List Value} {h : AH} : Run M_X7_readPlayer 10 [.ref a, x1] st h = Run M_X7_readPlayer 11 [.ref a, x1] (.ref a :: st) h := R_aload_n d_X7_readPlayer_10 rfl
theorem d_X7_readPlayer_11 : decode (mB M_X7_readPlayer) 11 = .ok (.getfield 25, 3) := by decide +kernel
theorem r_X7_readPlayer_11 {x0 x1 : Value} {a : Nat} {st : List Value} {h : AH} : Run M_X7_readPlayer 11 [x0, x1] (.ref a :: st) h = if (gF h a 7 4).isSome = true then Run M_X7_readPlayer 14 [x0, x1] ((gF h a 7 4).getD .null :: st) h else none := R_getfield d_X7_readPlayer_11 rfl
theorem d_X7_readPlayer_14 : decode (mB M_X7_readPlayer) 14 = .ok (.invokevirtual 71, 3) := by decide +kernel
theorem r_X7_readPlayer_14 {x0 x1 : Value} {p0 : Int32} {p1 : Int32} {a : Nat} {h : AH} : Run M_X7_readPlayer 14 [x0, x1] (.int p1 :: .int p0 :: .ref a :: []) h = if refO h 7 (some (.ref a)) = true then (if (Call M_X7_fail h [.ref a, .int p0, .int p1]).isSome = true then Run M_X7_readPlayer 17 [x0, x1] (rL (Call M_X7_fail h [.ref a, .int p0, .int p1]) ++ []) (cH (Call M_X7_fail h [.ref a, .int p0, .int p1])) else none) else none := R_virt d_X7_readPlayer_14 rfl rfl rfl rfl rfl (Nat.le_of_ble_eq_true rfl)
theorem d_X7_readPlayer_17 : decode (mB M_X7_readPlayer) 17 = .ok (.return_, 1) := by decide +kernel
theorem r_X7_readPlayer_17 {x0 x1 : Value} {h : AH} : Run M_X7_readPlayer 17 [x0, x1] [] h = some (h, none) := R_return d_X7_readPlayer_17 rfl
theorem d_X7_readPlayer_18 : decode (mB M_X7_readPlayer) 18 = .ok (.aload_n 0, 1) := by decide +kernel
theorem r_X7_readPlayer_18 {x1 : Value} {a : Nat} {st : List Value} {h : AH} : Run M_X7_readPlayer 18 [.ref a, x1] st h = Run M_X7_readPlayer 19 [.ref a, x1] (.ref a :: st) h := R_aload_n d_X7_readPlayer_18 rfl
theorem d_X7_readPlayer_19 : decode (mB M_X7_readPlayer) 19 = .ok (.dup, 1) := by decide +kernel
theorem r_X7_readPlayer_19 {x0 x1 : Value} {x : Nat} {st : List Value} {h : AH} : Run M_X7_readPlayer 19 [x0, x1] (.ref x :: st) h = Run M_X7_readPlayer 20 [x0, x1] (.ref x :: .ref x :: st) h := R_dupr d_X7_readPlayer_19
theorem d_X7_readPlayer_20 : decode (mB M_X7_readPlayer) 20 = .ok (.getfield 25, 3) := by decide +kernel
theorem r_X7_readPlayer_20 {x0 x1 : Value} {a : Nat} {st : List Value} {h : AH} : Run M_X7_readPlayer 20 [x0, x1] (.ref a :: st) h = if (gF h a 7 4).isSome = true then Run M_X7_readPlayer 23 [x0, x1] ((gF h a 7 4).getD .null :: st) h else none := R_getfield d_X7_readPlayer_20 rfl
theorem d_X7_readPlayer_23 : decode (mB M_X7_readPlayer) 23 = .ok (.iconst 1, 1) := by decide +kernel
theorem r_X7_readPlayer_23 {x0 x1 : Value} {st : List Value} {h : AH} : Run M_X7_readPlayer 23 [x0, x1] st h = Run M_X7_readPlayer 24 [x0, x1] (.int (nI 1) :: st) h := R_iconst d_X7_readPlayer_23 (by decide)
theorem d_X7_readPlayer_24 : decode (mB M_X7_readPlayer) 24 = .ok (.iadd, 1) := by decide +kernel
theorem r_X7_readPlayer_24 {x0 x1 : Value} {x y : Int32} {st : List Value} {h : AH} : Run M_X7_readPlayer 24 [x0, x1] (.int y :: .int x :: st) h = Run M_X7_readPlayer 25 [x0, x1] (.int (x + y) :: st) h := R_iadd d_X7_readPlayer_24
theorem d_X7_readPlayer_25 : decode (mB M_X7_readPlayer) 25 = .ok (.putfield 25, 3) := by decide +kernel
theorem r_X7_readPlayer_25 {x0 x1 : Value} {v : Int32} {a : Nat} {st : List Value} {h : AH} : Run M_X7_readPlayer 25 [x0, x1] (.int v :: .ref a :: st) h = if (pF h a 7 4 (.int v)).isSome = true then Run M_X7_readPlayer 28 [x0, x1] st ((pF h a 7 4 (.int v)).getD h) else none := R_putfield d_X7_readPlayer_25 rfl (okP_int rfl rfl)
theorem d_X7_readPlayer_28 : decode (mB M_X7_readPlayer) 28 = .ok (.aload_n 1, 1) := by decide +kernel
theorem r_X7_readPlayer_28 {x0 : Value} {a : Nat} {st : List Value} {h : AH} : Run M_X7_readPlayer 28 [x0, .ref a] st h = Run M_X7_readPlayer 29 [x0, .ref a] (.ref a :: st) h := R_aload_n d_X7_readPlayer_28 rfl
theorem d_X7_readPlayer_29 : decode (mB M_X7_readPlayer) 29 = .ok (.getfield 54, 3) := by decide +kernel
theorem r_X7_readPlayer_29 {x0 x1 : Value} {a : Nat} {st : List Value} {h : AH} : Run M_X7_readPlayer 29 [x0, x1] (.ref a :: st) h = if (gF h a 4 6).isSome = true then Run M_X7_readPlayer 32 [x0, x1] ((gF h a 4 6).getD .null :: st) h else none := R_getfield d_X7_readPlayer_29 rfl
theorem d_X7_readPlayer_32 : decode (mB M_X7_readPlayer) 32 = .ok (.getfield 132, 3) := by decide +kernel
theorem r_X7_readPlayer_32 {x0 x1 : Value} {a : Nat} {st : List Value} {h : AH} : Run M_X7_readPlayer 32 [x0, x1] (.ref a :: st) h = if (gF h a 0 5).isSome = true then Run M_X7_readPlayer 35 [x0, x1] ((gF h a 0 5).getD .null :: st) h else none := R_getfield d_X7_readPlayer_32 rfl
theorem d_X7_readPlayer_35 : decode (mB M_X7_readPlayer) 35 = .ok (.aload_n 1, 1) := by decide +kernel
theorem r_X7_readPlayer_35 {x0 : Value} {a : Nat} {st : List Value} {h : AH} : Run M_X7_readPlayer 35 [x0, .ref a] st h = Run M_X7_readPlayer 36 [x0, .ref a] (.ref a :: st) h := R_aload_n d_X7_readPlayer_35 rfl
theorem d_X7_readPlayer_36 : decode (mB M_X7_readPlayer) 36 = .ok (.getfield 129, 3) := by decide +kernel
theorem r_X7_readPlayer_36 {x0 x1 : Value} {a : Nat} {st : List Value} {h : AH} : Run M_X7_readPlayer 36 [x0, x1] (.ref a :: st) h = if (gF h a 4 2).isSome = true then Run M_X7_readPlayer 39 [x0, x1] ((gF h a 4 2).getD .null :: st) h else none := R_getfield d_X7_readPlayer_36 rfl
theorem d_X7_readPlayer_39 : decode (mB M_X7_readPlayer) 39 = .ok (.aload_n 0, 1) := by decide +kernel
theorem r_X7_readPlayer_39 {x1 : Value} {a : Nat} {st : List Value} {h : AH} : Run M_X7_readPlayer 39 [.ref a, x1] st h = Run M_X7_readPlayer 40 [.ref a, x1] (.ref a :: st) h := R_aload_n d_X7_readPlayer_39 rfl
theorem d_X7_readPlayer_40 : decode (mB M_X7_readPlayer) 40 = .ok (.iconst 0, 1) := by decide +kernel
theorem r_X7_readPlayer_40 {x0 x1 : Value} {st : List Value} {h : AH} : Run M_X7_readPlayer 40 [x0, x1] st h = Run M_X7_readPlayer 41 [x0, x1] (.int (nI 0) :: st) h := R_iconst d_X7_readPlayer_40 (by decide)
theorem d_X7_readPlayer_41 : decode (mB M_X7_readPlayer) 41 = .ok (.bipush 30, 2) := by decide +kernel
theorem r_X7_readPlayer_41 {x0 x1 : Value} {st : List Value} {h : AH} : Run M_X7_readPlayer 41 [x0, x1] st h = Run M_X7_readPlayer 43 [x0, x1] (.int (nI 30) :: st) h := R_bipush d_X7_readPlayer_41 (by decide)
theorem d_X7_readPlayer_43 : decode (mB M_X7_readPlayer) 43 = .ok (.invokevirtual 86, 3) := by decide +kernel
theorem r_X7_readPlayer_43 {x0 x1 : Value} {p0 : Int32} {p1 : Int32} {a : Nat} {w0 w1 : Value} {h : AH} : Run M_X7_readPlayer 43 [x0, x1] (.int p1 :: .int p0 :: .ref a :: [w0, w1]) h = if refO h 7 (some (.ref a)) = true then (if (Call M_X7_number h [.ref a, .int p0, .int p1]).isSome = true then Run M_X7_readPlayer 46 [x0, x1] (rL (Call M_X7_number h [.ref a, .int p0, .int p1]) ++ [w0, w1]) (cH (Call M_X7_number h [.ref a, .int p0, .int p1])) else none) else none := R_virt d_X7_readPlayer_43 rfl rfl rfl rfl rfl (Nat.le_of_ble_eq_true rfl)
theorem d_X7_readPlayer_46 : decode (mB M_X7_readPlayer) 46 = .ok (.iastore, 1) := by decide +kernel
theorem r_X7_readPlayer_46 {x0 x1 : Value} {a : Nat} {i x : Int32} {st : List Value} {h : AH} : Run M_X7_readPlayer 46 [x0, x1] (.int x :: .int i :: .ref a :: st) h = if (pI 0 h a i x).isSome = true then Run M_X7_readPlayer 47 [x0, x1] st ((pI 0 h a i x).getD h) else none := R_iastore d_X7_readPlayer_46
theorem d_X7_readPlayer_47 : decode (mB M_X7_readPlayer) 47 = .ok (.aload_n 1, 1) := by decide +kernel
theorem r_X7_readPlayer_47 {x0 : Value} {a : Nat} {st : List Value} {h : AH} : Run M_X7_readPlayer 47 [x0, .ref a] st h = Run M_X7_readPlayer 48 [x0, .ref a] (.ref a :: st) h := R_aload_n d_X7_readPlayer_47 rfl
theorem d_X7_readPlayer_48 : decode (mB M_X7_readPlayer) 48 = .ok (.getfield 54, 3) := by decide +kernel
theorem r_X7_readPlayer_48 {x0 x1 : Value} {a : Nat} {st : List Value} {h : AH} : Run M_X7_readPlayer 48 [x0, x1] (.ref a :: st) h = if (gF h a 4 6).isSome = true then Run M_X7_readPlayer 51 [x0, x1] ((gF h a 4 6).getD .null :: st) h else none := R_getfield d_X7_readPlayer_48 rfl
theorem d_X7_readPlayer_51 : decode (mB M_X7_readPlayer) 51 = .ok (.getfield 135, 3) := by decide +kernel
theorem r_X7_readPlayer_51 {x0 x1 : Value} {a : Nat} {st : List Value} {h : AH} : Run M_X7_readPlayer 51 [x0, x1] (.ref a :: st) h = if (gF h a 0 6).isSome = true then Run M_X7_readPlayer 54 [x0, x1] ((gF h a 0 6).getD .null :: st) h else none := R_getfield d_X7_readPlayer_51 rfl
theorem d_X7_readPlayer_54 : decode (mB M_X7_readPlayer) 54 = .ok (.aload_n 1, 1) := by decide +kernel
theorem r_X7_readPlayer_54 {x0 : Value} {a : Nat} {st : List Value} {h : AH} : Run M_X7_readPlayer 54 [x0, .ref a] st h = Run M_X7_readPlayer 55 [x0, .ref a] (.ref a :: st) h := R_aload_n d_X7_readPlayer_54 rfl
theorem d_X7_readPlayer_55 : decode (mB M_X7_readPlayer) 55 = .ok (.getfield 129, 3) := by decide +kernel
theorem r_X7_readPlayer_55 {x0 x1 : Value} {a : Nat} {st : List Value} {h : AH} : Run M_X7_readPlayer 55 [x0, x1] (.ref a :: st) h = if (gF h a 4 2).isSome = true then Run M_X7_readPlayer 58 [x0, x1] ((gF h a 4 2).getD .null :: st) h else none := R_getfield d_X7_readPlayer_55 rfl
theorem d_X7_readPlayer_58 : decode (mB M_X7_readPlayer) 58 = .ok (.aload_n 0, 1) := by decide +kernel
theorem r_X7_readPlayer_58 {x1 : Value} {a : Nat} {st : List Value} {h : AH} : Run M_X7_readPlayer 58 [.ref a, x1] st h = Run M_X7_readPlayer 59 [.ref a, x1] (.ref a :: st) h := R_aload_n d_X7_readPlayer_58 rfl
theorem d_X7_readPlayer_59 : decode (mB M_X7_readPlayer) 59 = .ok (.iconst 0, 1) := by decide +kernel
theorem r_X7_readPlayer_59 {x0 x1 : Value} {st : List Value} {h : AH} : Run M_X7_readPlayer 59 [x0, x1] st h = Run M_X7_readPlayer 60 [x0, x1] (.int (nI 0) :: st) h := R_iconst d_X7_readPlayer_59 (by decide)
theorem d_X7_readPlayer_60 : decode (mB M_X7_readPlayer) 60 = .ok (.bipush 30, 2) := by decide +kernel
theorem r_X7_readPlayer_60 {x0 x1 : Value} {st : List Value} {h : AH} : Run M_X7_readPlayer 60 [x0, x1] st h = Run M_X7_readPlayer 62 [x0, x1] (.int (nI 30) :: st) h := R_bipush d_X7_readPlayer_60 (by decide)
theorem d_X7_readPlayer_62 : decode (mB M_X7_readPlayer) 62 = .ok (.invokevirtual 86, 3) := by decide +kernel
theorem r_X7_readPlayer_62 {x0 x1 : Value} {p0 : Int32} {p1 : Int32} {a : Nat} {w0 w1 : Value} {h : AH} : Run M_X7_readPlayer 62 [x0, x1] (.int p1 :: .int p0 :: .ref a :: [w0, w1]) h = if refO h 7 (some (.ref a)) = true then (if (Call M_X7_number h [.ref a, .int p0, .int p1]).isSome = true then Run M_X7_readPlayer 65 [x0, x1] (rL (Call M_X7_number h [.ref a, .int p0, .int p1]) ++ [w0, w1]) (cH (Call M_X7_number h [.ref a, .int p0, .int p1])) else none) else none := R_virt d_X7_readPlayer_62 rfl rfl rfl rfl rfl (Nat.le_of_ble_eq_true rfl)
theorem d_X7_readPlayer_65 : decode (mB M_X7_readPlayer) 65 = .ok (.iastore, 1) := by decide +kernel
theorem r_X7_readPlayer_65 {x0 x1 : Value} {a : Nat} {i x : Int32} {st : List Value} {h : AH} : Run M_X7_readPlayer 65 [x0, x1] (.int x :: .int i :: .ref a :: st) h = if (pI 0 h a i x).isSome = true then Run M_X7_readPlayer 66 [x0, x1] st ((pI 0 h a i x).getD h) else none := R_iastore d_X7_readPlayer_65
theorem d_X7_readPlayer_66 : decode (mB M_X7_readPlayer) 66 = .ok (.aload_n 0, 1) := by decide +kernel
theorem r_X7_readPlayer_66 {x1 : Value} {a : Nat} {st : List Value} {h : AH} : Run M_X7_readPlayer 66 [.ref a, x1] st h = Run M_X7_readPlayer 67 [.ref a, x1] (.ref a :: st) h := R_aload_n d_X7_readPlayer_66 rfl
theorem d_X7_readPlayer_67 : decode (mB M_X7_readPlayer) 67 = .ok (.invokevirtual 108, 3) := by decide +kernel
theorem r_X7_readPlayer_67 {x0 x1 : Value} {a : Nat} {h : AH} : Run M_X7_readPlayer 67 [x0, x1] (.ref a :: []) h = if refO h 7 (some (.ref a)) = true then (if (Call M_X7_close h [.ref a]).isSome = true then Run M_X7_readPlayer 70 [x0, x1] (rL (Call M_X7_close h [.ref a]) ++ []) (cH (Call M_X7_close h [.ref a])) else none) else none := R_virt d_X7_readPlayer_67 rfl rfl rfl rfl rfl (Nat.le_of_ble_eq_true rfl)
theorem d_X7_readPlayer_70 : decode (mB M_X7_readPlayer) 70 = .ok (.aload_n 1, 1) := by decide +kernel
theorem r_X7_readPlayer_70 {x0 : Value} {a : Nat} {st : List Value} {h : AH} : Run M_X7_readPlayer 70 [x0, .ref a] st h = Run M_X7_readPlayer 71 [x0, .ref a] (.ref a :: st) h := R_aload_n d_X7_readPlayer_70 rfl
theorem d_X7_readPlayer_71 : decode (mB M_X7_readPlayer) 71 = .ok (.dup, 1) := by decide +kernel
theorem r_X7_readPlayer_71 {x0 x1 : Value} {x : Nat} {st : List Value} {h : AH} : Run M_X7_readPlayer 71 [x0, x1] (.ref x :: st) h = Run M_X7_readPlayer 72 [x0, x1] (.ref x :: .ref x :: st) h := R_dupr d_X7_readPlayer_71
theorem d_X7_readPlayer_72 : decode (mB M_X7_readPlayer) 72 = .ok (.getfield 129, 3) := by decide +kernel
theorem r_X7_readPlayer_72 {x0 x1 : Value} {a : Nat} {st : List Value} {h : AH} : Run M_X7_readPlayer 72 [x0, x1] (.ref a :: st) h = if (gF h a 4 2).isSome = true then Run M_X7_readPlayer 75 [x0, x1] ((gF h a 4 2).getD .null :: st) h else none := R_getfield d_X7_readPlayer_72 rfl
theorem d_X7_readPlayer_75 : decode (mB M_X7_readPlayer) 75 = .ok (.iconst 1, 1) := by decide +kernel
theorem r_X7_readPlayer_75 {x0 x1 : Value} {st : List Value} {h : AH} : Run M_X7_readPlayer 75 [x0, x1] st h = Run M_X7_readPlayer 76 [x0, x1] (.int (nI 1) :: st) h := R_iconst d_X7_readPlayer_75 (by decide)
theorem d_X7_readPlayer_76 : decode (mB M_X7_readPlayer) 76 = .ok (.iadd, 1) := by decide +kernel
theorem r_X7_readPlayer_76 {x0 x1 : Value} {x y : Int32} {st : List Value} {h : AH} : Run M_X7_readPlayer 76 [x0, x1] (.int y :: .int x :: st) h = Run M_X7_readPlayer 77 [x0, x1] (.int (x + y) :: st) h := R_iadd d_X7_readPlayer_76
theorem d_X7_readPlayer_77 : decode (mB M_X7_readPlayer) 77 = .ok (.putfield 129, 3) := by decide +kernel
theorem r_X7_readPlayer_77 {x0 x1 : Value} {v : Int32} {a : Nat} {st : List Value} {h : AH} : Run M_X7_readPlayer 77 [x0, x1] (.int v :: .ref a :: st) h = if (pF h a 4 2 (.int v)).isSome = true then Run M_X7_readPlayer 80 [x0, x1] st ((pF h a 4 2 (.int v)).getD h) else none := R_putfield d_X7_readPlayer_77 rfl (okP_int rfl rfl)
theorem d_X7_readPlayer_80 : decode (mB M_X7_readPlayer) 80 = .ok (.return_, 1) := by decide +kernel
theorem r_X7_readPlayer_80 {x0 x1 : Value} {h : AH} : Run M_X7_readPlayer 80 [x0, x1] [] h = some (h, none) := R_return d_X7_readPlayer_80 rfl
theorem d_X7_readInstrument_0 : decode (mB M_X7_readInstrument) 0 = .ok (.aload_n 1, 1) := by decide +kernel
theorem r_X7_readInstrument_0 {x0 : Value} {a : Nat} {st : List Value} {h : AH} : Run M_X7_readInstrument 0 [x0, .ref a] st h = Run M_X7_readInstrument 1 [x0, .ref a] (.ref a :: st) h := R_aload_n d_X7_readInstrument_0 rfl
theorem d_X7_readInstrument_1 : decode (mB M_X7_readInstrument) 1 = .ok (.getfield 138, 3) := by decide +kernel
theorem r_X7_readInstrument_1 {x0 x1 : Value} {a : Nat} {st : List Value} {h : AH} : Run M_X7_readInstrument 1 [x0, x1] (.ref a :: st) h = if (gF h a 4 3).isSome = true then Run M_X7_readInstrument 4 [x0, x1] ((gF h a 4 3).getD .null :: st) h else none := R_getfield d_X7_readInstrument_1 rfl
theorem d_X7_readInstrument_4 : decode (mB M_X7_readInstrument) 4 = .ok (.iconst 5, 1) := by decide +kernel
theorem r_X7_readInstrument_4 {x0 x1 : Value} {st : List Value} {h : AH} : Run M_X7_readInstrument 4 [x0, x1] st h = Run M_X7_readInstrument 5 [x0, x1] (.int (nI 5) :: st) h := R_iconst d_X7_readInstrument_4 (by decide)
theorem d_X7_readInstrument_5 : decode (mB M_X7_readInstrument) 5 = .ok (.if_icmp .lt 13, 3) := by decide +kernel
theorem r_X7_readInstrument_5 {x0 x1 : Value} {x y : Int32} {st : List Value} {h : AH} : Run M_X7_readInstrument 5 [x0, x1] (.int y :: .int x :: st) h = if x < y then Run M_X7_readInstrument 18 [x0, x1] st h else Run M_X7_readInstrument 8 [x0, x1] st h := R_icmp_lt d_X7_readInstrument_5 (by decide)
theorem d_X7_readInstrument_8 : decode (mB M_X7_readInstrument) 8 = .ok (.aload_n 0, 1) := by decide +kernel
theorem r_X7_readInstrument_8 {x1 : Value} {a : Nat} {st : List Value} {h : AH} : Run M_X7_readInstrument 8 [.ref a, x1] st h = Run M_X7_readInstrument 9 [.ref a, x1] (.ref a :: st) h := R_aload_n d_X7_readInstrument_8 rfl
theorem d_X7_readInstrument_9 : decode (mB M_X7_readInstrument) 9 = .ok (.iconst 3, 1) := by decide +kernel
theorem r_X7_readInstrument_9 {x0 x1 : Value} {st : List Value} {h : AH} : Run M_X7_readInstrument 9 [x0, x1] st h = Run M_X7_readInstrument 10 [x0, x1] (.int (nI 3) :: st) h := R_iconst d_X7_readInstrument_9 (by decide)
theorem d_X7_readInstrument_10 : decode (mB M_X7_readInstrument) 10 = .ok (.aload_n 0, 1) := by decide +kernel
theorem r_X7_readInstrument_10 {x1 : Value} {a : Nat} {st : List Value} {h : AH} : Run M_X7_readInstrument 10 [.ref a, x1] st h = Run M_X7_readInstrument 11 [.ref a, x1] (.ref a :: st) h := R_aload_n d_X7_readInstrument_10 rfl
theorem d_X7_readInstrument_11 : decode (mB M_X7_readInstrument) 11 = .ok (.getfield 25, 3) := by decide +kernel
theorem r_X7_readInstrument_11 {x0 x1 : Value} {a : Nat} {st : List Value} {h : AH} : Run M_X7_readInstrument 11 [x0, x1] (.ref a :: st) h = if (gF h a 7 4).isSome = true then Run M_X7_readInstrument 14 [x0, x1] ((gF h a 7 4).getD .null :: st) h else none := R_getfield d_X7_readInstrument_11 rfl
theorem d_X7_readInstrument_14 : decode (mB M_X7_readInstrument) 14 = .ok (.invokevirtual 71, 3) := by decide +kernel
theorem r_X7_readInstrument_14 {x0 x1 : Value} {p0 : Int32} {p1 : Int32} {a : Nat} {h : AH} : Run M_X7_readInstrument 14 [x0, x1] (.int p1 :: .int p0 :: .ref a :: []) h = if refO h 7 (some (.ref a)) = true then (if (Call M_X7_fail h [.ref a, .int p0, .int p1]).isSome = true then Run M_X7_readInstrument 17 [x0, x1] (rL (Call M_X7_fail h [.ref a, .int p0, .int p1]) ++ []) (cH (Call M_X7_fail h [.ref a, .int p0, .int p1])) else none) else none := R_virt d_X7_readInstrument_14 rfl rfl rfl rfl rfl (Nat.le_of_ble_eq_true rfl)
theorem d_X7_readInstrument_17 : decode (mB M_X7_readInstrument) 17 = .ok (.return_, 1) := by decide +kernel
theorem r_X7_readInstrument_17 {x0 x1 : Value} {h : AH} : Run M_X7_readInstrument 17 [x0, x1] [] h = some (h, none) := R_return d_X7_readInstrument_17 rfl
theorem d_X7_readInstrument_18 : decode (mB M_X7_readInstrument) 18 = .ok (.aload_n 0, 1) := by decide +kernel
theorem r_X7_readInstrument_18 {x1 : Value} {a : Nat} {st : List Value} {h : AH} : Run M_X7_readInstrument 18 [.ref a, x1] st h = Run M_X7_readInstrument 19 [.ref a, x1] (.ref a :: st) h := R_aload_n d_X7_readInstrument_18 rfl
theorem d_X7_readInstrument_19 : decode (mB M_X7_readInstrument) 19 = .ok (.dup, 1) := by decide +kernel
theorem r_X7_readInstrument_19 {x0 x1 : Value} {x : Nat} {st : List Value} {h : AH} : Run M_X7_readInstrument 19 [x0, x1] (.ref x :: st) h = Run M_X7_readInstrument 20 [x0, x1] (.ref x :: .ref x :: st) h := R_dupr d_X7_readInstrument_19
theorem d_X7_readInstrument_20 : decode (mB M_X7_readInstrument) 20 = .ok (.getfield 25, 3) := by decide +kernel
theorem r_X7_readInstrument_20 {x0 x1 : Value} {a : Nat} {st : List Value} {h : AH} : Run M_X7_readInstrument 20 [x0, x1] (.ref a :: st) h = if (gF h a 7 4).isSome = true then Run M_X7_readInstrument 23 [x0, x1] ((gF h a 7 4).getD .null :: st) h else none := R_getfield d_X7_readInstrument_20 rfl
theorem d_X7_readInstrument_23 : decode (mB M_X7_readInstrument) 23 = .ok (.iconst 1, 1) := by decide +kernel
theorem r_X7_readInstrument_23 {x0 x1 : Value} {st : List Value} {h : AH} : Run M_X7_readInstrument 23 [x0, x1] st h = Run M_X7_readInstrument 24 [x0, x1] (.int (nI 1) :: st) h := R_iconst d_X7_readInstrument_23 (by decide)
theorem d_X7_readInstrument_24 : decode (mB M_X7_readInstrument) 24 = .ok (.iadd, 1) := by decide +kernel
theorem r_X7_readInstrument_24 {x0 x1 : Value} {x y : Int32} {st : List Value} {h : AH} : Run M_X7_readInstrument 24 [x0, x1] (.int y :: .int x :: st) h = Run M_X7_readInstrument 25 [x0, x1] (.int (x + y) :: st) h := R_iadd d_X7_readInstrument_24
theorem d_X7_readInstrument_25 : decode (mB M_X7_readInstrument) 25 = .ok (.putfield 25, 3) := by decide +kernel
theorem r_X7_readInstrument_25 {x0 x1 : Value} {v : Int32} {a : Nat} {st : List Value} {h : AH} : Run M_X7_readInstrument 25 [x0, x1] (.int v :: .ref a :: st) h = if (pF h a 7 4 (.int v)).isSome = true then Run M_X7_readInstrument 28 [x0, x1] st ((pF h a 7 4 (.int v)).getD h) else none := R_putfield d_X7_readInstrument_25 rfl (okP_int rfl rfl)
theorem d_X7_readInstrument_28 : decode (mB M_X7_readInstrument) 28 = .ok (.aload_n 1, 1) := by decide +kernel
theorem r_X7_readInstrument_28 {x0 : Value} {a : Nat} {st : List Value} {h : AH} : Run M_X7_readInstrument 28 [x0, .ref a] st h = Run M_X7_readInstrument 29 [x0, .ref a] (.ref a :: st) h := R_aload_n d_X7_readInstrument_28 rfl
theorem d_X7_readInstrument_29 : decode (mB M_X7_readInstrument) 29 = .ok (.getfield 141, 3) := by decide +kernel
theorem r_X7_readInstrument_29 {x0 x1 : Value} {a : Nat} {st : List Value} {h : AH} : Run M_X7_readInstrument 29 [x0, x1] (.ref a :: st) h = if (gF h a 4 4).isSome = true then Run M_X7_readInstrument 32 [x0, x1] ((gF h a 4 4).getD .null :: st) h else none := R_getfield d_X7_readInstrument_29 rfl
theorem d_X7_readInstrument_32 : decode (mB M_X7_readInstrument) 32 = .ok (.aload_n 1, 1) := by decide +kernel
theorem r_X7_readInstrument_32 {x0 : Value} {a : Nat} {st : List Value} {h : AH} : Run M_X7_readInstrument 32 [x0, .ref a] st h = Run M_X7_readInstrument 33 [x0, .ref a] (.ref a :: st) h := R_aload_n d_X7_readInstrument_32 rfl
theorem d_X7_readInstrument_33 : decode (mB M_X7_readInstrument) 33 = .ok (.getfield 138, 3) := by decide +kernel
theorem r_X7_readInstrument_33 {x0 x1 : Value} {a : Nat} {st : List Value} {h : AH} : Run M_X7_readInstrument 33 [x0, x1] (.ref a :: st) h = if (gF h a 4 3).isSome = true then Run M_X7_readInstrument 36 [x0, x1] ((gF h a 4 3).getD .null :: st) h else none := R_getfield d_X7_readInstrument_33 rfl
theorem d_X7_readInstrument_36 : decode (mB M_X7_readInstrument) 36 = .ok (.aload_n 0, 1) := by decide +kernel
theorem r_X7_readInstrument_36 {x1 : Value} {a : Nat} {st : List Value} {h : AH} : Run M_X7_readInstrument 36 [.ref a, x1] st h = Run M_X7_readInstrument 37 [.ref a, x1] (.ref a :: st) h := R_aload_n d_X7_readInstrument_36 rfl
theorem d_X7_readInstrument_37 : decode (mB M_X7_readInstrument) 37 = .ok (.iconst 0, 1) := by decide +kernel
theorem r_X7_readInstrument_37 {x0 x1 : Value} {st : List Value} {h : AH} : Run M_X7_readInstrument 37 [x0, x1] st h = Run M_X7_readInstrument 38 [x0, x1] (.int (nI 0) :: st) h := R_iconst d_X7_readInstrument_37 (by decide)
theorem d_X7_readInstrument_38 : decode (mB M_X7_readInstrument) 38 = .ok (.bipush 11, 2) := by decide +kernel
theorem r_X7_readInstrument_38 {x0 x1 : Value} {st : List Value} {h : AH} : Run M_X7_readInstrument 38 [x0, x1] st h = Run M_X7_readInstrument 40 [x0, x1] (.int (nI 11) :: st) h := R_bipush d_X7_readInstrument_38 (by decide)
theorem d_X7_readInstrument_40 : decode (mB M_X7_readInstrument) 40 = .ok (.invokevirtual 86, 3) := by decide +kernel
theorem r_X7_readInstrument_40 {x0 x1 : Value} {p0 : Int32} {p1 : Int32} {a : Nat} {w0 w1 : Value} {h : AH} : Run M_X7_readInstrument 40 [x0, x1] (.int p1 :: .int p0 :: .ref a :: [w0, w1]) h = if refO h 7 (some (.ref a)) = true then (if (Call M_X7_number h [.ref a, .int p0, .int p1]).isSome = true then Run M_X7_readInstrument 43 [x0, x1] (rL (Call M_X7_number h [.ref a, .int p0, .int p1]) ++ [w0, w1]) (cH (Call M_X7_number h [.ref a, .int p0, .int p1])) else none) else none := R_virt d_X7_readInstrument_40 rfl rfl rfl rfl rfl (Nat.le_of_ble_eq_true rfl)
theorem d_X7_readInstrument_43 : decode (mB M_X7_readInstrument) 43 = .ok (.iastore, 1) := by decide +kernel
theorem r_X7_readInstrument_43 {x0 x1 : Value} {a : Nat} {i x : Int32} {st : List Value} {h : AH} : Run M_X7_readInstrument 43 [x0, x1] (.int x :: .int i :: .ref a :: st) h = if (pI 0 h a i x).isSome = true then Run M_X7_readInstrument 44 [x0, x1] st ((pI 0 h a i x).getD h) else none := R_iastore d_X7_readInstrument_43
theorem d_X7_readInstrument_44 : decode (mB M_X7_readInstrument) 44 = .ok (.aload_n 1, 1) := by decide +kernel
theorem r_X7_readInstrument_44 {x0 : Value} {a : Nat} {st : List Value} {h : AH} : Run M_X7_readInstrument 44 [x0, .ref a] st h = Run M_X7_readInstrument 45 [x0, .ref a] (.ref a :: st) h := R_aload_n d_X7_readInstrument_44 rfl
theorem d_X7_readInstrument_45 : decode (mB M_X7_readInstrument) 45 = .ok (.getfield 144, 3) := by decide +kernel
theorem r_X7_readInstrument_45 {x0 x1 : Value} {a : Nat} {st : List Value} {h : AH} : Run M_X7_readInstrument 45 [x0, x1] (.ref a :: st) h = if (gF h a 4 5).isSome = true then Run M_X7_readInstrument 48 [x0, x1] ((gF h a 4 5).getD .null :: st) h else none := R_getfield d_X7_readInstrument_45 rfl
theorem d_X7_readInstrument_48 : decode (mB M_X7_readInstrument) 48 = .ok (.aload_n 1, 1) := by decide +kernel
theorem r_X7_readInstrument_48 {x0 : Value} {a : Nat} {st : List Value} {h : AH} : Run M_X7_readInstrument 48 [x0, .ref a] st h = Run M_X7_readInstrument 49 [x0, .ref a] (.ref a :: st) h := R_aload_n d_X7_readInstrument_48 rfl
theorem d_X7_readInstrument_49 : decode (mB M_X7_readInstrument) 49 = .ok (.getfield 138, 3) := by decide +kernel
theorem r_X7_readInstrument_49 {x0 x1 : Value} {a : Nat} {st : List Value} {h : AH} : Run M_X7_readInstrument 49 [x0, x1] (.ref a :: st) h = if (gF h a 4 3).isSome = true then Run M_X7_readInstrument 52 [x0, x1] ((gF h a 4 3).getD .null :: st) h else none := R_getfield d_X7_readInstrument_49 rfl
theorem d_X7_readInstrument_52 : decode (mB M_X7_readInstrument) 52 = .ok (.aload_n 0, 1) := by decide +kernel
theorem r_X7_readInstrument_52 {x1 : Value} {a : Nat} {st : List Value} {h : AH} : Run M_X7_readInstrument 52 [.ref a, x1] st h = Run M_X7_readInstrument 53 [.ref a, x1] (.ref a :: st) h := R_aload_n d_X7_readInstrument_52 rfl
theorem d_X7_readInstrument_53 : decode (mB M_X7_readInstrument) 53 = .ok (.iconst 0, 1) := by decide +kernel
theorem r_X7_readInstrument_53 {x0 x1 : Value} {st : List Value} {h : AH} : Run M_X7_readInstrument 53 [x0, x1] st h = Run M_X7_readInstrument 54 [x0, x1] (.int (nI 0) :: st) h := R_iconst d_X7_readInstrument_53 (by decide)
theorem d_X7_readInstrument_54 : decode (mB M_X7_readInstrument) 54 = .ok (.bipush 99, 2) := by decide +kernel
theorem r_X7_readInstrument_54 {x0 x1 : Value} {st : List Value} {h : AH} : Run M_X7_readInstrument 54 [x0, x1] st h = Run M_X7_readInstrument 56 [x0, x1] (.int (nI 99) :: st) h := R_bipush d_X7_readInstrument_54 (by decide)
theorem d_X7_readInstrument_56 : decode (mB M_X7_readInstrument) 56 = .ok (.invokevirtual 86, 3) := by decide +kernel
theorem r_X7_readInstrument_56 {x0 x1 : Value} {p0 : Int32} {p1 : Int32} {a : Nat} {w0 w1 : Value} {h : AH} : Run M_X7_readInstrument 56 [x0, x1] (.int p1 :: .int p0 :: .ref a :: [w0, w1]) h = if refO h 7 (some (.ref a)) = true then (if (Call M_X7_number h [.ref a, .int p0, .int p1]).isSome = true then Run M_X7_readInstrument 59 [x0, x1] (rL (Call M_X7_number h [.ref a, .int p0, .int p1]) ++ [w0, w1]) (cH (Call M_X7_number h [.ref a, .int p0, .int p1])) else none) else none := R_virt d_X7_readInstrument_56 rfl rfl rfl rfl rfl (Nat.le_of_ble_eq_true rfl)
theorem d_X7_readInstrument_59 : decode (mB M_X7_readInstrument) 59 = .ok (.iastore, 1) := by decide +kernel
theorem r_X7_readInstrument_59 {x0 x1 : Value} {a : Nat} {i x : Int32} {st : List Value} {h : AH} : Run M_X7_readInstrument 59 [x0, x1] (.int x :: .int i :: .ref a :: st) h = if (pI 0 h a i x).isSome = true then Run M_X7_readInstrument 60 [x0, x1] st ((pI 0 h a i x).getD h) else none := R_iastore d_X7_readInstrument_59
theorem d_X7_readInstrument_60 : decode (mB M_X7_readInstrument) 60 = .ok (.aload_n 0, 1) := by decide +kernel
theorem r_X7_readInstrument_60 {x1 : Value} {a : Nat} {st : List Value} {h : AH} : Run M_X7_readInstrument 60 [.ref a, x1] st h = Run M_X7_readInstrument 61 [.ref a, x1] (.ref a :: st) h := R_aload_n d_X7_readInstrument_60 rfl
theorem d_X7_readInstrument_61 : decode (mB M_X7_readInstrument) 61 = .ok (.invokevirtual 108, 3) := by decide +kernel
theorem r_X7_readInstrument_61 {x0 x1 : Value} {a : Nat} {h : AH} : Run M_X7_readInstrument 61 [x0, x1] (.ref a :: []) h = if refO h 7 (some (.ref a)) = true then (if (Call M_X7_close h [.ref a]).isSome = true then Run M_X7_readInstrument 64 [x0, x1] (rL (Call M_X7_close h [.ref a]) ++ []) (cH (Call M_X7_close h [.ref a])) else none) else none := R_virt d_X7_readInstrument_61 rfl rfl rfl rfl rfl (Nat.le_of_ble_eq_true rfl)
theorem d_X7_readInstrument_64 : decode (mB M_X7_readInstrument) 64 = .ok (.aload_n 1, 1) := by decide +kernel
theorem r_X7_readInstrument_64 {x0 : Value} {a : Nat} {st : List Value} {h : AH} : Run M_X7_readInstrument 64 [x0, .ref a] st h = Run M_X7_readInstrument 65 [x0, .ref a] (.ref a :: st) h := R_aload_n d_X7_readInstrument_64 rfl
theorem d_X7_readInstrument_65 : decode (mB M_X7_readInstrument) 65 = .ok (.dup, 1) := by decide +kernel
theorem r_X7_readInstrument_65 {x0 x1 : Value} {x : Nat} {st : List Value} {h : AH} : Run M_X7_readInstrument 65 [x0, x1] (.ref x :: st) h = Run M_X7_readInstrument 66 [x0, x1] (.ref x :: .ref x :: st) h := R_dupr d_X7_readInstrument_65
theorem d_X7_readInstrument_66 : decode (mB M_X7_readInstrument) 66 = .ok (.getfield 138, 3) := by decide +kernel
theorem r_X7_readInstrument_66 {x0 x1 : Value} {a : Nat} {st : List Value} {h : AH} : Run M_X7_readInstrument 66 [x0, x1] (.ref a :: st) h = if (gF h a 4 3).isSome = true then Run M_X7_readInstrument 69 [x0, x1] ((gF h a 4 3).getD .null :: st) h else none := R_getfield d_X7_readInstrument_66 rfl
theorem d_X7_readInstrument_69 : decode (mB M_X7_readInstrument) 69 = .ok (.iconst 1, 1) := by decide +kernel
theorem r_X7_readInstrument_69 {x0 x1 : Value} {st : List Value} {h : AH} : Run M_X7_readInstrument 69 [x0, x1] st h = Run M_X7_readInstrument 70 [x0, x1] (.int (nI 1) :: st) h := R_iconst d_X7_readInstrument_69 (by decide)
theorem d_X7_readInstrument_70 : decode (mB M_X7_readInstrument) 70 = .ok (.iadd, 1) := by decide +kernel
theorem r_X7_readInstrument_70 {x0 x1 : Value} {x y : Int32} {st : List Value} {h : AH} : Run M_X7_readInstrument 70 [x0, x1] (.int y :: .int x :: st) h = Run M_X7_readInstrument 71 [x0, x1] (.int (x + y) :: st) h := R_iadd d_X7_readInstrument_70
theorem d_X7_readInstrument_71 : decode (mB M_X7_readInstrument) 71 = .ok (.putfield 138, 3) := by decide +kernel
theorem r_X7_readInstrument_71 {x0 x1 : Value} {v : Int32} {a : Nat} {st : List Value} {h : AH} : Run M_X7_readInstrument 71 [x0, x1] (.int v :: .ref a :: st) h = if (pF h a 4 3 (.int v)).isSome = true then Run M_X7_readInstrument 74 [x0, x1] st ((pF h a 4 3 (.int v)).getD h) else none := R_putfield d_X7_readInstrument_71 rfl (okP_int rfl rfl)
theorem d_X7_readInstrument_74 : decode (mB M_X7_readInstrument) 74 = .ok (.return_, 1) := by decide +kernel
theorem r_X7_readInstrument_74 {x0 x1 : Value} {h : AH} : Run M_X7_readInstrument 74 [x0, x1] [] h = some (h, none) := R_return d_X7_readInstrument_74 rfl
theorem d_X7_number_0 : decode (mB M_X7_number) 0 = .ok (.aload_n 0, 1) := by decide +kernel
theorem r_X7_number_0 {x1 x2 x3 x4 x5 x6 : Value} {a : Nat} {st : List Value} {h : AH} : Run M_X7_number 0 [.ref a, x1, x2, x3, x4, x5, x6] st h = Run M_X7_number 1 [.ref a, x1, x2, x3, x4, x5, x6] (.ref a :: st) h := R_aload_n d_X7_number_0 rfl
theorem d_X7_number_1 : decode (mB M_X7_number) 1 = .ok (.invokevirtual 40, 3) := by decide +kernel
theorem r_X7_number_1 {x0 x1 x2 x3 x4 x5 x6 : Value} {a : Nat} {h : AH} : Run M_X7_number 1 [x0, x1, x2, x3, x4, x5, x6] (.ref a :: []) h = if refO h 7 (some (.ref a)) = true then (if (Call M_X7_skipBlanks h [.ref a]).isSome = true then Run M_X7_number 4 [x0, x1, x2, x3, x4, x5, x6] (rL (Call M_X7_skipBlanks h [.ref a]) ++ []) (cH (Call M_X7_skipBlanks h [.ref a])) else none) else none := R_virt d_X7_number_1 rfl rfl rfl rfl rfl (Nat.le_of_ble_eq_true rfl)
theorem d_X7_number_4 : decode (mB M_X7_number) 4 = .ok (.aload_n 0, 1) := by decide +kernel
theorem r_X7_number_4 {x1 x2 x3 x4 x5 x6 : Value} {a : Nat} {st : List Value} {h : AH} : Run M_X7_number 4 [.ref a, x1, x2, x3, x4, x5, x6] st h = Run M_X7_number 5 [.ref a, x1, x2, x3, x4, x5, x6] (.ref a :: st) h := R_aload_n d_X7_number_4 rfl
theorem d_X7_number_5 : decode (mB M_X7_number) 5 = .ok (.aload_n 0, 1) := by decide +kernel
theorem r_X7_number_5 {x1 x2 x3 x4 x5 x6 : Value} {a : Nat} {st : List Value} {h : AH} : Run M_X7_number 5 [.ref a, x1, x2, x3, x4, x5, x6] st h = Run M_X7_number 6 [.ref a, x1, x2, x3, x4, x5, x6] (.ref a :: st) h := R_aload_n d_X7_number_5 rfl
theorem d_X7_number_6 : decode (mB M_X7_number) 6 = .ok (.getfield 25, 3) := by decide +kernel
theorem r_X7_number_6 {x0 x1 x2 x3 x4 x5 x6 : Value} {a : Nat} {st : List Value} {h : AH} : Run M_X7_number 6 [x0, x1, x2, x3, x4, x5, x6] (.ref a :: st) h = if (gF h a 7 4).isSome = true then Run M_X7_number 9 [x0, x1, x2, x3, x4, x5, x6] ((gF h a 7 4).getD .null :: st) h else none := R_getfield d_X7_number_6 rfl
theorem d_X7_number_9 : decode (mB M_X7_number) 9 = .ok (.putfield 98, 3) := by decide +kernel
theorem r_X7_number_9 {x0 x1 x2 x3 x4 x5 x6 : Value} {v : Int32} {a : Nat} {st : List Value} {h : AH} : Run M_X7_number 9 [x0, x1, x2, x3, x4, x5, x6] (.int v :: .ref a :: st) h = if (pF h a 7 5 (.int v)).isSome = true then Run M_X7_number 12 [x0, x1, x2, x3, x4, x5, x6] st ((pF h a 7 5 (.int v)).getD h) else none := R_putfield d_X7_number_9 rfl (okP_int rfl rfl)
theorem d_X7_number_12 : decode (mB M_X7_number) 12 = .ok (.iconst 0, 1) := by decide +kernel
theorem r_X7_number_12 {x0 x1 x2 x3 x4 x5 x6 : Value} {st : List Value} {h : AH} : Run M_X7_number 12 [x0, x1, x2, x3, x4, x5, x6] st h = Run M_X7_number 13 [x0, x1, x2, x3, x4, x5, x6] (.int (nI 0) :: st) h := R_iconst d_X7_number_12 (by decide)
theorem d_X7_number_13 : decode (mB M_X7_number) 13 = .ok (.istore_n 3, 1) := by decide +kernel
theorem r_X7_number_13 {x0 x1 x2 x3 x4 x5 x6 : Value} {a : Int32} {st : List Value} {h : AH} (hc : x2.category = 1) : Run M_X7_number 13 [x0, x1, x2, x3, x4, x5, x6] (.int a :: st) h = Run M_X7_number 14 [x0, x1, x2, .int a, x4, x5, x6] st h := R_istore_n d_X7_number_13 (Nat.lt_of_lt_of_le (by decide : 3 < 7) (Nat.le_refl 7)) (catP_of rfl hc)
theorem d_X7_number_14 : decode (mB M_X7_number) 14 = .ok (.iconst 0, 1) := by decide +kernel
theorem r_X7_number_14 {x0 x1 x2 x3 x4 x5 x6 : Value} {st : List Value} {h : AH} : Run M_X7_number 14 [x0, x1, x2, x3, x4, x5, x6] st h = Run M_X7_number 15 [x0, x1, x2, x3, x4, x5, x6] (.int (nI 0) :: st) h := R_iconst d_X7_number_14 (by decide)
theorem d_X7_number_15 : decode (mB M_X7_number) 15 = .ok (.istore 4, 2) := by decide +kernel
theorem r_X7_number_15 {x0 x1 x2 x3 x4 x5 x6 : Value} {a : Int32} {st : List Value} {h : AH} (hc : x3.category = 1) : Run M_X7_number 15 [x0, x1, x2, x3, x4, x5, x6] (.int a :: st) h = Run M_X7_number 17 [x0, x1, x2, x3, .int a, x5, x6] st h := R_istore d_X7_number_15 (Nat.lt_of_lt_of_le (by decide : 4 < 7) (Nat.le_refl 7)) (catP_of rfl hc)
theorem d_X7_number_17 : decode (mB M_X7_number) 17 = .ok (.aload_n 0, 1) := by decide +kernel
theorem r_X7_number_17 {x1 x2 x3 x4 x5 x6 : Value} {a : Nat} {st : List Value} {h : AH} : Run M_X7_number 17 [.ref a, x1, x2, x3, x4, x5, x6] st h = Run M_X7_number 18 [.ref a, x1, x2, x3, x4, x5, x6] (.ref a :: st) h := R_aload_n d_X7_number_17 rfl
theorem d_X7_number_18 : decode (mB M_X7_number) 18 = .ok (.invokevirtual 47, 3) := by decide +kernel
theorem r_X7_number_18 {x0 x1 x2 x3 x4 x5 x6 : Value} {a : Nat} {h : AH} : Run M_X7_number 18 [x0, x1, x2, x3, x4, x5, x6] (.ref a :: []) h = if refO h 7 (some (.ref a)) = true then (if (Call M_X7_here h [.ref a]).isSome = true then Run M_X7_number 21 [x0, x1, x2, x3, x4, x5, x6] (rL (Call M_X7_here h [.ref a]) ++ []) (cH (Call M_X7_here h [.ref a])) else none) else none := R_virt d_X7_number_18 rfl rfl rfl rfl rfl (Nat.le_of_ble_eq_true rfl)
theorem d_X7_number_21 : decode (mB M_X7_number) 21 = .ok (.istore 5, 2) := by decide +kernel
theorem r_X7_number_21 {x0 x1 x2 x3 x4 x5 x6 : Value} {a : Int32} {st : List Value} {h : AH} (hc : x4.category = 1) : Run M_X7_number 21 [x0, x1, x2, x3, x4, x5, x6] (.int a :: st) h = Run M_X7_number 23 [x0, x1, x2, x3, x4, .int a, x6] st h := R_istore d_X7_number_21 (Nat.lt_of_lt_of_le (by decide : 5 < 7) (Nat.le_refl 7)) (catP_of rfl hc)
theorem d_X7_number_23 : decode (mB M_X7_number) 23 = .ok (.iconst 0, 1) := by decide +kernel
theorem r_X7_number_23 {x0 x1 x2 x3 x4 x5 x6 : Value} {st : List Value} {h : AH} : Run M_X7_number 23 [x0, x1, x2, x3, x4, x5, x6] st h = Run M_X7_number 24 [x0, x1, x2, x3, x4, x5, x6] (.int (nI 0) :: st) h := R_iconst d_X7_number_23 (by decide)
theorem d_X7_number_24 : decode (mB M_X7_number) 24 = .ok (.istore 6, 2) := by decide +kernel
theorem r_X7_number_24 {x0 x1 x2 x3 x4 x5 x6 : Value} {a : Int32} {st : List Value} {h : AH} (hc : x5.category = 1) : Run M_X7_number 24 [x0, x1, x2, x3, x4, x5, x6] (.int a :: st) h = Run M_X7_number 26 [x0, x1, x2, x3, x4, x5, .int a] st h := R_istore d_X7_number_24 (Nat.lt_of_lt_of_le (by decide : 6 < 7) (Nat.le_refl 7)) (catP_of rfl hc)
theorem d_X7_number_26 : decode (mB M_X7_number) 26 = .ok (.iload 6, 2) := by decide +kernel
theorem r_X7_number_26 {x0 x1 x2 x3 x4 x5 : Value} {a : Int32} {st : List Value} {h : AH} : Run M_X7_number 26 [x0, x1, x2, x3, x4, x5, .int a] st h = Run M_X7_number 28 [x0, x1, x2, x3, x4, x5, .int a] (.int a :: st) h := R_iload d_X7_number_26 rfl
theorem d_X7_number_28 : decode (mB M_X7_number) 28 = .ok (.sipush 250, 3) := by decide +kernel
theorem r_X7_number_28 {x0 x1 x2 x3 x4 x5 x6 : Value} {st : List Value} {h : AH} : Run M_X7_number 28 [x0, x1, x2, x3, x4, x5, x6] st h = Run M_X7_number 31 [x0, x1, x2, x3, x4, x5, x6] (.int (nI 250) :: st) h := R_sipush d_X7_number_28 (by decide)
theorem d_X7_number_31 : decode (mB M_X7_number) 31 = .ok (.if_icmp .ge 59, 3) := by decide +kernel
theorem r_X7_number_31 {x0 x1 x2 x3 x4 x5 x6 : Value} {x y : Int32} {st : List Value} {h : AH} : Run M_X7_number 31 [x0, x1, x2, x3, x4, x5, x6] (.int y :: .int x :: st) h = if y ≤ x then Run M_X7_number 90 [x0, x1, x2, x3, x4, x5, x6] st h else Run M_X7_number 34 [x0, x1, x2, x3, x4, x5, x6] st h := R_icmp_ge d_X7_number_31 (by decide)
theorem d_X7_number_34 : decode (mB M_X7_number) 34 = .ok (.iload 5, 2) := by decide +kernel
theorem r_X7_number_34 {x0 x1 x2 x3 x4 x6 : Value} {a : Int32} {st : List Value} {h : AH} : Run M_X7_number 34 [x0, x1, x2, x3, x4, .int a, x6] st h = Run M_X7_number 36 [x0, x1, x2, x3, x4, .int a, x6] (.int a :: st) h := R_iload d_X7_number_34 rfl
theorem d_X7_number_36 : decode (mB M_X7_number) 36 = .ok (.bipush 48, 2) := by decide +kernel
theorem r_X7_number_36 {x0 x1 x2 x3 x4 x5 x6 : Value} {st : List Value} {h : AH} : Run M_X7_number 36 [x0, x1, x2, x3, x4, x5, x6] st h = Run M_X7_number 38 [x0, x1, x2, x3, x4, x5, x6] (.int (nI 48) :: st) h := R_bipush d_X7_number_36 (by decide)
theorem d_X7_number_38 : decode (mB M_X7_number) 38 = .ok (.if_icmp .lt 52, 3) := by decide +kernel
theorem r_X7_number_38 {x0 x1 x2 x3 x4 x5 x6 : Value} {x y : Int32} {st : List Value} {h : AH} : Run M_X7_number 38 [x0, x1, x2, x3, x4, x5, x6] (.int y :: .int x :: st) h = if x < y then Run M_X7_number 90 [x0, x1, x2, x3, x4, x5, x6] st h else Run M_X7_number 41 [x0, x1, x2, x3, x4, x5, x6] st h := R_icmp_lt d_X7_number_38 (by decide)
theorem d_X7_number_41 : decode (mB M_X7_number) 41 = .ok (.iload 5, 2) := by decide +kernel
theorem r_X7_number_41 {x0 x1 x2 x3 x4 x6 : Value} {a : Int32} {st : List Value} {h : AH} : Run M_X7_number 41 [x0, x1, x2, x3, x4, .int a, x6] st h = Run M_X7_number 43 [x0, x1, x2, x3, x4, .int a, x6] (.int a :: st) h := R_iload d_X7_number_41 rfl
theorem d_X7_number_43 : decode (mB M_X7_number) 43 = .ok (.bipush 57, 2) := by decide +kernel
theorem r_X7_number_43 {x0 x1 x2 x3 x4 x5 x6 : Value} {st : List Value} {h : AH} : Run M_X7_number 43 [x0, x1, x2, x3, x4, x5, x6] st h = Run M_X7_number 45 [x0, x1, x2, x3, x4, x5, x6] (.int (nI 57) :: st) h := R_bipush d_X7_number_43 (by decide)
theorem d_X7_number_45 : decode (mB M_X7_number) 45 = .ok (.if_icmp .gt 45, 3) := by decide +kernel
theorem r_X7_number_45 {x0 x1 x2 x3 x4 x5 x6 : Value} {x y : Int32} {st : List Value} {h : AH} : Run M_X7_number 45 [x0, x1, x2, x3, x4, x5, x6] (.int y :: .int x :: st) h = if y < x then Run M_X7_number 90 [x0, x1, x2, x3, x4, x5, x6] st h else Run M_X7_number 48 [x0, x1, x2, x3, x4, x5, x6] st h := R_icmp_gt d_X7_number_45 (by decide)
theorem d_X7_number_48 : decode (mB M_X7_number) 48 = .ok (.iload 4, 2) := by decide +kernel
theorem r_X7_number_48 {x0 x1 x2 x3 x5 x6 : Value} {a : Int32} {st : List Value} {h : AH} : Run M_X7_number 48 [x0, x1, x2, x3, .int a, x5, x6] st h = Run M_X7_number 50 [x0, x1, x2, x3, .int a, x5, x6] (.int a :: st) h := R_iload d_X7_number_48 rfl
theorem d_X7_number_50 : decode (mB M_X7_number) 50 = .ok (.iconst 3, 1) := by decide +kernel
theorem r_X7_number_50 {x0 x1 x2 x3 x4 x5 x6 : Value} {st : List Value} {h : AH} : Run M_X7_number 50 [x0, x1, x2, x3, x4, x5, x6] st h = Run M_X7_number 51 [x0, x1, x2, x3, x4, x5, x6] (.int (nI 3) :: st) h := R_iconst d_X7_number_50 (by decide)
theorem d_X7_number_51 : decode (mB M_X7_number) 51 = .ok (.if_icmp .ge 14, 3) := by decide +kernel
theorem r_X7_number_51 {x0 x1 x2 x3 x4 x5 x6 : Value} {x y : Int32} {st : List Value} {h : AH} : Run M_X7_number 51 [x0, x1, x2, x3, x4, x5, x6] (.int y :: .int x :: st) h = if y ≤ x then Run M_X7_number 65 [x0, x1, x2, x3, x4, x5, x6] st h else Run M_X7_number 54 [x0, x1, x2, x3, x4, x5, x6] st h := R_icmp_ge d_X7_number_51 (by decide)
theorem d_X7_number_54 : decode (mB M_X7_number) 54 = .ok (.iload_n 3, 1) := by decide +kernel
theorem r_X7_number_54 {x0 x1 x2 x4 x5 x6 : Value} {a : Int32} {st : List Value} {h : AH} : Run M_X7_number 54 [x0, x1, x2, .int a, x4, x5, x6] st h = Run M_X7_number 55 [x0, x1, x2, .int a, x4, x5, x6] (.int a :: st) h := R_iload_n d_X7_number_54 rfl
theorem d_X7_number_55 : decode (mB M_X7_number) 55 = .ok (.bipush 10, 2) := by decide +kernel
theorem r_X7_number_55 {x0 x1 x2 x3 x4 x5 x6 : Value} {st : List Value} {h : AH} : Run M_X7_number 55 [x0, x1, x2, x3, x4, x5, x6] st h = Run M_X7_number 57 [x0, x1, x2, x3, x4, x5, x6] (.int (nI 10) :: st) h := R_bipush d_X7_number_55 (by decide)
theorem d_X7_number_57 : decode (mB M_X7_number) 57 = .ok (.imul, 1) := by decide +kernel
theorem r_X7_number_57 {x0 x1 x2 x3 x4 x5 x6 : Value} {x y : Int32} {st : List Value} {h : AH} : Run M_X7_number 57 [x0, x1, x2, x3, x4, x5, x6] (.int y :: .int x :: st) h = Run M_X7_number 58 [x0, x1, x2, x3, x4, x5, x6] (.int (x * y) :: st) h := R_imul d_X7_number_57
theorem d_X7_number_58 : decode (mB M_X7_number) 58 = .ok (.iload 5, 2) := by decide +kernel
theorem r_X7_number_58 {x0 x1 x2 x3 x4 x6 : Value} {a : Int32} {st : List Value} {h : AH} : Run M_X7_number 58 [x0, x1, x2, x3, x4, .int a, x6] st h = Run M_X7_number 60 [x0, x1, x2, x3, x4, .int a, x6] (.int a :: st) h := R_iload d_X7_number_58 rfl
theorem d_X7_number_60 : decode (mB M_X7_number) 60 = .ok (.iadd, 1) := by decide +kernel
theorem r_X7_number_60 {x0 x1 x2 x3 x4 x5 x6 : Value} {x y : Int32} {st : List Value} {h : AH} : Run M_X7_number 60 [x0, x1, x2, x3, x4, x5, x6] (.int y :: .int x :: st) h = Run M_X7_number 61 [x0, x1, x2, x3, x4, x5, x6] (.int (x + y) :: st) h := R_iadd d_X7_number_60
theorem d_X7_number_61 : decode (mB M_X7_number) 61 = .ok (.bipush 48, 2) := by decide +kernel
theorem r_X7_number_61 {x0 x1 x2 x3 x4 x5 x6 : Value} {st : List Value} {h : AH} : Run M_X7_number 61 [x0, x1, x2, x3, x4, x5, x6] st h = Run M_X7_number 63 [x0, x1, x2, x3, x4, x5, x6] (.int (nI 48) :: st) h := R_bipush d_X7_number_61 (by decide)
theorem d_X7_number_63 : decode (mB M_X7_number) 63 = .ok (.isub, 1) := by decide +kernel
theorem r_X7_number_63 {x0 x1 x2 x3 x4 x5 x6 : Value} {x y : Int32} {st : List Value} {h : AH} : Run M_X7_number 63 [x0, x1, x2, x3, x4, x5, x6] (.int y :: .int x :: st) h = Run M_X7_number 64 [x0, x1, x2, x3, x4, x5, x6] (.int (x - y) :: st) h := R_isub d_X7_number_63
theorem d_X7_number_64 : decode (mB M_X7_number) 64 = .ok (.istore_n 3, 1) := by decide +kernel
theorem r_X7_number_64 {x0 x1 x2 x3 x4 x5 x6 : Value} {a : Int32} {st : List Value} {h : AH} (hc : x2.category = 1) : Run M_X7_number 64 [x0, x1, x2, x3, x4, x5, x6] (.int a :: st) h = Run M_X7_number 65 [x0, x1, x2, .int a, x4, x5, x6] st h := R_istore_n d_X7_number_64 (Nat.lt_of_lt_of_le (by decide : 3 < 7) (Nat.le_refl 7)) (catP_of rfl hc)
theorem d_X7_number_65 : decode (mB M_X7_number) 65 = .ok (.iinc 4 1, 3) := by decide +kernel
theorem r_X7_number_65 {x0 x1 x2 x3 x5 x6 : Value} {a : Int32} {st : List Value} {h : AH} (hc : x3.category = 1) : Run M_X7_number 65 [x0, x1, x2, x3, .int a, x5, x6] st h = Run M_X7_number 68 [x0, x1, x2, x3, .int (a + (nI 1)), x5, x6] st h := R_iinc d_X7_number_65 (by decide) rfl (catP_of rfl hc)
theorem d_X7_number_68 : decode (mB M_X7_number) 68 = .ok (.aload_n 0, 1) := by decide +kernel
theorem r_X7_number_68 {x1 x2 x3 x4 x5 x6 : Value} {a : Nat} {st : List Value} {h : AH} : Run M_X7_number 68 [.ref a, x1, x2, x3, x4, x5, x6] st h = Run M_X7_number 69 [.ref a, x1, x2, x3, x4, x5, x6] (.ref a :: st) h := R_aload_n d_X7_number_68 rfl
theorem d_X7_number_69 : decode (mB M_X7_number) 69 = .ok (.dup, 1) := by decide +kernel
theorem r_X7_number_69 {x0 x1 x2 x3 x4 x5 x6 : Value} {x : Nat} {st : List Value} {h : AH} : Run M_X7_number 69 [x0, x1, x2, x3, x4, x5, x6] (.ref x :: st) h = Run M_X7_number 70 [x0, x1, x2, x3, x4, x5, x6] (.ref x :: .ref x :: st) h := R_dupr d_X7_number_69
theorem d_X7_number_70 : decode (mB M_X7_number) 70 = .ok (.getfield 25, 3) := by decide +kernel
theorem r_X7_number_70 {x0 x1 x2 x3 x4 x5 x6 : Value} {a : Nat} {st : List Value} {h : AH} : Run M_X7_number 70 [x0, x1, x2, x3, x4, x5, x6] (.ref a :: st) h = if (gF h a 7 4).isSome = true then Run M_X7_number 73 [x0, x1, x2, x3, x4, x5, x6] ((gF h a 7 4).getD .null :: st) h else none := R_getfield d_X7_number_70 rfl
theorem d_X7_number_73 : decode (mB M_X7_number) 73 = .ok (.iconst 1, 1) := by decide +kernel
theorem r_X7_number_73 {x0 x1 x2 x3 x4 x5 x6 : Value} {st : List Value} {h : AH} : Run M_X7_number 73 [x0, x1, x2, x3, x4, x5, x6] st h = Run M_X7_number 74 [x0, x1, x2, x3, x4, x5, x6] (.int (nI 1) :: st) h := R_iconst d_X7_number_73 (by decide)
theorem d_X7_number_74 : decode (mB M_X7_number) 74 = .ok (.iadd, 1) := by decide +kernel
theorem r_X7_number_74 {x0 x1 x2 x3 x4 x5 x6 : Value} {x y : Int32} {st : List Value} {h : AH} : Run M_X7_number 74 [x0, x1, x2, x3, x4, x5, x6] (.int y :: .int x :: st) h = Run M_X7_number 75 [x0, x1, x2, x3, x4, x5, x6] (.int (x + y) :: st) h := R_iadd d_X7_number_74
theorem d_X7_number_75 : decode (mB M_X7_number) 75 = .ok (.putfield 25, 3) := by decide +kernel
theorem r_X7_number_75 {x0 x1 x2 x3 x4 x5 x6 : Value} {v : Int32} {a : Nat} {st : List Value} {h : AH} : Run M_X7_number 75 [x0, x1, x2, x3, x4, x5, x6] (.int v :: .ref a :: st) h = if (pF h a 7 4 (.int v)).isSome = true then Run M_X7_number 78 [x0, x1, x2, x3, x4, x5, x6] st ((pF h a 7 4 (.int v)).getD h) else none := R_putfield d_X7_number_75 rfl (okP_int rfl rfl)
theorem d_X7_number_78 : decode (mB M_X7_number) 78 = .ok (.aload_n 0, 1) := by decide +kernel
theorem r_X7_number_78 {x1 x2 x3 x4 x5 x6 : Value} {a : Nat} {st : List Value} {h : AH} : Run M_X7_number 78 [.ref a, x1, x2, x3, x4, x5, x6] st h = Run M_X7_number 79 [.ref a, x1, x2, x3, x4, x5, x6] (.ref a :: st) h := R_aload_n d_X7_number_78 rfl
theorem d_X7_number_79 : decode (mB M_X7_number) 79 = .ok (.invokevirtual 47, 3) := by decide +kernel
theorem r_X7_number_79 {x0 x1 x2 x3 x4 x5 x6 : Value} {a : Nat} {h : AH} : Run M_X7_number 79 [x0, x1, x2, x3, x4, x5, x6] (.ref a :: []) h = if refO h 7 (some (.ref a)) = true then (if (Call M_X7_here h [.ref a]).isSome = true then Run M_X7_number 82 [x0, x1, x2, x3, x4, x5, x6] (rL (Call M_X7_here h [.ref a]) ++ []) (cH (Call M_X7_here h [.ref a])) else none) else none := R_virt d_X7_number_79 rfl rfl rfl rfl rfl (Nat.le_of_ble_eq_true rfl)
theorem d_X7_number_82 : decode (mB M_X7_number) 82 = .ok (.istore 5, 2) := by decide +kernel
theorem r_X7_number_82 {x0 x1 x2 x3 x4 x5 x6 : Value} {a : Int32} {st : List Value} {h : AH} (hc : x4.category = 1) : Run M_X7_number 82 [x0, x1, x2, x3, x4, x5, x6] (.int a :: st) h = Run M_X7_number 84 [x0, x1, x2, x3, x4, .int a, x6] st h := R_istore d_X7_number_82 (Nat.lt_of_lt_of_le (by decide : 5 < 7) (Nat.le_refl 7)) (catP_of rfl hc)
theorem d_X7_number_84 : decode (mB M_X7_number) 84 = .ok (.iinc 6 1, 3) := by decide +kernel
theorem r_X7_number_84 {x0 x1 x2 x3 x4 x5 : Value} {a : Int32} {st : List Value} {h : AH} (hc : x5.category = 1) : Run M_X7_number 84 [x0, x1, x2, x3, x4, x5, .int a] st h = Run M_X7_number 87 [x0, x1, x2, x3, x4, x5, .int (a + (nI 1))] st h := R_iinc d_X7_number_84 (by decide) rfl (catP_of rfl hc)
theorem d_X7_number_87 : decode (mB M_X7_number) 87 = .ok (.goto (-61), 3) := by decide +kernel
theorem r_X7_number_87 {x0 x1 x2 x3 x4 x5 x6 : Value} {st : List Value} {h : AH} : Run M_X7_number 87 [x0, x1, x2, x3, x4, x5, x6] st h = Run M_X7_number 26 [x0, x1, x2, x3, x4, x5, x6] st h := R_goto d_X7_number_87 (by decide)
theorem d_X7_number_90 : decode (mB M_X7_number) 90 = .ok (.iload 4, 2) := by decide +kernel
theorem r_X7_number_90 {x0 x1 x2 x3 x5 x6 : Value} {a : Int32} {st : List Value} {h : AH} : Run M_X7_number 90 [x0, x1, x2, x3, .int a, x5, x6] st h = Run M_X7_number 92 [x0, x1, x2, x3, .int a, x5, x6] (.int a :: st) h := R_iload d_X7_number_90 rfl
theorem d_X7_number_92 : decode (mB M_X7_number) 92 = .ok (.ifCond .ne 15, 3) := by decide +kernel
theorem r_X7_number_92 {x0 x1 x2 x3 x4 x5 x6 : Value} {x : Int32} {st : List Value} {h : AH} : Run M_X7_number 92 [x0, x1, x2, x3, x4, x5, x6] (.int x :: st) h = if x = nI 0 then Run M_X7_number 95 [x0, x1, x2, x3, x4, x5, x6] st h else Run M_X7_number 107 [x0, x1, x2, x3, x4, x5, x6] st h := R_if_ne d_X7_number_92 (by decide)
theorem d_X7_number_95 : decode (mB M_X7_number) 95 = .ok (.aload_n 0, 1) := by decide +kernel
theorem r_X7_number_95 {x1 x2 x3 x4 x5 x6 : Value} {a : Nat} {st : List Value} {h : AH} : Run M_X7_number 95 [.ref a, x1, x2, x3, x4, x5, x6] st h = Run M_X7_number 96 [.ref a, x1, x2, x3, x4, x5, x6] (.ref a :: st) h := R_aload_n d_X7_number_95 rfl
theorem d_X7_number_96 : decode (mB M_X7_number) 96 = .ok (.iconst 1, 1) := by decide +kernel
theorem r_X7_number_96 {x0 x1 x2 x3 x4 x5 x6 : Value} {st : List Value} {h : AH} : Run M_X7_number 96 [x0, x1, x2, x3, x4, x5, x6] st h = Run M_X7_number 97 [x0, x1, x2, x3, x4, x5, x6] (.int (nI 1) :: st) h := R_iconst d_X7_number_96 (by decide)
theorem d_X7_number_97 : decode (mB M_X7_number) 97 = .ok (.aload_n 0, 1) := by decide +kernel
theorem r_X7_number_97 {x1 x2 x3 x4 x5 x6 : Value} {a : Nat} {st : List Value} {h : AH} : Run M_X7_number 97 [.ref a, x1, x2, x3, x4, x5, x6] st h = Run M_X7_number 98 [.ref a, x1, x2, x3, x4, x5, x6] (.ref a :: st) h := R_aload_n d_X7_number_97 rfl
theorem d_X7_number_98 : decode (mB M_X7_number) 98 = .ok (.getfield 25, 3) := by decide +kernel
theorem r_X7_number_98 {x0 x1 x2 x3 x4 x5 x6 : Value} {a : Nat} {st : List Value} {h : AH} : Run M_X7_number 98 [x0, x1, x2, x3, x4, x5, x6] (.ref a :: st) h = if (gF h a 7 4).isSome = true then Run M_X7_number 101 [x0, x1, x2, x3, x4, x5, x6] ((gF h a 7 4).getD .null :: st) h else none := R_getfield d_X7_number_98 rfl
theorem d_X7_number_101 : decode (mB M_X7_number) 101 = .ok (.invokevirtual 71, 3) := by decide +kernel
theorem r_X7_number_101 {x0 x1 x2 x3 x4 x5 x6 : Value} {p0 : Int32} {p1 : Int32} {a : Nat} {h : AH} : Run M_X7_number 101 [x0, x1, x2, x3, x4, x5, x6] (.int p1 :: .int p0 :: .ref a :: []) h = if refO h 7 (some (.ref a)) = true then (if (Call M_X7_fail h [.ref a, .int p0, .int p1]).isSome = true then Run M_X7_number 104 [x0, x1, x2, x3, x4, x5, x6] (rL (Call M_X7_fail h [.ref a, .int p0, .int p1]) ++ []) (cH (Call M_X7_fail h [.ref a, .int p0, .int p1])) else none) else none := R_virt d_X7_number_101 rfl rfl rfl rfl rfl (Nat.le_of_ble_eq_true rfl)
theorem d_X7_number_104 : decode (mB M_X7_number) 104 = .ok (.goto 27, 3) := by decide +kernel
theorem r_X7_number_104 {x0 x1 x2 x3 x4 x5 x6 : Value} {st : List Value} {h : AH} : Run M_X7_number 104 [x0, x1, x2, x3, x4, x5, x6] st h = Run M_X7_number 131 [x0, x1, x2, x3, x4, x5, x6] st h := R_goto d_X7_number_104 (by decide)
theorem d_X7_number_107 : decode (mB M_X7_number) 107 = .ok (.iload 4, 2) := by decide +kernel
theorem r_X7_number_107 {x0 x1 x2 x3 x5 x6 : Value} {a : Int32} {st : List Value} {h : AH} : Run M_X7_number 107 [x0, x1, x2, x3, .int a, x5, x6] st h = Run M_X7_number 109 [x0, x1, x2, x3, .int a, x5, x6] (.int a :: st) h := R_iload d_X7_number_107 rfl
theorem d_X7_number_109 : decode (mB M_X7_number) 109 = .ok (.iconst 3, 1) := by decide +kernel
theorem r_X7_number_109 {x0 x1 x2 x3 x4 x5 x6 : Value} {st : List Value} {h : AH} : Run M_X7_number 109 [x0, x1, x2, x3, x4, x5, x6] st h = Run M_X7_number 110 [x0, x1, x2, x3, x4, x5, x6] (.int (nI 3) :: st) h := R_iconst d_X7_number_109 (by decide)
theorem d_X7_number_110 : decode (mB M_X7_number) 110 = .ok (.if_icmp .gt 12, 3) := by decide +kernel
theorem r_X7_number_110 {x0 x1 x2 x3 x4 x5 x6 : Value} {x y : Int32} {st : List Value} {h : AH} : Run M_X7_number 110 [x0, x1, x2, x3, x4, x5, x6] (.int y :: .int x :: st) h = if y < x then Run M_X7_number 122 [x0, x1, x2, x3, x4, x5, x6] st h else Run M_X7_number 113 [x0, x1, x2, x3, x4, x5, x6] st h := R_icmp_gt d_X7_number_110 (by decide)
theorem d_X7_number_113 : decode (mB M_X7_number) 113 = .ok (.iload_n 3, 1) := by decide +kernel
theorem r_X7_number_113 {x0 x1 x2 x4 x5 x6 : Value} {a : Int32} {st : List Value} {h : AH} : Run M_X7_number 113 [x0, x1, x2, .int a, x4, x5, x6] st h = Run M_X7_number 114 [x0, x1, x2, .int a, x4, x5, x6] (.int a :: st) h := R_iload_n d_X7_number_113 rfl
theorem d_X7_number_114 : decode (mB M_X7_number) 114 = .ok (.iload_n 1, 1) := by decide +kernel
theorem r_X7_number_114 {x0 x2 x3 x4 x5 x6 : Value} {a : Int32} {st : List Value} {h : AH} : Run M_X7_number 114 [x0, .int a, x2, x3, x4, x5, x6] st h = Run M_X7_number 115 [x0, .int a, x2, x3, x4, x5, x6] (.int a :: st) h := R_iload_n d_X7_number_114 rfl
theorem d_X7_number_115 : decode (mB M_X7_number) 115 = .ok (.iload_n 2, 1) := by decide +kernel
theorem r_X7_number_115 {x0 x1 x3 x4 x5 x6 : Value} {a : Int32} {st : List Value} {h : AH} : Run M_X7_number 115 [x0, x1, .int a, x3, x4, x5, x6] st h = Run M_X7_number 116 [x0, x1, .int a, x3, x4, x5, x6] (.int a :: st) h := R_iload_n d_X7_number_115 rfl
theorem d_X7_number_116 : decode (mB M_X7_number) 116 = .ok (.invokestatic 147, 3) := by decide +kernel
theorem r_X7_number_116 {x0 x1 x2 x3 x4 x5 x6 : Value} {p0 : Int32} {p1 : Int32} {p2 : Int32} {h : AH} : Run M_X7_number 116 [x0, x1, x2, x3, x4, x5, x6] (.int p2 :: .int p1 :: .int p0 :: []) h = if (Call M_X8_within h [.int p0, .int p1, .int p2]).isSome = true then Run M_X7_number 119 [x0, x1, x2, x3, x4, x5, x6] (rL (Call M_X8_within h [.int p0, .int p1, .int p2]) ++ []) (cH (Call M_X8_within h [.int p0, .int p1, .int p2])) else none := R_statN d_X7_number_116 rfl rfl rfl rfl rfl (Nat.le_of_ble_eq_true rfl)
theorem d_X7_number_119 : decode (mB M_X7_number) 119 = .ok (.ifCond .ne 12, 3) := by decide +kernel
theorem r_X7_number_119 {x0 x1 x2 x3 x4 x5 x6 : Value} {x : Int32} {st : List Value} {h : AH} : Run M_X7_number 119 [x0, x1, x2, x3, x4, x5, x6] (.int x :: st) h = if x = nI 0 then Run M_X7_number 122 [x0, x1, x2, x3, x4, x5, x6] st h else Run M_X7_number 131 [x0, x1, x2, x3, x4, x5, x6] st h := R_if_ne d_X7_number_119 (by decide)
theorem d_X7_number_122 : decode (mB M_X7_number) 122 = .ok (.aload_n 0, 1) := by decide +kernel
theorem r_X7_number_122 {x1 x2 x3 x4 x5 x6 : Value} {a : Nat} {st : List Value} {h : AH} : Run M_X7_number 122 [.ref a, x1, x2, x3, x4, x5, x6] st h = Run M_X7_number 123 [.ref a, x1, x2, x3, x4, x5, x6] (.ref a :: st) h := R_aload_n d_X7_number_122 rfl
theorem d_X7_number_123 : decode (mB M_X7_number) 123 = .ok (.iconst 2, 1) := by decide +kernel
theorem r_X7_number_123 {x0 x1 x2 x3 x4 x5 x6 : Value} {st : List Value} {h : AH} : Run M_X7_number 123 [x0, x1, x2, x3, x4, x5, x6] st h = Run M_X7_number 124 [x0, x1, x2, x3, x4, x5, x6] (.int (nI 2) :: st) h := R_iconst d_X7_number_123 (by decide)
theorem d_X7_number_124 : decode (mB M_X7_number) 124 = .ok (.aload_n 0, 1) := by decide +kernel
theorem r_X7_number_124 {x1 x2 x3 x4 x5 x6 : Value} {a : Nat} {st : List Value} {h : AH} : Run M_X7_number 124 [.ref a, x1, x2, x3, x4, x5, x6] st h = Run M_X7_number 125 [.ref a, x1, x2, x3, x4, x5, x6] (.ref a :: st) h := R_aload_n d_X7_number_124 rfl
theorem d_X7_number_125 : decode (mB M_X7_number) 125 = .ok (.getfield 98, 3) := by decide +kernel
theorem r_X7_number_125 {x0 x1 x2 x3 x4 x5 x6 : Value} {a : Nat} {st : List Value} {h : AH} : Run M_X7_number 125 [x0, x1, x2, x3, x4, x5, x6] (.ref a :: st) h = if (gF h a 7 5).isSome = true then Run M_X7_number 128 [x0, x1, x2, x3, x4, x5, x6] ((gF h a 7 5).getD .null :: st) h else none := R_getfield d_X7_number_125 rfl
theorem d_X7_number_128 : decode (mB M_X7_number) 128 = .ok (.invokevirtual 71, 3) := by decide +kernel
theorem r_X7_number_128 {x0 x1 x2 x3 x4 x5 x6 : Value} {p0 : Int32} {p1 : Int32} {a : Nat} {h : AH} : Run M_X7_number 128 [x0, x1, x2, x3, x4, x5, x6] (.int p1 :: .int p0 :: .ref a :: []) h = if refO h 7 (some (.ref a)) = true then (if (Call M_X7_fail h [.ref a, .int p0, .int p1]).isSome = true then Run M_X7_number 131 [x0, x1, x2, x3, x4, x5, x6] (rL (Call M_X7_fail h [.ref a, .int p0, .int p1]) ++ []) (cH (Call M_X7_fail h [.ref a, .int p0, .int p1])) else none) else none := R_virt d_X7_number_128 rfl rfl rfl rfl rfl (Nat.le_of_ble_eq_true rfl)
theorem d_X7_number_131 : decode (mB M_X7_number) 131 = .ok (.iload_n 3, 1) := by decide +kernel
theorem r_X7_number_131 {x0 x1 x2 x4 x5 x6 : Value} {a : Int32} {st : List Value} {h : AH} : Run M_X7_number 131 [x0, x1, x2, .int a, x4, x5, x6] st h = Run M_X7_number 132 [x0, x1, x2, .int a, x4, x5, x6] (.int a :: st) h := R_iload_n d_X7_number_131 rfl
theorem d_X7_number_132 : decode (mB M_X7_number) 132 = .ok (.ireturn, 1) := by decide +kernel
theorem r_X7_number_132 {x0 x1 x2 x3 x4 x5 x6 : Value} {v : Int32} {h : AH} : Run M_X7_number 132 [x0, x1, x2, x3, x4, x5, x6] [.int v] h = some (h, some (.int v)) := R_ireturn d_X7_number_132 rfl rfl
theorem d_X7_takeComma_0 : decode (mB M_X7_takeComma) 0 = .ok (.aload_n 0, 1) := by decide +kernel
theorem r_X7_takeComma_0 {a : Nat} {st : List Value} {h : AH} : Run M_X7_takeComma 0 [.ref a] st h = Run M_X7_takeComma 1 [.ref a] (.ref a :: st) h := R_aload_n d_X7_takeComma_0 rfl
theorem d_X7_takeComma_1 : decode (mB M_X7_takeComma) 1 = .ok (.invokevirtual 40, 3) := by decide +kernel
theorem r_X7_takeComma_1 {x0 : Value} {a : Nat} {h : AH} : Run M_X7_takeComma 1 [x0] (.ref a :: []) h = if refO h 7 (some (.ref a)) = true then (if (Call M_X7_skipBlanks h [.ref a]).isSome = true then Run M_X7_takeComma 4 [x0] (rL (Call M_X7_skipBlanks h [.ref a]) ++ []) (cH (Call M_X7_skipBlanks h [.ref a])) else none) else none := R_virt d_X7_takeComma_1 rfl rfl rfl rfl rfl (Nat.le_of_ble_eq_true rfl)
theorem d_X7_takeComma_4 : decode (mB M_X7_takeComma) 4 = .ok (.aload_n 0, 1) := by decide +kernel
theorem r_X7_takeComma_4 {a : Nat} {st : List Value} {h : AH} : Run M_X7_takeComma 4 [.ref a] st h = Run M_X7_takeComma 5 [.ref a] (.ref a :: st) h := R_aload_n d_X7_takeComma_4 rfl
theorem d_X7_takeComma_5 : decode (mB M_X7_takeComma) 5 = .ok (.invokevirtual 47, 3) := by decide +kernel
theorem r_X7_takeComma_5 {x0 : Value} {a : Nat} {h : AH} : Run M_X7_takeComma 5 [x0] (.ref a :: []) h = if refO h 7 (some (.ref a)) = true then (if (Call M_X7_here h [.ref a]).isSome = true then Run M_X7_takeComma 8 [x0] (rL (Call M_X7_here h [.ref a]) ++ []) (cH (Call M_X7_here h [.ref a])) else none) else none := R_virt d_X7_takeComma_5 rfl rfl rfl rfl rfl (Nat.le_of_ble_eq_true rfl)
theorem d_X7_takeComma_8 : decode (mB M_X7_takeComma) 8 = .ok (.bipush 44, 2) := by decide +kernel
theorem r_X7_takeComma_8 {x0 : Value} {st : List Value} {h : AH} : Run M_X7_takeComma 8 [x0] st h = Run M_X7_takeComma 10 [x0] (.int (nI 44) :: st) h := R_bipush d_X7_takeComma_8 (by decide)
theorem d_X7_takeComma_10 : decode (mB M_X7_takeComma) 10 = .ok (.if_icmp .eq 5, 3) := by decide +kernel
theorem r_X7_takeComma_10 {x0 : Value} {x y : Int32} {st : List Value} {h : AH} : Run M_X7_takeComma 10 [x0] (.int y :: .int x :: st) h = if x = y then Run M_X7_takeComma 15 [x0] st h else Run M_X7_takeComma 13 [x0] st h := R_icmp_eq d_X7_takeComma_10 (by decide)
theorem d_X7_takeComma_13 : decode (mB M_X7_takeComma) 13 = .ok (.iconst 0, 1) := by decide +kernel
theorem r_X7_takeComma_13 {x0 : Value} {st : List Value} {h : AH} : Run M_X7_takeComma 13 [x0] st h = Run M_X7_takeComma 14 [x0] (.int (nI 0) :: st) h := R_iconst d_X7_takeComma_13 (by decide)
theorem d_X7_takeComma_14 : decode (mB M_X7_takeComma) 14 = .ok (.ireturn, 1) := by decide +kernel
theorem r_X7_takeComma_14_0 {x0 : Value} {h : AH} : Run M_X7_takeComma 14 [x0] [.int (nI 0)] h = some (h, some (.int (nI 0))) := R_ireturn d_X7_takeComma_14 rfl (by decide)
theorem r_X7_takeComma_14_1 {x0 : Value} {h : AH} : Run M_X7_takeComma 14 [x0] [.int (nI 1)] h = some (h, some (.int (nI 1))) := R_ireturn d_X7_takeComma_14 rfl (by decide)
theorem r_X7_takeComma_14_c {x0 : Value} {c : Prop} [Decidable c] {h : AH} : Run M_X7_takeComma 14 [x0] [.int (bI c)] h = some (h, some (.int (bI c))) := R_ireturn d_X7_takeComma_14 rfl narrow_bI
theorem d_X7_takeComma_15 : decode (mB M_X7_takeComma) 15 = .ok (.aload_n 0, 1) := by decide +kernel
theorem r_X7_takeComma_15 {a : Nat} {st : List Value} {h : AH} : Run M_X7_takeComma 15 [.ref a] st h = Run M_X7_takeComma 16 [.ref a] (.ref a :: st) h := R_aload_n d_X7_takeComma_15 rfl
theorem d_X7_takeComma_16 : decode (mB M_X7_takeComma) 16 = .ok (.dup, 1) := by decide +kernel
theorem r_X7_takeComma_16 {x0 : Value} {x : Nat} {st : List Value} {h : AH} : Run M_X7_takeComma 16 [x0] (.ref x :: st) h = Run M_X7_takeComma 17 [x0] (.ref x :: .ref x :: st) h := R_dupr d_X7_takeComma_16
theorem d_X7_takeComma_17 : decode (mB M_X7_takeComma) 17 = .ok (.getfield 25, 3) := by decide +kernel
theorem r_X7_takeComma_17 {x0 : Value} {a : Nat} {st : List Value} {h : AH} : Run M_X7_takeComma 17 [x0] (.ref a :: st) h = if (gF h a 7 4).isSome = true then Run M_X7_takeComma 20 [x0] ((gF h a 7 4).getD .null :: st) h else none := R_getfield d_X7_takeComma_17 rfl
theorem d_X7_takeComma_20 : decode (mB M_X7_takeComma) 20 = .ok (.iconst 1, 1) := by decide +kernel
theorem r_X7_takeComma_20 {x0 : Value} {st : List Value} {h : AH} : Run M_X7_takeComma 20 [x0] st h = Run M_X7_takeComma 21 [x0] (.int (nI 1) :: st) h := R_iconst d_X7_takeComma_20 (by decide)
theorem d_X7_takeComma_21 : decode (mB M_X7_takeComma) 21 = .ok (.iadd, 1) := by decide +kernel
theorem r_X7_takeComma_21 {x0 : Value} {x y : Int32} {st : List Value} {h : AH} : Run M_X7_takeComma 21 [x0] (.int y :: .int x :: st) h = Run M_X7_takeComma 22 [x0] (.int (x + y) :: st) h := R_iadd d_X7_takeComma_21
theorem d_X7_takeComma_22 : decode (mB M_X7_takeComma) 22 = .ok (.putfield 25, 3) := by decide +kernel
theorem r_X7_takeComma_22 {x0 : Value} {v : Int32} {a : Nat} {st : List Value} {h : AH} : Run M_X7_takeComma 22 [x0] (.int v :: .ref a :: st) h = if (pF h a 7 4 (.int v)).isSome = true then Run M_X7_takeComma 25 [x0] st ((pF h a 7 4 (.int v)).getD h) else none := R_putfield d_X7_takeComma_22 rfl (okP_int rfl rfl)
theorem d_X7_takeComma_25 : decode (mB M_X7_takeComma) 25 = .ok (.iconst 1, 1) := by decide +kernel
theorem r_X7_takeComma_25 {x0 : Value} {st : List Value} {h : AH} : Run M_X7_takeComma 25 [x0] st h = Run M_X7_takeComma 26 [x0] (.int (nI 1) :: st) h := R_iconst d_X7_takeComma_25 (by decide)
theorem d_X7_takeComma_26 : decode (mB M_X7_takeComma) 26 = .ok (.ireturn, 1) := by decide +kernel
theorem r_X7_takeComma_26_0 {x0 : Value} {h : AH} : Run M_X7_takeComma 26 [x0] [.int (nI 0)] h = some (h, some (.int (nI 0))) := R_ireturn d_X7_takeComma_26 rfl (by decide)
theorem r_X7_takeComma_26_1 {x0 : Value} {h : AH} : Run M_X7_takeComma 26 [x0] [.int (nI 1)] h = some (h, some (.int (nI 1))) := R_ireturn d_X7_takeComma_26 rfl (by decide)
theorem r_X7_takeComma_26_c {x0 : Value} {c : Prop} [Decidable c] {h : AH} : Run M_X7_takeComma 26 [x0] [.int (bI c)] h = some (h, some (.int (bI c))) := R_ireturn d_X7_takeComma_26 rfl narrow_bI
theorem d_X7_close_0 : decode (mB M_X7_close) 0 = .ok (.aload_n 0, 1) := by decide +kernel
theorem r_X7_close_0 {a : Nat} {st : List Value} {h : AH} : Run M_X7_close 0 [.ref a] st h = Run M_X7_close 1 [.ref a] (.ref a :: st) h := R_aload_n d_X7_close_0 rfl
theorem d_X7_close_1 : decode (mB M_X7_close) 1 = .ok (.invokevirtual 40, 3) := by decide +kernel
theorem r_X7_close_1 {x0 : Value} {a : Nat} {h : AH} : Run M_X7_close 1 [x0] (.ref a :: []) h = if refO h 7 (some (.ref a)) = true then (if (Call M_X7_skipBlanks h [.ref a]).isSome = true then Run M_X7_close 4 [x0] (rL (Call M_X7_skipBlanks h [.ref a]) ++ []) (cH (Call M_X7_skipBlanks h [.ref a])) else none) else none := R_virt d_X7_close_1 rfl rfl rfl rfl rfl (Nat.le_of_ble_eq_true rfl)
theorem d_X7_close_4 : decode (mB M_X7_close) 4 = .ok (.aload_n 0, 1) := by decide +kernel
theorem r_X7_close_4 {a : Nat} {st : List Value} {h : AH} : Run M_X7_close 4 [.ref a] st h = Run M_X7_close 5 [.ref a] (.ref a :: st) h := R_aload_n d_X7_close_4 rfl
theorem d_X7_close_5 : decode (mB M_X7_close) 5 = .ok (.invokevirtual 47, 3) := by decide +kernel
theorem r_X7_close_5 {x0 : Value} {a : Nat} {h : AH} : Run M_X7_close 5 [x0] (.ref a :: []) h = if refO h 7 (some (.ref a)) = true then (if (Call M_X7_here h [.ref a]).isSome = true then Run M_X7_close 8 [x0] (rL (Call M_X7_here h [.ref a]) ++ []) (cH (Call M_X7_here h [.ref a])) else none) else none := R_virt d_X7_close_5 rfl rfl rfl rfl rfl (Nat.le_of_ble_eq_true rfl)
theorem d_X7_close_8 : decode (mB M_X7_close) 8 = .ok (.bipush 59, 2) := by decide +kernel
theorem r_X7_close_8 {x0 : Value} {st : List Value} {h : AH} : Run M_X7_close 8 [x0] st h = Run M_X7_close 10 [x0] (.int (nI 59) :: st) h := R_bipush d_X7_close_8 (by decide)
theorem d_X7_close_10 : decode (mB M_X7_close) 10 = .ok (.if_icmp .ne 16, 3) := by decide +kernel
theorem r_X7_close_10 {x0 : Value} {x y : Int32} {st : List Value} {h : AH} : Run M_X7_close 10 [x0] (.int y :: .int x :: st) h = if x = y then Run M_X7_close 13 [x0] st h else Run M_X7_close 26 [x0] st h := R_icmp_ne d_X7_close_10 (by decide)
theorem d_X7_close_13 : decode (mB M_X7_close) 13 = .ok (.aload_n 0, 1) := by decide +kernel
theorem r_X7_close_13 {a : Nat} {st : List Value} {h : AH} : Run M_X7_close 13 [.ref a] st h = Run M_X7_close 14 [.ref a] (.ref a :: st) h := R_aload_n d_X7_close_13 rfl
theorem d_X7_close_14 : decode (mB M_X7_close) 14 = .ok (.dup, 1) := by decide +kernel
theorem r_X7_close_14 {x0 : Value} {x : Nat} {st : List Value} {h : AH} : Run M_X7_close 14 [x0] (.ref x :: st) h = Run M_X7_close 15 [x0] (.ref x :: .ref x :: st) h := R_dupr d_X7_close_14
theorem d_X7_close_15 : decode (mB M_X7_close) 15 = .ok (.getfield 25, 3) := by decide +kernel
theorem r_X7_close_15 {x0 : Value} {a : Nat} {st : List Value} {h : AH} : Run M_X7_close 15 [x0] (.ref a :: st) h = if (gF h a 7 4).isSome = true then Run M_X7_close 18 [x0] ((gF h a 7 4).getD .null :: st) h else none := R_getfield d_X7_close_15 rfl
theorem d_X7_close_18 : decode (mB M_X7_close) 18 = .ok (.iconst 1, 1) := by decide +kernel
theorem r_X7_close_18 {x0 : Value} {st : List Value} {h : AH} : Run M_X7_close 18 [x0] st h = Run M_X7_close 19 [x0] (.int (nI 1) :: st) h := R_iconst d_X7_close_18 (by decide)
theorem d_X7_close_19 : decode (mB M_X7_close) 19 = .ok (.iadd, 1) := by decide +kernel
theorem r_X7_close_19 {x0 : Value} {x y : Int32} {st : List Value} {h : AH} : Run M_X7_close 19 [x0] (.int y :: .int x :: st) h = Run M_X7_close 20 [x0] (.int (x + y) :: st) h := R_iadd d_X7_close_19
theorem d_X7_close_20 : decode (mB M_X7_close) 20 = .ok (.putfield 25, 3) := by decide +kernel
theorem r_X7_close_20 {x0 : Value} {v : Int32} {a : Nat} {st : List Value} {h : AH} : Run M_X7_close 20 [x0] (.int v :: .ref a :: st) h = if (pF h a 7 4 (.int v)).isSome = true then Run M_X7_close 23 [x0] st ((pF h a 7 4 (.int v)).getD h) else none := R_putfield d_X7_close_20 rfl (okP_int rfl rfl)
theorem d_X7_close_23 : decode (mB M_X7_close) 23 = .ok (.goto 12, 3) := by decide +kernel
theorem r_X7_close_23 {x0 : Value} {st : List Value} {h : AH} : Run M_X7_close 23 [x0] st h = Run M_X7_close 35 [x0] st h := R_goto d_X7_close_23 (by decide)
theorem d_X7_close_26 : decode (mB M_X7_close) 26 = .ok (.aload_n 0, 1) := by decide +kernel
theorem r_X7_close_26 {a : Nat} {st : List Value} {h : AH} : Run M_X7_close 26 [.ref a] st h = Run M_X7_close 27 [.ref a] (.ref a :: st) h := R_aload_n d_X7_close_26 rfl
theorem d_X7_close_27 : decode (mB M_X7_close) 27 = .ok (.iconst 1, 1) := by decide +kernel
theorem r_X7_close_27 {x0 : Value} {st : List Value} {h : AH} : Run M_X7_close 27 [x0] st h = Run M_X7_close 28 [x0] (.int (nI 1) :: st) h := R_iconst d_X7_close_27 (by decide)
theorem d_X7_close_28 : decode (mB M_X7_close) 28 = .ok (.aload_n 0, 1) := by decide +kernel
theorem r_X7_close_28 {a : Nat} {st : List Value} {h : AH} : Run M_X7_close 28 [.ref a] st h = Run M_X7_close 29 [.ref a] (.ref a :: st) h := R_aload_n d_X7_close_28 rfl
theorem d_X7_close_29 : decode (mB M_X7_close) 29 = .ok (.getfield 25, 3) := by decide +kernel
theorem r_X7_close_29 {x0 : Value} {a : Nat} {st : List Value} {h : AH} : Run M_X7_close 29 [x0] (.ref a :: st) h = if (gF h a 7 4).isSome = true then Run M_X7_close 32 [x0] ((gF h a 7 4).getD .null :: st) h else none := R_getfield d_X7_close_29 rfl
theorem d_X7_close_32 : decode (mB M_X7_close) 32 = .ok (.invokevirtual 71, 3) := by decide +kernel
theorem r_X7_close_32 {x0 : Value} {p0 : Int32} {p1 : Int32} {a : Nat} {h : AH} : Run M_X7_close 32 [x0] (.int p1 :: .int p0 :: .ref a :: []) h = if refO h 7 (some (.ref a)) = true then (if (Call M_X7_fail h [.ref a, .int p0, .int p1]).isSome = true then Run M_X7_close 35 [x0] (rL (Call M_X7_fail h [.ref a, .int p0, .int p1]) ++ []) (cH (Call M_X7_fail h [.ref a, .int p0, .int p1])) else none) else none := R_virt d_X7_close_32 rfl rfl rfl rfl rfl (Nat.le_of_ble_eq_true rfl)
theorem d_X7_close_35 : decode (mB M_X7_close) 35 = .ok (.return_, 1) := by decide +kernel
theorem r_X7_close_35 {x0 : Value} {h : AH} : Run M_X7_close 35 [x0] [] h = some (h, none) := R_return d_X7_close_35 rfl
theorem d_X7_skipBlanks_0 : decode (mB M_X7_skipBlanks) 0 = .ok (.aload_n 0, 1) := by decide +kernel
theorem r_X7_skipBlanks_0 {a : Nat} {st : List Value} {h : AH} : Run M_X7_skipBlanks 0 [.ref a] st h = Run M_X7_skipBlanks 1 [.ref a] (.ref a :: st) h := R_aload_n d_X7_skipBlanks_0 rfl
theorem d_X7_skipBlanks_1 : decode (mB M_X7_skipBlanks) 1 = .ok (.getfield 25, 3) := by decide +kernel
theorem r_X7_skipBlanks_1 {x0 : Value} {a : Nat} {st : List Value} {h : AH} : Run M_X7_skipBlanks 1 [x0] (.ref a :: st) h = if (gF h a 7 4).isSome = true then Run M_X7_skipBlanks 4 [x0] ((gF h a 7 4).getD .null :: st) h else none := R_getfield d_X7_skipBlanks_1 rfl
theorem d_X7_skipBlanks_4 : decode (mB M_X7_skipBlanks) 4 = .ok (.aload_n 0, 1) := by decide +kernel
theorem r_X7_skipBlanks_4 {a : Nat} {st : List Value} {h : AH} : Run M_X7_skipBlanks 4 [.ref a] st h = Run M_X7_skipBlanks 5 [.ref a] (.ref a :: st) h := R_aload_n d_X7_skipBlanks_4 rfl
theorem d_X7_skipBlanks_5 : decode (mB M_X7_skipBlanks) 5 = .ok (.getfield 19, 3) := by decide +kernel
theorem r_X7_skipBlanks_5 {x0 : Value} {a : Nat} {st : List Value} {h : AH} : Run M_X7_skipBlanks 5 [x0] (.ref a :: st) h = if (gF h a 7 1).isSome = true then Run M_X7_skipBlanks 8 [x0] ((gF h a 7 1).getD .null :: st) h else none := R_getfield d_X7_skipBlanks_5 rfl
theorem d_X7_skipBlanks_8 : decode (mB M_X7_skipBlanks) 8 = .ok (.if_icmp .ge 30, 3) := by decide +kernel
theorem r_X7_skipBlanks_8 {x0 : Value} {x y : Int32} {st : List Value} {h : AH} : Run M_X7_skipBlanks 8 [x0] (.int y :: .int x :: st) h = if y ≤ x then Run M_X7_skipBlanks 38 [x0] st h else Run M_X7_skipBlanks 11 [x0] st h := R_icmp_ge d_X7_skipBlanks_8 (by decide)
theorem d_X7_skipBlanks_11 : decode (mB M_X7_skipBlanks) 11 = .ok (.aload_n 0, 1) := by decide +kernel
theorem r_X7_skipBlanks_11 {a : Nat} {st : List Value} {h : AH} : Run M_X7_skipBlanks 11 [.ref a] st h = Run M_X7_skipBlanks 12 [.ref a] (.ref a :: st) h := R_aload_n d_X7_skipBlanks_11 rfl
theorem d_X7_skipBlanks_12 : decode (mB M_X7_skipBlanks) 12 = .ok (.getfield 9, 3) := by decide +kernel
theorem r_X7_skipBlanks_12 {x0 : Value} {a : Nat} {st : List Value} {h : AH} : Run M_X7_skipBlanks 12 [x0] (.ref a :: st) h = if (gF h a 7 0).isSome = true then Run M_X7_skipBlanks 15 [x0] ((gF h a 7 0).getD .null :: st) h else none := R_getfield d_X7_skipBlanks_12 rfl
theorem d_X7_skipBlanks_15 : decode (mB M_X7_skipBlanks) 15 = .ok (.aload_n 0, 1) := by decide +kernel
theorem r_X7_skipBlanks_15 {a : Nat} {st : List Value} {h : AH} : Run M_X7_skipBlanks 15 [.ref a] st h = Run M_X7_skipBlanks 16 [.ref a] (.ref a :: st) h := R_aload_n d_X7_skipBlanks_15 rfl
theorem d_X7_skipBlanks_16 : decode (mB M_X7_skipBlanks) 16 = .ok (.getfield 25, 3) := by decide +kernel
theorem r_X7_skipBlanks_16 {x0 : Value} {a : Nat} {st : List Value} {h : AH} : Run M_X7_skipBlanks 16 [x0] (.ref a :: st) h = if (gF h a 7 4).isSome = true then Run M_X7_skipBlanks 19 [x0] ((gF h a 7 4).getD .null :: st) h else none := R_getfield d_X7_skipBlanks_16 rfl
theorem d_X7_skipBlanks_19 : decode (mB M_X7_skipBlanks) 19 = .ok (.iaload, 1) := by decide +kernel
theorem r_X7_skipBlanks_19 {x0 : Value} {a : Nat} {i : Int32} {st : List Value} {h : AH} : Run M_X7_skipBlanks 19 [x0] (.int i :: .ref a :: st) h = if (gI 0 h a i).isSome = true then Run M_X7_skipBlanks 20 [x0] (.int ((gI 0 h a i).getD 0) :: st) h else none := R_iaload d_X7_skipBlanks_19
theorem d_X7_skipBlanks_20 : decode (mB M_X7_skipBlanks) 20 = .ok (.bipush 32, 2) := by decide +kernel
theorem r_X7_skipBlanks_20 {x0 : Value} {st : List Value} {h : AH} : Run M_X7_skipBlanks 20 [x0] st h = Run M_X7_skipBlanks 22 [x0] (.int (nI 32) :: st) h := R_bipush d_X7_skipBlanks_20 (by decide)
theorem d_X7_skipBlanks_22 : decode (mB M_X7_skipBlanks) 22 = .ok (.if_icmp .ne 16, 3) := by decide +kernel
theorem r_X7_skipBlanks_22 {x0 : Value} {x y : Int32} {st : List Value} {h : AH} : Run M_X7_skipBlanks 22 [x0] (.int y :: .int x :: st) h = if x = y then Run M_X7_skipBlanks 25 [x0] st h else Run M_X7_skipBlanks 38 [x0] st h := R_icmp_ne d_X7_skipBlanks_22 (by decide)
theorem d_X7_skipBlanks_25 : decode (mB M_X7_skipBlanks) 25 = .ok (.aload_n 0, 1) := by decide +kernel
theorem r_X7_skipBlanks_25 {a : Nat} {st : List Value} {h : AH} : Run M_X7_skipBlanks 25 [.ref a] st h = Run M_X7_skipBlanks 26 [.ref a] (.ref a :: st) h := R_aload_n d_X7_skipBlanks_25 rfl
theorem d_X7_skipBlanks_26 : decode (mB M_X7_skipBlanks) 26 = .ok (.dup, 1) := by decide +kernel
theorem r_X7_skipBlanks_26 {x0 : Value} {x : Nat} {st : List Value} {h : AH} : Run M_X7_skipBlanks 26 [x0] (.ref x :: st) h = Run M_X7_skipBlanks 27 [x0] (.ref x :: .ref x :: st) h := R_dupr d_X7_skipBlanks_26
theorem d_X7_skipBlanks_27 : decode (mB M_X7_skipBlanks) 27 = .ok (.getfield 25, 3) := by decide +kernel
theorem r_X7_skipBlanks_27 {x0 : Value} {a : Nat} {st : List Value} {h : AH} : Run M_X7_skipBlanks 27 [x0] (.ref a :: st) h = if (gF h a 7 4).isSome = true then Run M_X7_skipBlanks 30 [x0] ((gF h a 7 4).getD .null :: st) h else none := R_getfield d_X7_skipBlanks_27 rfl
theorem d_X7_skipBlanks_30 : decode (mB M_X7_skipBlanks) 30 = .ok (.iconst 1, 1) := by decide +kernel
theorem r_X7_skipBlanks_30 {x0 : Value} {st : List Value} {h : AH} : Run M_X7_skipBlanks 30 [x0] st h = Run M_X7_skipBlanks 31 [x0] (.int (nI 1) :: st) h := R_iconst d_X7_skipBlanks_30 (by decide)
theorem d_X7_skipBlanks_31 : decode (mB M_X7_skipBlanks) 31 = .ok (.iadd, 1) := by decide +kernel
theorem r_X7_skipBlanks_31 {x0 : Value} {x y : Int32} {st : List Value} {h : AH} : Run M_X7_skipBlanks 31 [x0] (.int y :: .int x :: st) h = Run M_X7_skipBlanks 32 [x0] (.int (x + y) :: st) h := R_iadd d_X7_skipBlanks_31
theorem d_X7_skipBlanks_32 : decode (mB M_X7_skipBlanks) 32 = .ok (.putfield 25, 3) := by decide +kernel
theorem r_X7_skipBlanks_32 {x0 : Value} {v : Int32} {a : Nat} {st : List Value} {h : AH} : Run M_X7_skipBlanks 32 [x0] (.int v :: .ref a :: st) h = if (pF h a 7 4 (.int v)).isSome = true then Run M_X7_skipBlanks 35 [x0] st ((pF h a 7 4 (.int v)).getD h) else none := R_putfield d_X7_skipBlanks_32 rfl (okP_int rfl rfl)
theorem d_X7_skipBlanks_35 : decode (mB M_X7_skipBlanks) 35 = .ok (.goto (-35), 3) := by decide +kernel
theorem r_X7_skipBlanks_35 {x0 : Value} {st : List Value} {h : AH} : Run M_X7_skipBlanks 35 [x0] st h = Run M_X7_skipBlanks 0 [x0] st h := R_goto d_X7_skipBlanks_35 (by decide)
theorem d_X7_skipBlanks_38 : decode (mB M_X7_skipBlanks) 38 = .ok (.return_, 1) := by decide +kernel
theorem r_X7_skipBlanks_38 {x0 : Value} {h : AH} : Run M_X7_skipBlanks 38 [x0] [] h = some (h, none) := R_return d_X7_skipBlanks_38 rfl
theorem d_X7_here_0 : decode (mB M_X7_here) 0 = .ok (.aload_n 0, 1) := by decide +kernel
theorem r_X7_here_0 {a : Nat} {st : List Value} {h : AH} : Run M_X7_here 0 [.ref a] st h = Run M_X7_here 1 [.ref a] (.ref a :: st) h := R_aload_n d_X7_here_0 rfl
theorem d_X7_here_1 : decode (mB M_X7_here) 1 = .ok (.getfield 25, 3) := by decide +kernel
theorem r_X7_here_1 {x0 : Value} {a : Nat} {st : List Value} {h : AH} : Run M_X7_here 1 [x0] (.ref a :: st) h = if (gF h a 7 4).isSome = true then Run M_X7_here 4 [x0] ((gF h a 7 4).getD .null :: st) h else none := R_getfield d_X7_here_1 rfl
theorem d_X7_here_4 : decode (mB M_X7_here) 4 = .ok (.aload_n 0, 1) := by decide +kernel
theorem r_X7_here_4 {a : Nat} {st : List Value} {h : AH} : Run M_X7_here 4 [.ref a] st h = Run M_X7_here 5 [.ref a] (.ref a :: st) h := R_aload_n d_X7_here_4 rfl
theorem d_X7_here_5 : decode (mB M_X7_here) 5 = .ok (.getfield 19, 3) := by decide +kernel
theorem r_X7_here_5 {x0 : Value} {a : Nat} {st : List Value} {h : AH} : Run M_X7_here 5 [x0] (.ref a :: st) h = if (gF h a 7 1).isSome = true then Run M_X7_here 8 [x0] ((gF h a 7 1).getD .null :: st) h else none := R_getfield d_X7_here_5 rfl
theorem d_X7_here_8 : decode (mB M_X7_here) 8 = .ok (.if_icmp .ge 15, 3) := by decide +kernel
theorem r_X7_here_8 {x0 : Value} {x y : Int32} {st : List Value} {h : AH} : Run M_X7_here 8 [x0] (.int y :: .int x :: st) h = if y ≤ x then Run M_X7_here 23 [x0] st h else Run M_X7_here 11 [x0] st h := R_icmp_ge d_X7_here_8 (by decide)
theorem d_X7_here_11 : decode (mB M_X7_here) 11 = .ok (.aload_n 0, 1) := by decide +kernel
theorem r_X7_here_11 {a : Nat} {st : List Value} {h : AH} : Run M_X7_here 11 [.ref a] st h = Run M_X7_here 12 [.ref a] (.ref a :: st) h := R_aload_n d_X7_here_11 rfl
theorem d_X7_here_12 : decode (mB M_X7_here) 12 = .ok (.getfield 9, 3) := by decide +kernel
theorem r_X7_here_12 {x0 : Value} {a : Nat} {st : List Value} {h : AH} : Run M_X7_here 12 [x0] (.ref a :: st) h = if (gF h a 7 0).isSome = true then Run M_X7_here 15 [x0] ((gF h a 7 0).getD .null :: st) h else none := R_getfield d_X7_here_12 rfl
theorem d_X7_here_15 : decode (mB M_X7_here) 15 = .ok (.aload_n 0, 1) := by decide +kernel
theorem r_X7_here_15 {a : Nat} {st : List Value} {h : AH} : Run M_X7_here 15 [.ref a] st h = Run M_X7_here 16 [.ref a] (.ref a :: st) h := R_aload_n d_X7_here_15 rfl
theorem d_X7_here_16 : decode (mB M_X7_here) 16 = .ok (.getfield 25, 3) := by decide +kernel
theorem r_X7_here_16 {x0 : Value} {a : Nat} {st : List Value} {h : AH} : Run M_X7_here 16 [x0] (.ref a :: st) h = if (gF h a 7 4).isSome = true then Run M_X7_here 19 [x0] ((gF h a 7 4).getD .null :: st) h else none := R_getfield d_X7_here_16 rfl
theorem d_X7_here_19 : decode (mB M_X7_here) 19 = .ok (.iaload, 1) := by decide +kernel
theorem r_X7_here_19 {x0 : Value} {a : Nat} {i : Int32} {st : List Value} {h : AH} : Run M_X7_here 19 [x0] (.int i :: .ref a :: st) h = if (gI 0 h a i).isSome = true then Run M_X7_here 20 [x0] (.int ((gI 0 h a i).getD 0) :: st) h else none := R_iaload d_X7_here_19
theorem d_X7_here_20 : decode (mB M_X7_here) 20 = .ok (.goto 4, 3) := by decide +kernel
theorem r_X7_here_20 {x0 : Value} {st : List Value} {h : AH} : Run M_X7_here 20 [x0] st h = Run M_X7_here 24 [x0] st h := R_goto d_X7_here_20 (by decide)
theorem d_X7_here_23 : decode (mB M_X7_here) 23 = .ok (.iconst (-1), 1) := by decide +kernel
theorem r_X7_here_23 {x0 : Value} {st : List Value} {h : AH} : Run M_X7_here 23 [x0] st h = Run M_X7_here 24 [x0] (.int (-1) :: st) h := R_iconst d_X7_here_23 (by decide)
theorem d_X7_here_24 : decode (mB M_X7_here) 24 = .ok (.ireturn, 1) := by decide +kernel
theorem r_X7_here_24 {x0 : Value} {v : Int32} {h : AH} : Run M_X7_here 24 [x0] [.int v] h = some (h, some (.int v)) := R_ireturn d_X7_here_24 rfl rfl
theorem d_X7_fail_0 : decode (mB M_X7_fail) 0 = .ok (.aload_n 0, 1) := by decide +kernel
theorem r_X7_fail_0 {x1 x2 : Value} {a : Nat} {st : List Value} {h : AH} : Run M_X7_fail 0 [.ref a, x1, x2] st h = Run M_X7_fail 1 [.ref a, x1, x2] (.ref a :: st) h := R_aload_n d_X7_fail_0 rfl
theorem d_X7_fail_1 : decode (mB M_X7_fail) 1 = .ok (.getfield 22, 3) := by decide +kernel
theorem r_X7_fail_1 {x0 x1 x2 : Value} {a : Nat} {st : List Value} {h : AH} : Run M_X7_fail 1 [x0, x1, x2] (.ref a :: st) h = if (gF h a 7 3).isSome = true then Run M_X7_fail 4 [x0, x1, x2] ((gF h a 7 3).getD .null :: st) h else none := R_getfield d_X7_fail_1 rfl
theorem d_X7_fail_4 : decode (mB M_X7_fail) 4 = .ok (.ifCond .ne 13, 3) := by decide +kernel
theorem r_X7_fail_4 {x0 x1 x2 : Value} {x : Int32} {st : List Value} {h : AH} : Run M_X7_fail 4 [x0, x1, x2] (.int x :: st) h = if x = nI 0 then Run M_X7_fail 7 [x0, x1, x2] st h else Run M_X7_fail 17 [x0, x1, x2] st h := R_if_ne d_X7_fail_4 (by decide)
theorem d_X7_fail_7 : decode (mB M_X7_fail) 7 = .ok (.aload_n 0, 1) := by decide +kernel
theorem r_X7_fail_7 {x1 x2 : Value} {a : Nat} {st : List Value} {h : AH} : Run M_X7_fail 7 [.ref a, x1, x2] st h = Run M_X7_fail 8 [.ref a, x1, x2] (.ref a :: st) h := R_aload_n d_X7_fail_7 rfl
theorem d_X7_fail_8 : decode (mB M_X7_fail) 8 = .ok (.iload_n 1, 1) := by decide +kernel
theorem r_X7_fail_8 {x0 x2 : Value} {a : Int32} {st : List Value} {h : AH} : Run M_X7_fail 8 [x0, .int a, x2] st h = Run M_X7_fail 9 [x0, .int a, x2] (.int a :: st) h := R_iload_n d_X7_fail_8 rfl
theorem d_X7_fail_9 : decode (mB M_X7_fail) 9 = .ok (.putfield 22, 3) := by decide +kernel
theorem r_X7_fail_9 {x0 x1 x2 : Value} {v : Int32} {a : Nat} {st : List Value} {h : AH} : Run M_X7_fail 9 [x0, x1, x2] (.int v :: .ref a :: st) h = if (pF h a 7 3 (.int v)).isSome = true then Run M_X7_fail 12 [x0, x1, x2] st ((pF h a 7 3 (.int v)).getD h) else none := R_putfield d_X7_fail_9 rfl (okP_int rfl rfl)
theorem d_X7_fail_12 : decode (mB M_X7_fail) 12 = .ok (.aload_n 0, 1) := by decide +kernel
theorem r_X7_fail_12 {x1 x2 : Value} {a : Nat} {st : List Value} {h : AH} : Run M_X7_fail 12 [.ref a, x1, x2] st h = Run M_X7_fail 13 [.ref a, x1, x2] (.ref a :: st) h := R_aload_n d_X7_fail_12 rfl
theorem d_X7_fail_13 : decode (mB M_X7_fail) 13 = .ok (.iload_n 2, 1) := by decide +kernel
theorem r_X7_fail_13 {x0 x1 : Value} {a : Int32} {st : List Value} {h : AH} : Run M_X7_fail 13 [x0, x1, .int a] st h = Run M_X7_fail 14 [x0, x1, .int a] (.int a :: st) h := R_iload_n d_X7_fail_13 rfl
theorem d_X7_fail_14 : decode (mB M_X7_fail) 14 = .ok (.putfield 15, 3) := by decide +kernel
theorem r_X7_fail_14 {x0 x1 x2 : Value} {v : Int32} {a : Nat} {st : List Value} {h : AH} : Run M_X7_fail 14 [x0, x1, x2] (.int v :: .ref a :: st) h = if (pF h a 7 2 (.int v)).isSome = true then Run M_X7_fail 17 [x0, x1, x2] st ((pF h a 7 2 (.int v)).getD h) else none := R_putfield d_X7_fail_14 rfl (okP_int rfl rfl)
theorem d_X7_fail_17 : decode (mB M_X7_fail) 17 = .ok (.return_, 1) := by decide +kernel
theorem r_X7_fail_17 {x0 x1 x2 : Value} {h : AH} : Run M_X7_fail 17 [x0, x1, x2] [] h = some (h, none) := R_return d_X7_fail_17 rfl
