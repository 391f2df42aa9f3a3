/-! the equations of the run, an instruction each (program: wip/whole/gen_pcs.py) -/
theorem d_X0_init_0 : decode (mB M_X0_init) 0 = .ok (.aload_n 0, 1) := by decide +kernel
theorem r_X0_init_0 {a : Nat} {st : List Value} {h : AH} : Run M_X0_init 0 [.ref a] st h = Run M_X0_init 1 [.ref a] (.ref a :: st) h := R_aload_n d_X0_init_0 rfl
theorem d_X0_init_1 : decode (mB M_X0_init) 1 = .ok (.invokespecial 3, 3) := by decide +kernel
theorem r_X0_init_1 {x0 : Value} {a : Nat} {h : AH} : Run M_X0_init 1 [x0] (.ref a :: []) h = Run M_X0_init 4 [x0] [] h := R_obj d_X0_init_1 rfl rfl ⟨by decide, Nat.le_of_ble_eq_true rfl, by decide, by decide⟩
theorem d_X0_init_4 : decode (mB M_X0_init) 4 = .ok (.aload_n 0, 1) := by decide +kernel
theorem r_X0_init_4 {a : Nat} {st : List Value} {h : AH} : Run M_X0_init 4 [.ref a] st h = Run M_X0_init 5 [.ref a] (.ref a :: st) h := R_aload_n d_X0_init_4 rfl
theorem d_X0_init_5 : decode (mB M_X0_init) 5 = .ok (.iconst 5, 1) := by decide +kernel
theorem r_X0_init_5 {x0 : Value} {st : List Value} {h : AH} : Run M_X0_init 5 [x0] st h = Run M_X0_init 6 [x0] (.int (nI 5) :: st) h := R_iconst d_X0_init_5 (by decide)
theorem d_X0_init_6 : decode (mB M_X0_init) 6 = .ok (.newarray .int, 2) := by decide +kernel
theorem r_X0_init_6 {x0 : Value} {st : List Value} {h : AH} : Run M_X0_init 6 [x0] (.int (nI 5) :: st) h = Run M_X0_init 8 [x0] (.ref h.1 :: st) (hnew h 5 (iA 5 (fun _ => 0))) := R_newarray d_X0_init_6 rfl ⟨by decide, by decide⟩ (by decide) rfl
theorem d_X0_init_8 : decode (mB M_X0_init) 8 = .ok (.putfield 9, 3) := by decide +kernel
theorem r_X0_init_8 {x0 : Value} {v : Nat} {a : Nat} {st : List Value} {h : AH} : Run M_X0_init 8 [x0] (.ref v :: .ref a :: st) h = if (pF h a 0 5 (.ref v)).isSome = true then Run M_X0_init 11 [x0] st ((pF h a 0 5 (.ref v)).getD h) else none := R_putfield d_X0_init_8 rfl (okP_arr rfl (Or.inr ⟨rfl, rfl⟩))
theorem d_X0_init_11 : decode (mB M_X0_init) 11 = .ok (.aload_n 0, 1) := by decide +kernel
theorem r_X0_init_11 {a : Nat} {st : List Value} {h : AH} : Run M_X0_init 11 [.ref a] st h = Run M_X0_init 12 [.ref a] (.ref a :: st) h := R_aload_n d_X0_init_11 rfl
theorem d_X0_init_12 : decode (mB M_X0_init) 12 = .ok (.iconst 5, 1) := by decide +kernel
theorem r_X0_init_12 {x0 : Value} {st : List Value} {h : AH} : Run M_X0_init 12 [x0] st h = Run M_X0_init 13 [x0] (.int (nI 5) :: st) h := R_iconst d_X0_init_12 (by decide)
theorem d_X0_init_13 : decode (mB M_X0_init) 13 = .ok (.newarray .int, 2) := by decide +kernel
theorem r_X0_init_13 {x0 : Value} {st : List Value} {h : AH} : Run M_X0_init 13 [x0] (.int (nI 5) :: st) h = Run M_X0_init 15 [x0] (.ref h.1 :: st) (hnew h 5 (iA 5 (fun _ => 0))) := R_newarray d_X0_init_13 rfl ⟨by decide, by decide⟩ (by decide) rfl
theorem d_X0_init_15 : decode (mB M_X0_init) 15 = .ok (.putfield 15, 3) := by decide +kernel
theorem r_X0_init_15 {x0 : Value} {v : Nat} {a : Nat} {st : List Value} {h : AH} : Run M_X0_init 15 [x0] (.ref v :: .ref a :: st) h = if (pF h a 0 6 (.ref v)).isSome = true then Run M_X0_init 18 [x0] st ((pF h a 0 6 (.ref v)).getD h) else none := R_putfield d_X0_init_15 rfl (okP_arr rfl (Or.inr ⟨rfl, rfl⟩))
theorem d_X0_init_18 : decode (mB M_X0_init) 18 = .ok (.return_, 1) := by decide +kernel
theorem r_X0_init_18 {x0 : Value} {h : AH} : Run M_X0_init 18 [x0] [] h = some (h, none) := R_return d_X0_init_18 rfl
theorem d_X0_setUntold_0 : decode (mB M_X0_setUntold) 0 = .ok (.aload_n 0, 1) := by decide +kernel
theorem r_X0_setUntold_0 {a : Nat} {st : List Value} {h : AH} : Run M_X0_setUntold 0 [.ref a] st h = Run M_X0_setUntold 1 [.ref a] (.ref a :: st) h := R_aload_n d_X0_setUntold_0 rfl
theorem d_X0_setUntold_1 : decode (mB M_X0_setUntold) 1 = .ok (.iconst 3, 1) := by decide +kernel
theorem r_X0_setUntold_1 {x0 : Value} {st : List Value} {h : AH} : Run M_X0_setUntold 1 [x0] st h = Run M_X0_setUntold 2 [x0] (.int (nI 3) :: st) h := R_iconst d_X0_setUntold_1 (by decide)
theorem d_X0_setUntold_2 : decode (mB M_X0_setUntold) 2 = .ok (.iconst 2, 1) := by decide +kernel
theorem r_X0_setUntold_2 {x0 : Value} {st : List Value} {h : AH} : Run M_X0_setUntold 2 [x0] st h = Run M_X0_setUntold 3 [x0] (.int (nI 2) :: st) h := R_iconst d_X0_setUntold_2 (by decide)
theorem d_X0_setUntold_3 : decode (mB M_X0_setUntold) 3 = .ok (.iconst 1, 1) := by decide +kernel
theorem r_X0_setUntold_3 {x0 : Value} {st : List Value} {h : AH} : Run M_X0_setUntold 3 [x0] st h = Run M_X0_setUntold 4 [x0] (.int (nI 1) :: st) h := R_iconst d_X0_setUntold_3 (by decide)
theorem d_X0_setUntold_4 : decode (mB M_X0_setUntold) 4 = .ok (.invokevirtual 18, 3) := by decide +kernel
theorem r_X0_setUntold_4 {x0 : Value} {p0 : Int32} {p1 : Int32} {p2 : Int32} {a : Nat} {h : AH} : Run M_X0_setUntold 4 [x0] (.int p2 :: .int p1 :: .int p0 :: .ref a :: []) h = if refO h 0 (some (.ref a)) = true then (if (Call M_X0_setCosts h [.ref a, .int p0, .int p1, .int p2]).isSome = true then Run M_X0_setUntold 7 [x0] (rL (Call M_X0_setCosts h [.ref a, .int p0, .int p1, .int p2]) ++ []) (cH (Call M_X0_setCosts h [.ref a, .int p0, .int p1, .int p2])) else none) else none := R_virt d_X0_setUntold_4 rfl rfl rfl rfl rfl (Nat.le_of_ble_eq_true rfl)
theorem d_X0_setUntold_7 : decode (mB M_X0_setUntold) 7 = .ok (.aload_n 0, 1) := by decide +kernel
theorem r_X0_setUntold_7 {a : Nat} {st : List Value} {h : AH} : Run M_X0_setUntold 7 [.ref a] st h = Run M_X0_setUntold 8 [.ref a] (.ref a :: st) h := R_aload_n d_X0_setUntold_7 rfl
theorem d_X0_setUntold_8 : decode (mB M_X0_setUntold) 8 = .ok (.bipush 8, 2) := by decide +kernel
theorem r_X0_setUntold_8 {x0 : Value} {st : List Value} {h : AH} : Run M_X0_setUntold 8 [x0] st h = Run M_X0_setUntold 10 [x0] (.int (nI 8) :: st) h := R_bipush d_X0_setUntold_8 (by decide)
theorem d_X0_setUntold_10 : decode (mB M_X0_setUntold) 10 = .ok (.iconst 0, 1) := by decide +kernel
theorem r_X0_setUntold_10 {x0 : Value} {st : List Value} {h : AH} : Run M_X0_setUntold 10 [x0] st h = Run M_X0_setUntold 11 [x0] (.int (nI 0) :: st) h := R_iconst d_X0_setUntold_10 (by decide)
theorem d_X0_setUntold_11 : decode (mB M_X0_setUntold) 11 = .ok (.invokevirtual 22, 3) := by decide +kernel
theorem r_X0_setUntold_11 {x0 : Value} {p0 : Int32} {p1 : Int32} {a : Nat} {h : AH} : Run M_X0_setUntold 11 [x0] (.int p1 :: .int p0 :: .ref a :: []) h = if refO h 0 (some (.ref a)) = true then (if (Call M_X0_setSign h [.ref a, .int p0, .int p1]).isSome = true then Run M_X0_setUntold 14 [x0] (rL (Call M_X0_setSign h [.ref a, .int p0, .int p1]) ++ []) (cH (Call M_X0_setSign h [.ref a, .int p0, .int p1])) else none) else none := R_virt d_X0_setUntold_11 rfl rfl rfl rfl rfl (Nat.le_of_ble_eq_true rfl)
theorem d_X0_setUntold_14 : decode (mB M_X0_setUntold) 14 = .ok (.aload_n 0, 1) := by decide +kernel
theorem r_X0_setUntold_14 {a : Nat} {st : List Value} {h : AH} : Run M_X0_setUntold 14 [.ref a] st h = Run M_X0_setUntold 15 [.ref a] (.ref a :: st) h := R_aload_n d_X0_setUntold_14 rfl
theorem d_X0_setUntold_15 : decode (mB M_X0_setUntold) 15 = .ok (.iconst 0, 1) := by decide +kernel
theorem r_X0_setUntold_15 {x0 : Value} {st : List Value} {h : AH} : Run M_X0_setUntold 15 [x0] st h = Run M_X0_setUntold 16 [x0] (.int (nI 0) :: st) h := R_iconst d_X0_setUntold_15 (by decide)
theorem d_X0_setUntold_16 : decode (mB M_X0_setUntold) 16 = .ok (.putfield 26, 3) := by decide +kernel
theorem r_X0_setUntold_16 {x0 : Value} {v : Int32} {a : Nat} {st : List Value} {h : AH} : Run M_X0_setUntold 16 [x0] (.int v :: .ref a :: st) h = if (pF h a 0 7 (.int v)).isSome = true then Run M_X0_setUntold 19 [x0] st ((pF h a 0 7 (.int v)).getD h) else none := R_putfield d_X0_setUntold_16 rfl (okP_int rfl rfl)
theorem d_X0_setUntold_19 : decode (mB M_X0_setUntold) 19 = .ok (.aload_n 0, 1) := by decide +kernel
theorem r_X0_setUntold_19 {a : Nat} {st : List Value} {h : AH} : Run M_X0_setUntold 19 [.ref a] st h = Run M_X0_setUntold 20 [.ref a] (.ref a :: st) h := R_aload_n d_X0_setUntold_19 rfl
theorem d_X0_setUntold_20 : decode (mB M_X0_setUntold) 20 = .ok (.iconst 0, 1) := by decide +kernel
theorem r_X0_setUntold_20 {x0 : Value} {st : List Value} {h : AH} : Run M_X0_setUntold 20 [x0] st h = Run M_X0_setUntold 21 [x0] (.int (nI 0) :: st) h := R_iconst d_X0_setUntold_20 (by decide)
theorem d_X0_setUntold_21 : decode (mB M_X0_setUntold) 21 = .ok (.putfield 30, 3) := by decide +kernel
theorem r_X0_setUntold_21 {x0 : Value} {v : Int32} {a : Nat} {st : List Value} {h : AH} : Run M_X0_setUntold 21 [x0] (.int v :: .ref a :: st) h = if (pF h a 0 8 (.int v)).isSome = true then Run M_X0_setUntold 24 [x0] st ((pF h a 0 8 (.int v)).getD h) else none := R_putfield d_X0_setUntold_21 rfl (okP_int rfl rfl)
theorem d_X0_setUntold_24 : decode (mB M_X0_setUntold) 24 = .ok (.aload_n 0, 1) := by decide +kernel
theorem r_X0_setUntold_24 {a : Nat} {st : List Value} {h : AH} : Run M_X0_setUntold 24 [.ref a] st h = Run M_X0_setUntold 25 [.ref a] (.ref a :: st) h := R_aload_n d_X0_setUntold_24 rfl
theorem d_X0_setUntold_25 : decode (mB M_X0_setUntold) 25 = .ok (.iconst 0, 1) := by decide +kernel
theorem r_X0_setUntold_25 {x0 : Value} {st : List Value} {h : AH} : Run M_X0_setUntold 25 [x0] st h = Run M_X0_setUntold 26 [x0] (.int (nI 0) :: st) h := R_iconst d_X0_setUntold_25 (by decide)
theorem d_X0_setUntold_26 : decode (mB M_X0_setUntold) 26 = .ok (.putfield 33, 3) := by decide +kernel
theorem r_X0_setUntold_26 {x0 : Value} {v : Int32} {a : Nat} {st : List Value} {h : AH} : Run M_X0_setUntold 26 [x0] (.int v :: .ref a :: st) h = if (pF h a 0 9 (.int v)).isSome = true then Run M_X0_setUntold 29 [x0] st ((pF h a 0 9 (.int v)).getD h) else none := R_putfield d_X0_setUntold_26 rfl (okP_int rfl rfl)
theorem d_X0_setUntold_29 : decode (mB M_X0_setUntold) 29 = .ok (.return_, 1) := by decide +kernel
theorem r_X0_setUntold_29 {x0 : Value} {h : AH} : Run M_X0_setUntold 29 [x0] [] h = some (h, none) := R_return d_X0_setUntold_29 rfl
theorem d_X0_setCosts_0 : decode (mB M_X0_setCosts) 0 = .ok (.aload_n 0, 1) := by decide +kernel
theorem r_X0_setCosts_0 {x1 x2 x3 : Value} {a : Nat} {st : List Value} {h : AH} : Run M_X0_setCosts 0 [.ref a, x1, x2, x3] st h = Run M_X0_setCosts 1 [.ref a, x1, x2, x3] (.ref a :: st) h := R_aload_n d_X0_setCosts_0 rfl
theorem d_X0_setCosts_1 : decode (mB M_X0_setCosts) 1 = .ok (.iload_n 1, 1) := by decide +kernel
theorem r_X0_setCosts_1 {x0 x2 x3 : Value} {a : Int32} {st : List Value} {h : AH} : Run M_X0_setCosts 1 [x0, .int a, x2, x3] st h = Run M_X0_setCosts 2 [x0, .int a, x2, x3] (.int a :: st) h := R_iload_n d_X0_setCosts_1 rfl
theorem d_X0_setCosts_2 : decode (mB M_X0_setCosts) 2 = .ok (.putfield 36, 3) := by decide +kernel
theorem r_X0_setCosts_2 {x0 x1 x2 x3 : Value} {v : Int32} {a : Nat} {st : List Value} {h : AH} : Run M_X0_setCosts 2 [x0, x1, x2, x3] (.int v :: .ref a :: st) h = if (pF h a 0 0 (.int v)).isSome = true then Run M_X0_setCosts 5 [x0, x1, x2, x3] st ((pF h a 0 0 (.int v)).getD h) else none := R_putfield d_X0_setCosts_2 rfl (okP_int rfl rfl)
theorem d_X0_setCosts_5 : decode (mB M_X0_setCosts) 5 = .ok (.aload_n 0, 1) := by decide +kernel
theorem r_X0_setCosts_5 {x1 x2 x3 : Value} {a : Nat} {st : List Value} {h : AH} : Run M_X0_setCosts 5 [.ref a, x1, x2, x3] st h = Run M_X0_setCosts 6 [.ref a, x1, x2, x3] (.ref a :: st) h := R_aload_n d_X0_setCosts_5 rfl
theorem d_X0_setCosts_6 : decode (mB M_X0_setCosts) 6 = .ok (.iload_n 2, 1) := by decide +kernel
theorem r_X0_setCosts_6 {x0 x1 x3 : Value} {a : Int32} {st : List Value} {h : AH} : Run M_X0_setCosts 6 [x0, x1, .int a, x3] st h = Run M_X0_setCosts 7 [x0, x1, .int a, x3] (.int a :: st) h := R_iload_n d_X0_setCosts_6 rfl
theorem d_X0_setCosts_7 : decode (mB M_X0_setCosts) 7 = .ok (.putfield 39, 3) := by decide +kernel
theorem r_X0_setCosts_7 {x0 x1 x2 x3 : Value} {v : Int32} {a : Nat} {st : List Value} {h : AH} : Run M_X0_setCosts 7 [x0, x1, x2, x3] (.int v :: .ref a :: st) h = if (pF h a 0 1 (.int v)).isSome = true then Run M_X0_setCosts 10 [x0, x1, x2, x3] st ((pF h a 0 1 (.int v)).getD h) else none := R_putfield d_X0_setCosts_7 rfl (okP_int rfl rfl)
theorem d_X0_setCosts_10 : decode (mB M_X0_setCosts) 10 = .ok (.aload_n 0, 1) := by decide +kernel
theorem r_X0_setCosts_10 {x1 x2 x3 : Value} {a : Nat} {st : List Value} {h : AH} : Run M_X0_setCosts 10 [.ref a, x1, x2, x3] st h = Run M_X0_setCosts 11 [.ref a, x1, x2, x3] (.ref a :: st) h := R_aload_n d_X0_setCosts_10 rfl
theorem d_X0_setCosts_11 : decode (mB M_X0_setCosts) 11 = .ok (.iload_n 3, 1) := by decide +kernel
theorem r_X0_setCosts_11 {x0 x1 x2 : Value} {a : Int32} {st : List Value} {h : AH} : Run M_X0_setCosts 11 [x0, x1, x2, .int a] st h = Run M_X0_setCosts 12 [x0, x1, x2, .int a] (.int a :: st) h := R_iload_n d_X0_setCosts_11 rfl
theorem d_X0_setCosts_12 : decode (mB M_X0_setCosts) 12 = .ok (.putfield 42, 3) := by decide +kernel
theorem r_X0_setCosts_12 {x0 x1 x2 x3 : Value} {v : Int32} {a : Nat} {st : List Value} {h : AH} : Run M_X0_setCosts 12 [x0, x1, x2, x3] (.int v :: .ref a :: st) h = if (pF h a 0 2 (.int v)).isSome = true then Run M_X0_setCosts 15 [x0, x1, x2, x3] st ((pF h a 0 2 (.int v)).getD h) else none := R_putfield d_X0_setCosts_12 rfl (okP_int rfl rfl)
theorem d_X0_setCosts_15 : decode (mB M_X0_setCosts) 15 = .ok (.return_, 1) := by decide +kernel
theorem r_X0_setCosts_15 {x0 x1 x2 x3 : Value} {h : AH} : Run M_X0_setCosts 15 [x0, x1, x2, x3] [] h = some (h, none) := R_return d_X0_setCosts_15 rfl
theorem d_X0_setSign_0 : decode (mB M_X0_setSign) 0 = .ok (.aload_n 0, 1) := by decide +kernel
theorem r_X0_setSign_0 {x1 x2 : Value} {a : Nat} {st : List Value} {h : AH} : Run M_X0_setSign 0 [.ref a, x1, x2] st h = Run M_X0_setSign 1 [.ref a, x1, x2] (.ref a :: st) h := R_aload_n d_X0_setSign_0 rfl
theorem d_X0_setSign_1 : decode (mB M_X0_setSign) 1 = .ok (.iload_n 1, 1) := by decide +kernel
theorem r_X0_setSign_1 {x0 x2 : Value} {a : Int32} {st : List Value} {h : AH} : Run M_X0_setSign 1 [x0, .int a, x2] st h = Run M_X0_setSign 2 [x0, .int a, x2] (.int a :: st) h := R_iload_n d_X0_setSign_1 rfl
theorem d_X0_setSign_2 : decode (mB M_X0_setSign) 2 = .ok (.putfield 45, 3) := by decide +kernel
theorem r_X0_setSign_2 {x0 x1 x2 : Value} {v : Int32} {a : Nat} {st : List Value} {h : AH} : Run M_X0_setSign 2 [x0, x1, x2] (.int v :: .ref a :: st) h = if (pF h a 0 3 (.int v)).isSome = true then Run M_X0_setSign 5 [x0, x1, x2] st ((pF h a 0 3 (.int v)).getD h) else none := R_putfield d_X0_setSign_2 rfl (okP_int rfl rfl)
theorem d_X0_setSign_5 : decode (mB M_X0_setSign) 5 = .ok (.aload_n 0, 1) := by decide +kernel
theorem r_X0_setSign_5 {x1 x2 : Value} {a : Nat} {st : List Value} {h : AH} : Run M_X0_setSign 5 [.ref a, x1, x2] st h = Run M_X0_setSign 6 [.ref a, x1, x2] (.ref a :: st) h := R_aload_n d_X0_setSign_5 rfl
theorem d_X0_setSign_6 : decode (mB M_X0_setSign) 6 = .ok (.iload_n 2, 1) := by decide +kernel
theorem r_X0_setSign_6 {x0 x1 : Value} {a : Int32} {st : List Value} {h : AH} : Run M_X0_setSign 6 [x0, x1, .int a] st h = Run M_X0_setSign 7 [x0, x1, .int a] (.int a :: st) h := R_iload_n d_X0_setSign_6 rfl
theorem d_X0_setSign_7 : decode (mB M_X0_setSign) 7 = .ok (.putfield 48, 3) := by decide +kernel
theorem r_X0_setSign_7 {x0 x1 x2 : Value} {v : Int32} {a : Nat} {st : List Value} {h : AH} : Run M_X0_setSign 7 [x0, x1, x2] (.int v :: .ref a :: st) h = if (pF h a 0 4 (.int v)).isSome = true then Run M_X0_setSign 10 [x0, x1, x2] st ((pF h a 0 4 (.int v)).getD h) else none := R_putfield d_X0_setSign_7 rfl (okP_int rfl rfl)
theorem d_X0_setSign_10 : decode (mB M_X0_setSign) 10 = .ok (.return_, 1) := by decide +kernel
theorem r_X0_setSign_10 {x0 x1 x2 : Value} {h : AH} : Run M_X0_setSign 10 [x0, x1, x2] [] h = some (h, none) := R_return d_X0_setSign_10 rfl
theorem d_X0_copyFrom_0 : decode (mB M_X0_copyFrom) 0 = .ok (.aload_n 0, 1) := by decide +kernel
theorem r_X0_copyFrom_0 {x1 x2 : Value} {a : Nat} {st : List Value} {h : AH} : Run M_X0_copyFrom 0 [.ref a, x1, x2] st h = Run M_X0_copyFrom 1 [.ref a, x1, x2] (.ref a :: st) h := R_aload_n d_X0_copyFrom_0 rfl
theorem d_X0_copyFrom_1 : decode (mB M_X0_copyFrom) 1 = .ok (.aload_n 1, 1) := by decide +kernel
theorem r_X0_copyFrom_1 {x0 x2 : Value} {a : Nat} {st : List Value} {h : AH} : Run M_X0_copyFrom 1 [x0, .ref a, x2] st h = Run M_X0_copyFrom 2 [x0, .ref a, x2] (.ref a :: st) h := R_aload_n d_X0_copyFrom_1 rfl
theorem d_X0_copyFrom_2 : decode (mB M_X0_copyFrom) 2 = .ok (.getfield 36, 3) := by decide +kernel
theorem r_X0_copyFrom_2 {x0 x1 x2 : Value} {a : Nat} {st : List Value} {h : AH} : Run M_X0_copyFrom 2 [x0, x1, x2] (.ref a :: st) h = if (gF h a 0 0).isSome = true then Run M_X0_copyFrom 5 [x0, x1, x2] ((gF h a 0 0).getD .null :: st) h else none := R_getfield d_X0_copyFrom_2 rfl
theorem d_X0_copyFrom_5 : decode (mB M_X0_copyFrom) 5 = .ok (.aload_n 1, 1) := by decide +kernel
theorem r_X0_copyFrom_5 {x0 x2 : Value} {a : Nat} {st : List Value} {h : AH} : Run M_X0_copyFrom 5 [x0, .ref a, x2] st h = Run M_X0_copyFrom 6 [x0, .ref a, x2] (.ref a :: st) h := R_aload_n d_X0_copyFrom_5 rfl
theorem d_X0_copyFrom_6 : decode (mB M_X0_copyFrom) 6 = .ok (.getfield 39, 3) := by decide +kernel
theorem r_X0_copyFrom_6 {x0 x1 x2 : Value} {a : Nat} {st : List Value} {h : AH} : Run M_X0_copyFrom 6 [x0, x1, x2] (.ref a :: st) h = if (gF h a 0 1).isSome = true then Run M_X0_copyFrom 9 [x0, x1, x2] ((gF h a 0 1).getD .null :: st) h else none := R_getfield d_X0_copyFrom_6 rfl
theorem d_X0_copyFrom_9 : decode (mB M_X0_copyFrom) 9 = .ok (.aload_n 1, 1) := by decide +kernel
theorem r_X0_copyFrom_9 {x0 x2 : Value} {a : Nat} {st : List Value} {h : AH} : Run M_X0_copyFrom 9 [x0, .ref a, x2] st h = Run M_X0_copyFrom 10 [x0, .ref a, x2] (.ref a :: st) h := R_aload_n d_X0_copyFrom_9 rfl
theorem d_X0_copyFrom_10 : decode (mB M_X0_copyFrom) 10 = .ok (.getfield 42, 3) := by decide +kernel
theorem r_X0_copyFrom_10 {x0 x1 x2 : Value} {a : Nat} {st : List Value} {h : AH} : Run M_X0_copyFrom 10 [x0, x1, x2] (.ref a :: st) h = if (gF h a 0 2).isSome = true then Run M_X0_copyFrom 13 [x0, x1, x2] ((gF h a 0 2).getD .null :: st) h else none := R_getfield d_X0_copyFrom_10 rfl
theorem d_X0_copyFrom_13 : decode (mB M_X0_copyFrom) 13 = .ok (.invokevirtual 18, 3) := by decide +kernel
theorem r_X0_copyFrom_13 {x0 x1 x2 : Value} {p0 : Int32} {p1 : Int32} {p2 : Int32} {a : Nat} {h : AH} : Run M_X0_copyFrom 13 [x0, x1, x2] (.int p2 :: .int p1 :: .int p0 :: .ref a :: []) h = if refO h 0 (some (.ref a)) = true then (if (Call M_X0_setCosts h [.ref a, .int p0, .int p1, .int p2]).isSome = true then Run M_X0_copyFrom 16 [x0, x1, x2] (rL (Call M_X0_setCosts h [.ref a, .int p0, .int p1, .int p2]) ++ []) (cH (Call M_X0_setCosts h [.ref a, .int p0, .int p1, .int p2])) else none) else none := R_virt d_X0_copyFrom_13 rfl rfl rfl rfl rfl (Nat.le_of_ble_eq_true rfl)
theorem d_X0_copyFrom_16 : decode (mB M_X0_copyFrom) 16 = .ok (.aload_n 0, 1) := by decide +kernel
theorem r_X0_copyFrom_16 {x1 x2 : Value} {a : Nat} {st : List Value} {h : AH} : Run M_X0_copyFrom 16 [.ref a, x1, x2] st h = Run M_X0_copyFrom 17 [.ref a, x1, x2] (.ref a :: st) h := R_aload_n d_X0_copyFrom_16 rfl
theorem d_X0_copyFrom_17 : decode (mB M_X0_copyFrom) 17 = .ok (.aload_n 1, 1) := by decide +kernel
theorem r_X0_copyFrom_17 {x0 x2 : Value} {a : Nat} {st : List Value} {h : AH} : Run M_X0_copyFrom 17 [x0, .ref a, x2] st h = Run M_X0_copyFrom 18 [x0, .ref a, x2] (.ref a :: st) h := R_aload_n d_X0_copyFrom_17 rfl
theorem d_X0_copyFrom_18 : decode (mB M_X0_copyFrom) 18 = .ok (.getfield 45, 3) := by decide +kernel
theorem r_X0_copyFrom_18 {x0 x1 x2 : Value} {a : Nat} {st : List Value} {h : AH} : Run M_X0_copyFrom 18 [x0, x1, x2] (.ref a :: st) h = if (gF h a 0 3).isSome = true then Run M_X0_copyFrom 21 [x0, x1, x2] ((gF h a 0 3).getD .null :: st) h else none := R_getfield d_X0_copyFrom_18 rfl
theorem d_X0_copyFrom_21 : decode (mB M_X0_copyFrom) 21 = .ok (.aload_n 1, 1) := by decide +kernel
theorem r_X0_copyFrom_21 {x0 x2 : Value} {a : Nat} {st : List Value} {h : AH} : Run M_X0_copyFrom 21 [x0, .ref a, x2] st h = Run M_X0_copyFrom 22 [x0, .ref a, x2] (.ref a :: st) h := R_aload_n d_X0_copyFrom_21 rfl
theorem d_X0_copyFrom_22 : decode (mB M_X0_copyFrom) 22 = .ok (.getfield 48, 3) := by decide +kernel
theorem r_X0_copyFrom_22 {x0 x1 x2 : Value} {a : Nat} {st : List Value} {h : AH} : Run M_X0_copyFrom 22 [x0, x1, x2] (.ref a :: st) h = if (gF h a 0 4).isSome = true then Run M_X0_copyFrom 25 [x0, x1, x2] ((gF h a 0 4).getD .null :: st) h else none := R_getfield d_X0_copyFrom_22 rfl
theorem d_X0_copyFrom_25 : decode (mB M_X0_copyFrom) 25 = .ok (.invokevirtual 22, 3) := by decide +kernel
theorem r_X0_copyFrom_25 {x0 x1 x2 : Value} {p0 : Int32} {p1 : Int32} {a : Nat} {h : AH} : Run M_X0_copyFrom 25 [x0, x1, x2] (.int p1 :: .int p0 :: .ref a :: []) h = if refO h 0 (some (.ref a)) = true then (if (Call M_X0_setSign h [.ref a, .int p0, .int p1]).isSome = true then Run M_X0_copyFrom 28 [x0, x1, x2] (rL (Call M_X0_setSign h [.ref a, .int p0, .int p1]) ++ []) (cH (Call M_X0_setSign h [.ref a, .int p0, .int p1])) else none) else none := R_virt d_X0_copyFrom_25 rfl rfl rfl rfl rfl (Nat.le_of_ble_eq_true rfl)
theorem d_X0_copyFrom_28 : decode (mB M_X0_copyFrom) 28 = .ok (.iconst 0, 1) := by decide +kernel
theorem r_X0_copyFrom_28 {x0 x1 x2 : Value} {st : List Value} {h : AH} : Run M_X0_copyFrom 28 [x0, x1, x2] st h = Run M_X0_copyFrom 29 [x0, x1, x2] (.int (nI 0) :: st) h := R_iconst d_X0_copyFrom_28 (by decide)
theorem d_X0_copyFrom_29 : decode (mB M_X0_copyFrom) 29 = .ok (.istore_n 2, 1) := by decide +kernel
theorem r_X0_copyFrom_29 {x0 x1 x2 : Value} {a : Int32} {st : List Value} {h : AH} (hc : x1.category = 1) : Run M_X0_copyFrom 29 [x0, x1, x2] (.int a :: st) h = Run M_X0_copyFrom 30 [x0, x1, .int a] st h := R_istore_n d_X0_copyFrom_29 (Nat.lt_of_lt_of_le (by decide : 2 < 3) (Nat.le_refl 3)) (catP_of rfl hc)
theorem d_X0_copyFrom_30 : decode (mB M_X0_copyFrom) 30 = .ok (.iload_n 2, 1) := by decide +kernel
theorem r_X0_copyFrom_30 {x0 x1 : Value} {a : Int32} {st : List Value} {h : AH} : Run M_X0_copyFrom 30 [x0, x1, .int a] st h = Run M_X0_copyFrom 31 [x0, x1, .int a] (.int a :: st) h := R_iload_n d_X0_copyFrom_30 rfl
theorem d_X0_copyFrom_31 : decode (mB M_X0_copyFrom) 31 = .ok (.iconst 5, 1) := by decide +kernel
theorem r_X0_copyFrom_31 {x0 x1 x2 : Value} {st : List Value} {h : AH} : Run M_X0_copyFrom 31 [x0, x1, x2] st h = Run M_X0_copyFrom 32 [x0, x1, x2] (.int (nI 5) :: st) h := R_iconst d_X0_copyFrom_31 (by decide)
theorem d_X0_copyFrom_32 : decode (mB M_X0_copyFrom) 32 = .ok (.if_icmp .ge 33, 3) := by decide +kernel
theorem r_X0_copyFrom_32 {x0 x1 x2 : Value} {x y : Int32} {st : List Value} {h : AH} : Run M_X0_copyFrom 32 [x0, x1, x2] (.int y :: .int x :: st) h = if y ≤ x then Run M_X0_copyFrom 65 [x0, x1, x2] st h else Run M_X0_copyFrom 35 [x0, x1, x2] st h := R_icmp_ge d_X0_copyFrom_32 (by decide)
theorem d_X0_copyFrom_35 : decode (mB M_X0_copyFrom) 35 = .ok (.aload_n 0, 1) := by decide +kernel
theorem r_X0_copyFrom_35 {x1 x2 : Value} {a : Nat} {st : List Value} {h : AH} : Run M_X0_copyFrom 35 [.ref a, x1, x2] st h = Run M_X0_copyFrom 36 [.ref a, x1, x2] (.ref a :: st) h := R_aload_n d_X0_copyFrom_35 rfl
theorem d_X0_copyFrom_36 : decode (mB M_X0_copyFrom) 36 = .ok (.getfield 9, 3) := by decide +kernel
theorem r_X0_copyFrom_36 {x0 x1 x2 : Value} {a : Nat} {st : List Value} {h : AH} : Run M_X0_copyFrom 36 [x0, x1, x2] (.ref a :: st) h = if (gF h a 0 5).isSome = true then Run M_X0_copyFrom 39 [x0, x1, x2] ((gF h a 0 5).getD .null :: st) h else none := R_getfield d_X0_copyFrom_36 rfl
theorem d_X0_copyFrom_39 : decode (mB M_X0_copyFrom) 39 = .ok (.iload_n 2, 1) := by decide +kernel
theorem r_X0_copyFrom_39 {x0 x1 : Value} {a : Int32} {st : List Value} {h : AH} : Run M_X0_copyFrom 39 [x0, x1, .int a] st h = Run M_X0_copyFrom 40 [x0, x1, .int a] (.int a :: st) h := R_iload_n d_X0_copyFrom_39 rfl
theorem d_X0_copyFrom_40 : decode (mB M_X0_copyFrom) 40 = .ok (.aload_n 1, 1) := by decide +kernel
theorem r_X0_copyFrom_40 {x0 x2 : Value} {a : Nat} {st : List Value} {h : AH} : Run M_X0_copyFrom 40 [x0, .ref a, x2] st h = Run M_X0_copyFrom 41 [x0, .ref a, x2] (.ref a :: st) h := R_aload_n d_X0_copyFrom_40 rfl
theorem d_X0_copyFrom_41 : decode (mB M_X0_copyFrom) 41 = .ok (.getfield 9, 3) := by decide +kernel
theorem r_X0_copyFrom_41 {x0 x1 x2 : Value} {a : Nat} {st : List Value} {h : AH} : Run M_X0_copyFrom 41 [x0, x1, x2] (.ref a :: st) h = if (gF h a 0 5).isSome = true then Run M_X0_copyFrom 44 [x0, x1, x2] ((gF h a 0 5).getD .null :: st) h else none := R_getfield d_X0_copyFrom_41 rfl
theorem d_X0_copyFrom_44 : decode (mB M_X0_copyFrom) 44 = .ok (.iload_n 2, 1) := by decide +kernel
theorem r_X0_copyFrom_44 {x0 x1 : Value} {a : Int32} {st : List Value} {h : AH} : Run M_X0_copyFrom 44 [x0, x1, .int a] st h = Run M_X0_copyFrom 45 [x0, x1, .int a] (.int a :: st) h := R_iload_n d_X0_copyFrom_44 rfl
theorem d_X0_copyFrom_45 : decode (mB M_X0_copyFrom) 45 = .ok (.iaload, 1) := by decide +kernel
theorem r_X0_copyFrom_45 {x0 x1 x2 : Value} {a : Nat} {i : Int32} {st : List Value} {h : AH} : Run M_X0_copyFrom 45 [x0, x1, x2] (.int i :: .ref a :: st) h = if (gI 0 h a i).isSome = true then Run M_X0_copyFrom 46 [x0, x1, x2] (.int ((gI 0 h a i).getD 0) :: st) h else none := R_iaload d_X0_copyFrom_45
theorem d_X0_copyFrom_46 : decode (mB M_X0_copyFrom) 46 = .ok (.iastore, 1) := by decide +kernel
theorem r_X0_copyFrom_46 {x0 x1 x2 : Value} {a : Nat} {i x : Int32} {st : List Value} {h : AH} : Run M_X0_copyFrom 46 [x0, x1, x2] (.int x :: .int i :: .ref a :: st) h = if (pI 0 h a i x).isSome = true then Run M_X0_copyFrom 47 [x0, x1, x2] st ((pI 0 h a i x).getD h) else none := R_iastore d_X0_copyFrom_46
theorem d_X0_copyFrom_47 : decode (mB M_X0_copyFrom) 47 = .ok (.aload_n 0, 1) := by decide +kernel
theorem r_X0_copyFrom_47 {x1 x2 : Value} {a : Nat} {st : List Value} {h : AH} : Run M_X0_copyFrom 47 [.ref a, x1, x2] st h = Run M_X0_copyFrom 48 [.ref a, x1, x2] (.ref a :: st) h := R_aload_n d_X0_copyFrom_47 rfl
theorem d_X0_copyFrom_48 : decode (mB M_X0_copyFrom) 48 = .ok (.getfield 15, 3) := by decide +kernel
theorem r_X0_copyFrom_48 {x0 x1 x2 : Value} {a : Nat} {st : List Value} {h : AH} : Run M_X0_copyFrom 48 [x0, x1, x2] (.ref a :: st) h = if (gF h a 0 6).isSome = true then Run M_X0_copyFrom 51 [x0, x1, x2] ((gF h a 0 6).getD .null :: st) h else none := R_getfield d_X0_copyFrom_48 rfl
theorem d_X0_copyFrom_51 : decode (mB M_X0_copyFrom) 51 = .ok (.iload_n 2, 1) := by decide +kernel
theorem r_X0_copyFrom_51 {x0 x1 : Value} {a : Int32} {st : List Value} {h : AH} : Run M_X0_copyFrom 51 [x0, x1, .int a] st h = Run M_X0_copyFrom 52 [x0, x1, .int a] (.int a :: st) h := R_iload_n d_X0_copyFrom_51 rfl
theorem d_X0_copyFrom_52 : decode (mB M_X0_copyFrom) 52 = .ok (.aload_n 1, 1) := by decide +kernel
theorem r_X0_copyFrom_52 {x0 x2 : Value} {a : Nat} {st : List Value} {h : AH} : Run M_X0_copyFrom 52 [x0, .ref a, x2] st h = Run M_X0_copyFrom 53 [x0, .ref a, x2] (.ref a :: st) h := R_aload_n d_X0_copyFrom_52 rfl
theorem d_X0_copyFrom_53 : decode (mB M_X0_copyFrom) 53 = .ok (.getfield 15, 3) := by decide +kernel
theorem r_X0_copyFrom_53 {x0 x1 x2 : Value} {a : Nat} {st : List Value} {h : AH} : Run M_X0_copyFrom 53 [x0, x1, x2] (.ref a :: st) h = if (gF h a 0 6).isSome = true then Run M_X0_copyFrom 56 [x0, x1, x2] ((gF h a 0 6).getD .null :: st) h else none := R_getfield d_X0_copyFrom_53 rfl
theorem d_X0_copyFrom_56 : decode (mB M_X0_copyFrom) 56 = .ok (.iload_n 2, 1) := by decide +kernel
theorem r_X0_copyFrom_56 {x0 x1 : Value} {a : Int32} {st : List Value} {h : AH} : Run M_X0_copyFrom 56 [x0, x1, .int a] st h = Run M_X0_copyFrom 57 [x0, x1, .int a] (.int a :: st) h := R_iload_n d_X0_copyFrom_56 rfl
theorem d_X0_copyFrom_57 : decode (mB M_X0_copyFrom) 57 = .ok (.iaload, 1) := by decide +kernel
theorem r_X0_copyFrom_57 {x0 x1 x2 : Value} {a : Nat} {i : Int32} {st : List Value} {h : AH} : Run M_X0_copyFrom 57 [x0, x1, x2] (.int i :: .ref a :: st) h = if (gI 0 h a i).isSome = true then Run M_X0_copyFrom 58 [x0, x1, x2] (.int ((gI 0 h a i).getD 0) :: st) h else none := R_iaload d_X0_copyFrom_57
theorem d_X0_copyFrom_58 : decode (mB M_X0_copyFrom) 58 = .ok (.iastore, 1) := by decide +kernel
theorem r_X0_copyFrom_58 {x0 x1 x2 : Value} {a : Nat} {i x : Int32} {st : List Value} {h : AH} : Run M_X0_copyFrom 58 [x0, x1, x2] (.int x :: .int i :: .ref a :: st) h = if (pI 0 h a i x).isSome = true then Run M_X0_copyFrom 59 [x0, x1, x2] st ((pI 0 h a i x).getD h) else none := R_iastore d_X0_copyFrom_58
theorem d_X0_copyFrom_59 : decode (mB M_X0_copyFrom) 59 = .ok (.iinc 2 1, 3) := by decide +kernel
theorem r_X0_copyFrom_59 {x0 x1 : Value} {a : Int32} {st : List Value} {h : AH} (hc : x1.category = 1) : Run M_X0_copyFrom 59 [x0, x1, .int a] st h = Run M_X0_copyFrom 62 [x0, x1, .int (a + (nI 1))] st h := R_iinc d_X0_copyFrom_59 (by decide) rfl (catP_of rfl hc)
theorem d_X0_copyFrom_62 : decode (mB M_X0_copyFrom) 62 = .ok (.goto (-32), 3) := by decide +kernel
theorem r_X0_copyFrom_62 {x0 x1 x2 : Value} {st : List Value} {h : AH} : Run M_X0_copyFrom 62 [x0, x1, x2] st h = Run M_X0_copyFrom 30 [x0, x1, x2] st h := R_goto d_X0_copyFrom_62 (by decide)
theorem d_X0_copyFrom_65 : decode (mB M_X0_copyFrom) 65 = .ok (.aload_n 0, 1) := by decide +kernel
theorem r_X0_copyFrom_65 {x1 x2 : Value} {a : Nat} {st : List Value} {h : AH} : Run M_X0_copyFrom 65 [.ref a, x1, x2] st h = Run M_X0_copyFrom 66 [.ref a, x1, x2] (.ref a :: st) h := R_aload_n d_X0_copyFrom_65 rfl
theorem d_X0_copyFrom_66 : decode (mB M_X0_copyFrom) 66 = .ok (.aload_n 1, 1) := by decide +kernel
theorem r_X0_copyFrom_66 {x0 x2 : Value} {a : Nat} {st : List Value} {h : AH} : Run M_X0_copyFrom 66 [x0, .ref a, x2] st h = Run M_X0_copyFrom 67 [x0, .ref a, x2] (.ref a :: st) h := R_aload_n d_X0_copyFrom_66 rfl
theorem d_X0_copyFrom_67 : decode (mB M_X0_copyFrom) 67 = .ok (.getfield 26, 3) := by decide +kernel
theorem r_X0_copyFrom_67 {x0 x1 x2 : Value} {a : Nat} {st : List Value} {h : AH} : Run M_X0_copyFrom 67 [x0, x1, x2] (.ref a :: st) h = if (gF h a 0 7).isSome = true then Run M_X0_copyFrom 70 [x0, x1, x2] ((gF h a 0 7).getD .null :: st) h else none := R_getfield d_X0_copyFrom_67 rfl
theorem d_X0_copyFrom_70 : decode (mB M_X0_copyFrom) 70 = .ok (.putfield 26, 3) := by decide +kernel
theorem r_X0_copyFrom_70 {x0 x1 x2 : Value} {v : Int32} {a : Nat} {st : List Value} {h : AH} : Run M_X0_copyFrom 70 [x0, x1, x2] (.int v :: .ref a :: st) h = if (pF h a 0 7 (.int v)).isSome = true then Run M_X0_copyFrom 73 [x0, x1, x2] st ((pF h a 0 7 (.int v)).getD h) else none := R_putfield d_X0_copyFrom_70 rfl (okP_int rfl rfl)
theorem d_X0_copyFrom_73 : decode (mB M_X0_copyFrom) 73 = .ok (.aload_n 0, 1) := by decide +kernel
theorem r_X0_copyFrom_73 {x1 x2 : Value} {a : Nat} {st : List Value} {h : AH} : Run M_X0_copyFrom 73 [.ref a, x1, x2] st h = Run M_X0_copyFrom 74 [.ref a, x1, x2] (.ref a :: st) h := R_aload_n d_X0_copyFrom_73 rfl
theorem d_X0_copyFrom_74 : decode (mB M_X0_copyFrom) 74 = .ok (.aload_n 1, 1) := by decide +kernel
theorem r_X0_copyFrom_74 {x0 x2 : Value} {a : Nat} {st : List Value} {h : AH} : Run M_X0_copyFrom 74 [x0, .ref a, x2] st h = Run M_X0_copyFrom 75 [x0, .ref a, x2] (.ref a :: st) h := R_aload_n d_X0_copyFrom_74 rfl
theorem d_X0_copyFrom_75 : decode (mB M_X0_copyFrom) 75 = .ok (.getfield 30, 3) := by decide +kernel
theorem r_X0_copyFrom_75 {x0 x1 x2 : Value} {a : Nat} {st : List Value} {h : AH} : Run M_X0_copyFrom 75 [x0, x1, x2] (.ref a :: st) h = if (gF h a 0 8).isSome = true then Run M_X0_copyFrom 78 [x0, x1, x2] ((gF h a 0 8).getD .null :: st) h else none := R_getfield d_X0_copyFrom_75 rfl
theorem d_X0_copyFrom_78 : decode (mB M_X0_copyFrom) 78 = .ok (.putfield 30, 3) := by decide +kernel
theorem r_X0_copyFrom_78 {x0 x1 x2 : Value} {v : Int32} {a : Nat} {st : List Value} {h : AH} : Run M_X0_copyFrom 78 [x0, x1, x2] (.int v :: .ref a :: st) h = if (pF h a 0 8 (.int v)).isSome = true then Run M_X0_copyFrom 81 [x0, x1, x2] st ((pF h a 0 8 (.int v)).getD h) else none := R_putfield d_X0_copyFrom_78 rfl (okP_int rfl rfl)
theorem d_X0_copyFrom_81 : decode (mB M_X0_copyFrom) 81 = .ok (.aload_n 0, 1) := by decide +kernel
theorem r_X0_copyFrom_81 {x1 x2 : Value} {a : Nat} {st : List Value} {h : AH} : Run M_X0_copyFrom 81 [.ref a, x1, x2] st h = Run M_X0_copyFrom 82 [.ref a, x1, x2] (.ref a :: st) h := R_aload_n d_X0_copyFrom_81 rfl
theorem d_X0_copyFrom_82 : decode (mB M_X0_copyFrom) 82 = .ok (.aload_n 1, 1) := by decide +kernel
theorem r_X0_copyFrom_82 {x0 x2 : Value} {a : Nat} {st : List Value} {h : AH} : Run M_X0_copyFrom 82 [x0, .ref a, x2] st h = Run M_X0_copyFrom 83 [x0, .ref a, x2] (.ref a :: st) h := R_aload_n d_X0_copyFrom_82 rfl
theorem d_X0_copyFrom_83 : decode (mB M_X0_copyFrom) 83 = .ok (.getfield 33, 3) := by decide +kernel
theorem r_X0_copyFrom_83 {x0 x1 x2 : Value} {a : Nat} {st : List Value} {h : AH} : Run M_X0_copyFrom 83 [x0, x1, x2] (.ref a :: st) h = if (gF h a 0 9).isSome = true then Run M_X0_copyFrom 86 [x0, x1, x2] ((gF h a 0 9).getD .null :: st) h else none := R_getfield d_X0_copyFrom_83 rfl
theorem d_X0_copyFrom_86 : decode (mB M_X0_copyFrom) 86 = .ok (.putfield 33, 3) := by decide +kernel
theorem r_X0_copyFrom_86 {x0 x1 x2 : Value} {v : Int32} {a : Nat} {st : List Value} {h : AH} : Run M_X0_copyFrom 86 [x0, x1, x2] (.int v :: .ref a :: st) h = if (pF h a 0 9 (.int v)).isSome = true then Run M_X0_copyFrom 89 [x0, x1, x2] st ((pF h a 0 9 (.int v)).getD h) else none := R_putfield d_X0_copyFrom_86 rfl (okP_int rfl rfl)
theorem d_X0_copyFrom_89 : decode (mB M_X0_copyFrom) 89 = .ok (.aload_n 0, 1) := by decide +kernel
theorem r_X0_copyFrom_89 {x1 x2 : Value} {a : Nat} {st : List Value} {h : AH} : Run M_X0_copyFrom 89 [.ref a, x1, x2] st h = Run M_X0_copyFrom 90 [.ref a, x1, x2] (.ref a :: st) h := R_aload_n d_X0_copyFrom_89 rfl
theorem d_X0_copyFrom_90 : decode (mB M_X0_copyFrom) 90 = .ok (.aload_n 1, 1) := by decide +kernel
theorem r_X0_copyFrom_90 {x0 x2 : Value} {a : Nat} {st : List Value} {h : AH} : Run M_X0_copyFrom 90 [x0, .ref a, x2] st h = Run M_X0_copyFrom 91 [x0, .ref a, x2] (.ref a :: st) h := R_aload_n d_X0_copyFrom_90 rfl
theorem d_X0_copyFrom_91 : decode (mB M_X0_copyFrom) 91 = .ok (.getfield 51, 3) := by decide +kernel
theorem r_X0_copyFrom_91 {x0 x1 x2 : Value} {a : Nat} {st : List Value} {h : AH} : Run M_X0_copyFrom 91 [x0, x1, x2] (.ref a :: st) h = if (gF h a 0 10).isSome = true then Run M_X0_copyFrom 94 [x0, x1, x2] ((gF h a 0 10).getD .null :: st) h else none := R_getfield d_X0_copyFrom_91 rfl
theorem d_X0_copyFrom_94 : decode (mB M_X0_copyFrom) 94 = .ok (.putfield 51, 3) := by decide +kernel
theorem r_X0_copyFrom_94 {x0 x1 x2 : Value} {v : Int32} {a : Nat} {st : List Value} {h : AH} : Run M_X0_copyFrom 94 [x0, x1, x2] (.int v :: .ref a :: st) h = if (pF h a 0 10 (.int v)).isSome = true then Run M_X0_copyFrom 97 [x0, x1, x2] st ((pF h a 0 10 (.int v)).getD h) else none := R_putfield d_X0_copyFrom_94 rfl (okP_int rfl rfl)
theorem d_X0_copyFrom_97 : decode (mB M_X0_copyFrom) 97 = .ok (.return_, 1) := by decide +kernel
theorem r_X0_copyFrom_97 {x0 x1 x2 : Value} {h : AH} : Run M_X0_copyFrom 97 [x0, x1, x2] [] h = some (h, none) := R_return d_X0_copyFrom_97 rfl
theorem d_X0_showing_0 : decode (mB M_X0_showing) 0 = .ok (.iload_n 2, 1) := by decide +kernel
theorem r_X0_showing_0 {x0 x1 x3 : Value} {a : Int32} {st : List Value} {h : AH} : Run M_X0_showing 0 [x0, x1, .int a, x3] st h = Run M_X0_showing 1 [x0, x1, .int a, x3] (.int a :: st) h := R_iload_n d_X0_showing_0 rfl
theorem d_X0_showing_1 : decode (mB M_X0_showing) 1 = .ok (.iconst 2, 1) := by decide +kernel
theorem r_X0_showing_1 {x0 x1 x2 x3 : Value} {st : List Value} {h : AH} : Run M_X0_showing 1 [x0, x1, x2, x3] st h = Run M_X0_showing 2 [x0, x1, x2, x3] (.int (nI 2) :: st) h := R_iconst d_X0_showing_1 (by decide)
theorem d_X0_showing_2 : decode (mB M_X0_showing) 2 = .ok (.if_icmp .ne 6, 3) := by decide +kernel
theorem r_X0_showing_2 {x0 x1 x2 x3 : Value} {x y : Int32} {st : List Value} {h : AH} : Run M_X0_showing 2 [x0, x1, x2, x3] (.int y :: .int x :: st) h = if x = y then Run M_X0_showing 5 [x0, x1, x2, x3] st h else Run M_X0_showing 8 [x0, x1, x2, x3] st h := R_icmp_ne d_X0_showing_2 (by decide)
theorem d_X0_showing_5 : decode (mB M_X0_showing) 5 = .ok (.bipush 8, 2) := by decide +kernel
theorem r_X0_showing_5 {x0 x1 x2 x3 : Value} {st : List Value} {h : AH} : Run M_X0_showing 5 [x0, x1, x2, x3] st h = Run M_X0_showing 7 [x0, x1, x2, x3] (.int (nI 8) :: st) h := R_bipush d_X0_showing_5 (by decide)
theorem d_X0_showing_7 : decode (mB M_X0_showing) 7 = .ok (.ireturn, 1) := by decide +kernel
theorem r_X0_showing_7 {x0 x1 x2 x3 : Value} {v : Int32} {h : AH} : Run M_X0_showing 7 [x0, x1, x2, x3] [.int v] h = some (h, some (.int v)) := R_ireturn d_X0_showing_7 rfl rfl
theorem d_X0_showing_8 : decode (mB M_X0_showing) 8 = .ok (.iload_n 1, 1) := by decide +kernel
theorem r_X0_showing_8 {x0 x2 x3 : Value} {a : Int32} {st : List Value} {h : AH} : Run M_X0_showing 8 [x0, .int a, x2, x3] st h = Run M_X0_showing 9 [x0, .int a, x2, x3] (.int a :: st) h := R_iload_n d_X0_showing_8 rfl
theorem d_X0_showing_9 : decode (mB M_X0_showing) 9 = .ok (.iconst 3, 1) := by decide +kernel
theorem r_X0_showing_9 {x0 x1 x2 x3 : Value} {st : List Value} {h : AH} : Run M_X0_showing 9 [x0, x1, x2, x3] st h = Run M_X0_showing 10 [x0, x1, x2, x3] (.int (nI 3) :: st) h := R_iconst d_X0_showing_9 (by decide)
theorem d_X0_showing_10 : decode (mB M_X0_showing) 10 = .ok (.if_icmp .ne 10, 3) := by decide +kernel
theorem r_X0_showing_10 {x0 x1 x2 x3 : Value} {x y : Int32} {st : List Value} {h : AH} : Run M_X0_showing 10 [x0, x1, x2, x3] (.int y :: .int x :: st) h = if x = y then Run M_X0_showing 13 [x0, x1, x2, x3] st h else Run M_X0_showing 20 [x0, x1, x2, x3] st h := R_icmp_ne d_X0_showing_10 (by decide)
theorem d_X0_showing_13 : decode (mB M_X0_showing) 13 = .ok (.aload_n 0, 1) := by decide +kernel
theorem r_X0_showing_13 {x1 x2 x3 : Value} {a : Nat} {st : List Value} {h : AH} : Run M_X0_showing 13 [.ref a, x1, x2, x3] st h = Run M_X0_showing 14 [.ref a, x1, x2, x3] (.ref a :: st) h := R_aload_n d_X0_showing_13 rfl
theorem d_X0_showing_14 : decode (mB M_X0_showing) 14 = .ok (.getfield 45, 3) := by decide +kernel
theorem r_X0_showing_14 {x0 x1 x2 x3 : Value} {a : Nat} {st : List Value} {h : AH} : Run M_X0_showing 14 [x0, x1, x2, x3] (.ref a :: st) h = if (gF h a 0 3).isSome = true then Run M_X0_showing 17 [x0, x1, x2, x3] ((gF h a 0 3).getD .null :: st) h else none := R_getfield d_X0_showing_14 rfl
theorem d_X0_showing_17 : decode (mB M_X0_showing) 17 = .ok (.goto 7, 3) := by decide +kernel
theorem r_X0_showing_17 {x0 x1 x2 x3 : Value} {st : List Value} {h : AH} : Run M_X0_showing 17 [x0, x1, x2, x3] st h = Run M_X0_showing 24 [x0, x1, x2, x3] st h := R_goto d_X0_showing_17 (by decide)
theorem d_X0_showing_20 : decode (mB M_X0_showing) 20 = .ok (.aload_n 0, 1) := by decide +kernel
theorem r_X0_showing_20 {x1 x2 x3 : Value} {a : Nat} {st : List Value} {h : AH} : Run M_X0_showing 20 [.ref a, x1, x2, x3] st h = Run M_X0_showing 21 [.ref a, x1, x2, x3] (.ref a :: st) h := R_aload_n d_X0_showing_20 rfl
theorem d_X0_showing_21 : decode (mB M_X0_showing) 21 = .ok (.getfield 48, 3) := by decide +kernel
theorem r_X0_showing_21 {x0 x1 x2 x3 : Value} {a : Nat} {st : List Value} {h : AH} : Run M_X0_showing 21 [x0, x1, x2, x3] (.ref a :: st) h = if (gF h a 0 4).isSome = true then Run M_X0_showing 24 [x0, x1, x2, x3] ((gF h a 0 4).getD .null :: st) h else none := R_getfield d_X0_showing_21 rfl
theorem d_X0_showing_24 : decode (mB M_X0_showing) 24 = .ok (.istore_n 3, 1) := by decide +kernel
theorem r_X0_showing_24 {x0 x1 x2 x3 : Value} {a : Int32} {st : List Value} {h : AH} (hc : x2.category = 1) : Run M_X0_showing 24 [x0, x1, x2, x3] (.int a :: st) h = Run M_X0_showing 25 [x0, x1, x2, .int a] st h := R_istore_n d_X0_showing_24 (Nat.lt_of_lt_of_le (by decide : 3 < 4) (Nat.le_refl 4)) (catP_of rfl hc)
theorem d_X0_showing_25 : decode (mB M_X0_showing) 25 = .ok (.iload_n 2, 1) := by decide +kernel
theorem r_X0_showing_25 {x0 x1 x3 : Value} {a : Int32} {st : List Value} {h : AH} : Run M_X0_showing 25 [x0, x1, .int a, x3] st h = Run M_X0_showing 26 [x0, x1, .int a, x3] (.int a :: st) h := R_iload_n d_X0_showing_25 rfl
theorem d_X0_showing_26 : decode (mB M_X0_showing) 26 = .ok (.iconst 1, 1) := by decide +kernel
theorem r_X0_showing_26 {x0 x1 x2 x3 : Value} {st : List Value} {h : AH} : Run M_X0_showing 26 [x0, x1, x2, x3] st h = Run M_X0_showing 27 [x0, x1, x2, x3] (.int (nI 1) :: st) h := R_iconst d_X0_showing_26 (by decide)
theorem d_X0_showing_27 : decode (mB M_X0_showing) 27 = .ok (.if_icmp .ne 7, 3) := by decide +kernel
theorem r_X0_showing_27 {x0 x1 x2 x3 : Value} {x y : Int32} {st : List Value} {h : AH} : Run M_X0_showing 27 [x0, x1, x2, x3] (.int y :: .int x :: st) h = if x = y then Run M_X0_showing 30 [x0, x1, x2, x3] st h else Run M_X0_showing 34 [x0, x1, x2, x3] st h := R_icmp_ne d_X0_showing_27 (by decide)
theorem d_X0_showing_30 : decode (mB M_X0_showing) 30 = .ok (.iload_n 3, 1) := by decide +kernel
theorem r_X0_showing_30 {x0 x1 x2 : Value} {a : Int32} {st : List Value} {h : AH} : Run M_X0_showing 30 [x0, x1, x2, .int a] st h = Run M_X0_showing 31 [x0, x1, x2, .int a] (.int a :: st) h := R_iload_n d_X0_showing_30 rfl
theorem d_X0_showing_31 : decode (mB M_X0_showing) 31 = .ok (.goto 7, 3) := by decide +kernel
theorem r_X0_showing_31 {x0 x1 x2 x3 : Value} {st : List Value} {h : AH} : Run M_X0_showing 31 [x0, x1, x2, x3] st h = Run M_X0_showing 38 [x0, x1, x2, x3] st h := R_goto d_X0_showing_31 (by decide)
theorem d_X0_showing_34 : decode (mB M_X0_showing) 34 = .ok (.bipush 8, 2) := by decide +kernel
theorem r_X0_showing_34 {x0 x1 x2 x3 : Value} {st : List Value} {h : AH} : Run M_X0_showing 34 [x0, x1, x2, x3] st h = Run M_X0_showing 36 [x0, x1, x2, x3] (.int (nI 8) :: st) h := R_bipush d_X0_showing_34 (by decide)
theorem d_X0_showing_36 : decode (mB M_X0_showing) 36 = .ok (.iload_n 3, 1) := by decide +kernel
theorem r_X0_showing_36 {x0 x1 x2 : Value} {a : Int32} {st : List Value} {h : AH} : Run M_X0_showing 36 [x0, x1, x2, .int a] st h = Run M_X0_showing 37 [x0, x1, x2, .int a] (.int a :: st) h := R_iload_n d_X0_showing_36 rfl
theorem d_X0_showing_37 : decode (mB M_X0_showing) 37 = .ok (.isub, 1) := by decide +kernel
theorem r_X0_showing_37 {x0 x1 x2 x3 : Value} {x y : Int32} {st : List Value} {h : AH} : Run M_X0_showing 37 [x0, x1, x2, x3] (.int y :: .int x :: st) h = Run M_X0_showing 38 [x0, x1, x2, x3] (.int (x - y) :: st) h := R_isub d_X0_showing_37
theorem d_X0_showing_38 : decode (mB M_X0_showing) 38 = .ok (.ireturn, 1) := by decide +kernel
theorem r_X0_showing_38 {x0 x1 x2 x3 : Value} {v : Int32} {h : AH} : Run M_X0_showing 38 [x0, x1, x2, x3] [.int v] h = some (h, some (.int v)) := R_ireturn d_X0_showing_38 rfl rfl
theorem d_X0_draw_0 : decode (mB M_X0_draw) 0 = .ok (.aload_n 0, 1) := by decide +kernel
theorem r_X0_draw_0 {x1 : Value} {a : Nat} {st : List Value} {h : AH} : Run M_X0_draw 0 [.ref a, x1] st h = Run M_X0_draw 1 [.ref a, x1] (.ref a :: st) h := R_aload_n d_X0_draw_0 rfl
theorem d_X0_draw_1 : decode (mB M_X0_draw) 1 = .ok (.aload_n 0, 1) := by decide +kernel
theorem r_X0_draw_1 {x1 : Value} {a : Nat} {st : List Value} {h : AH} : Run M_X0_draw 1 [.ref a, x1] st h = Run M_X0_draw 2 [.ref a, x1] (.ref a :: st) h := R_aload_n d_X0_draw_1 rfl
theorem d_X0_draw_2 : decode (mB M_X0_draw) 2 = .ok (.getfield 51, 3) := by decide +kernel
theorem r_X0_draw_2 {x0 x1 : Value} {a : Nat} {st : List Value} {h : AH} : Run M_X0_draw 2 [x0, x1] (.ref a :: st) h = if (gF h a 0 10).isSome = true then Run M_X0_draw 5 [x0, x1] ((gF h a 0 10).getD .null :: st) h else none := R_getfield d_X0_draw_2 rfl
theorem d_X0_draw_5 : decode (mB M_X0_draw) 5 = .ok (.i2l, 1) := by decide +kernel
theorem r_X0_draw_5 {x0 x1 : Value} {x : Int32} {st : List Value} {h : AH} : Run M_X0_draw 5 [x0, x1] (.int x :: st) h = Run M_X0_draw 6 [x0, x1] (.long x.toInt64 :: st) h := R_i2l d_X0_draw_5
theorem d_X0_draw_6 : decode (mB M_X0_draw) 6 = .ok (.ldc2_w 54, 3) := by decide +kernel
theorem r_X0_draw_6 {x0 x1 : Value} {st : List Value} {h : AH} : Run M_X0_draw 6 [x0, x1] st h = Run M_X0_draw 9 [x0, x1] (.long (lN 1103515245) :: st) h := R_ldc2_w d_X0_draw_6 (by decide)
theorem d_X0_draw_9 : decode (mB M_X0_draw) 9 = .ok (.lmul, 1) := by decide +kernel
theorem r_X0_draw_9 {x0 x1 : Value} {x y : Int64} {st : List Value} {h : AH} : Run M_X0_draw 9 [x0, x1] (.long y :: .long x :: st) h = Run M_X0_draw 10 [x0, x1] (.long (x * y) :: st) h := R_lmul d_X0_draw_9
theorem d_X0_draw_10 : decode (mB M_X0_draw) 10 = .ok (.ldc2_w 56, 3) := by decide +kernel
theorem r_X0_draw_10 {x0 x1 : Value} {st : List Value} {h : AH} : Run M_X0_draw 10 [x0, x1] st h = Run M_X0_draw 13 [x0, x1] (.long (lN 12345) :: st) h := R_ldc2_w d_X0_draw_10 (by decide)
theorem d_X0_draw_13 : decode (mB M_X0_draw) 13 = .ok (.ladd, 1) := by decide +kernel
theorem r_X0_draw_13 {x0 x1 : Value} {x y : Int64} {st : List Value} {h : AH} : Run M_X0_draw 13 [x0, x1] (.long y :: .long x :: st) h = Run M_X0_draw 14 [x0, x1] (.long (x + y) :: st) h := R_ladd d_X0_draw_13
theorem d_X0_draw_14 : decode (mB M_X0_draw) 14 = .ok (.ldc2_w 58, 3) := by decide +kernel
theorem r_X0_draw_14 {x0 x1 : Value} {st : List Value} {h : AH} : Run M_X0_draw 14 [x0, x1] st h = Run M_X0_draw 17 [x0, x1] (.long (lN 2147483647) :: st) h := R_ldc2_w d_X0_draw_14 (by decide)
theorem d_X0_draw_17 : decode (mB M_X0_draw) 17 = .ok (.land, 1) := by decide +kernel
theorem r_X0_draw_17 {x0 x1 : Value} {x y : Int64} {st : List Value} {h : AH} : Run M_X0_draw 17 [x0, x1] (.long y :: .long x :: st) h = Run M_X0_draw 18 [x0, x1] (.long (x &&& y) :: st) h := R_land d_X0_draw_17
theorem d_X0_draw_18 : decode (mB M_X0_draw) 18 = .ok (.l2i, 1) := by decide +kernel
theorem r_X0_draw_18 {x0 x1 : Value} {x : Int64} {st : List Value} {h : AH} : Run M_X0_draw 18 [x0, x1] (.long x :: st) h = Run M_X0_draw 19 [x0, x1] (.int x.toInt32 :: st) h := R_l2i d_X0_draw_18
theorem d_X0_draw_19 : decode (mB M_X0_draw) 19 = .ok (.putfield 51, 3) := by decide +kernel
theorem r_X0_draw_19 {x0 x1 : Value} {v : Int32} {a : Nat} {st : List Value} {h : AH} : Run M_X0_draw 19 [x0, x1] (.int v :: .ref a :: st) h = if (pF h a 0 10 (.int v)).isSome = true then Run M_X0_draw 22 [x0, x1] st ((pF h a 0 10 (.int v)).getD h) else none := R_putfield d_X0_draw_19 rfl (okP_int rfl rfl)
theorem d_X0_draw_22 : decode (mB M_X0_draw) 22 = .ok (.iload_n 1, 1) := by decide +kernel
theorem r_X0_draw_22 {x0 : Value} {a : Int32} {st : List Value} {h : AH} : Run M_X0_draw 22 [x0, .int a] st h = Run M_X0_draw 23 [x0, .int a] (.int a :: st) h := R_iload_n d_X0_draw_22 rfl
theorem d_X0_draw_23 : decode (mB M_X0_draw) 23 = .ok (.ifCond .le 15, 3) := by decide +kernel
theorem r_X0_draw_23 {x0 x1 : Value} {x : Int32} {st : List Value} {h : AH} : Run M_X0_draw 23 [x0, x1] (.int x :: st) h = if x ≤ nI 0 then Run M_X0_draw 38 [x0, x1] st h else Run M_X0_draw 26 [x0, x1] st h := R_if_le d_X0_draw_23 (by decide)
theorem d_X0_draw_26 : decode (mB M_X0_draw) 26 = .ok (.aload_n 0, 1) := by decide +kernel
theorem r_X0_draw_26 {x1 : Value} {a : Nat} {st : List Value} {h : AH} : Run M_X0_draw 26 [.ref a, x1] st h = Run M_X0_draw 27 [.ref a, x1] (.ref a :: st) h := R_aload_n d_X0_draw_26 rfl
theorem d_X0_draw_27 : decode (mB M_X0_draw) 27 = .ok (.getfield 51, 3) := by decide +kernel
theorem r_X0_draw_27 {x0 x1 : Value} {a : Nat} {st : List Value} {h : AH} : Run M_X0_draw 27 [x0, x1] (.ref a :: st) h = if (gF h a 0 10).isSome = true then Run M_X0_draw 30 [x0, x1] ((gF h a 0 10).getD .null :: st) h else none := R_getfield d_X0_draw_27 rfl
theorem d_X0_draw_30 : decode (mB M_X0_draw) 30 = .ok (.ldc 60, 2) := by decide +kernel
theorem r_X0_draw_30 {x0 x1 : Value} {st : List Value} {h : AH} : Run M_X0_draw 30 [x0, x1] st h = Run M_X0_draw 32 [x0, x1] (.int (nI 65536) :: st) h := R_ldc d_X0_draw_30 (by decide)
theorem d_X0_draw_32 : decode (mB M_X0_draw) 32 = .ok (.idiv, 1) := by decide +kernel
theorem r_X0_draw_32 {x0 x1 : Value} {x y : Int32} {st : List Value} {h : AH} (hy : ¬ y = 0) : Run M_X0_draw 32 [x0, x1] (.int y :: .int x :: st) h = Run M_X0_draw 33 [x0, x1] (.int (x / y) :: st) h := R_idiv d_X0_draw_32 hy
theorem d_X0_draw_33 : decode (mB M_X0_draw) 33 = .ok (.iload_n 1, 1) := by decide +kernel
theorem r_X0_draw_33 {x0 : Value} {a : Int32} {st : List Value} {h : AH} : Run M_X0_draw 33 [x0, .int a] st h = Run M_X0_draw 34 [x0, .int a] (.int a :: st) h := R_iload_n d_X0_draw_33 rfl
theorem d_X0_draw_34 : decode (mB M_X0_draw) 34 = .ok (.irem, 1) := by decide +kernel
theorem r_X0_draw_34 {x0 x1 : Value} {x y : Int32} {st : List Value} {h : AH} (hy : ¬ y = 0) : Run M_X0_draw 34 [x0, x1] (.int y :: .int x :: st) h = Run M_X0_draw 35 [x0, x1] (.int (x - x / y * y) :: st) h := R_irem d_X0_draw_34 hy
theorem d_X0_draw_35 : decode (mB M_X0_draw) 35 = .ok (.goto 4, 3) := by decide +kernel
theorem r_X0_draw_35 {x0 x1 : Value} {st : List Value} {h : AH} : Run M_X0_draw 35 [x0, x1] st h = Run M_X0_draw 39 [x0, x1] st h := R_goto d_X0_draw_35 (by decide)
theorem d_X0_draw_38 : decode (mB M_X0_draw) 38 = .ok (.iconst 0, 1) := by decide +kernel
theorem r_X0_draw_38 {x0 x1 : Value} {st : List Value} {h : AH} : Run M_X0_draw 38 [x0, x1] st h = Run M_X0_draw 39 [x0, x1] (.int (nI 0) :: st) h := R_iconst d_X0_draw_38 (by decide)
theorem d_X0_draw_39 : decode (mB M_X0_draw) 39 = .ok (.ireturn, 1) := by decide +kernel
theorem r_X0_draw_39 {x0 x1 : Value} {v : Int32} {h : AH} : Run M_X0_draw 39 [x0, x1] [.int v] h = some (h, some (.int v)) := R_ireturn d_X0_draw_39 rfl rfl
theorem d_X1_init_0 : decode (mB M_X1_init) 0 = .ok (.aload_n 0, 1) := by decide +kernel
theorem r_X1_init_0 {a : Nat} {st : List Value} {h : AH} : Run M_X1_init 0 [.ref a] st h = Run M_X1_init 1 [.ref a] (.ref a :: st) h := R_aload_n d_X1_init_0 rfl
theorem d_X1_init_1 : decode (mB M_X1_init) 1 = .ok (.invokespecial 3, 3) := by decide +kernel
theorem r_X1_init_1 {x0 : Value} {a : Nat} {h : AH} : Run M_X1_init 1 [x0] (.ref a :: []) h = Run M_X1_init 4 [x0] [] h := R_obj d_X1_init_1 rfl rfl ⟨by decide, Nat.le_of_ble_eq_true rfl, by decide, by decide⟩
theorem d_X1_init_4 : decode (mB M_X1_init) 4 = .ok (.aload_n 0, 1) := by decide +kernel
theorem r_X1_init_4 {a : Nat} {st : List Value} {h : AH} : Run M_X1_init 4 [.ref a] st h = Run M_X1_init 5 [.ref a] (.ref a :: st) h := R_aload_n d_X1_init_4 rfl
theorem d_X1_init_5 : decode (mB M_X1_init) 5 = .ok (.bipush 20, 2) := by decide +kernel
theorem r_X1_init_5 {x0 : Value} {st : List Value} {h : AH} : Run M_X1_init 5 [x0] st h = Run M_X1_init 7 [x0] (.int (nI 20) :: st) h := R_bipush d_X1_init_5 (by decide)
theorem d_X1_init_7 : decode (mB M_X1_init) 7 = .ok (.newarray .int, 2) := by decide +kernel
theorem r_X1_init_7 {x0 : Value} {st : List Value} {h : AH} : Run M_X1_init 7 [x0] (.int (nI 20) :: st) h = Run M_X1_init 9 [x0] (.ref h.1 :: st) (hnew h 20 (iA 20 (fun _ => 0))) := R_newarray d_X1_init_7 rfl ⟨by decide, by decide⟩ (by decide) rfl
theorem d_X1_init_9 : decode (mB M_X1_init) 9 = .ok (.putfield 9, 3) := by decide +kernel
theorem r_X1_init_9 {x0 : Value} {v : Nat} {a : Nat} {st : List Value} {h : AH} : Run M_X1_init 9 [x0] (.ref v :: .ref a :: st) h = if (pF h a 1 0 (.ref v)).isSome = true then Run M_X1_init 12 [x0] st ((pF h a 1 0 (.ref v)).getD h) else none := R_putfield d_X1_init_9 rfl (okP_arr rfl (Or.inr ⟨rfl, rfl⟩))
theorem d_X1_init_12 : decode (mB M_X1_init) 12 = .ok (.aload_n 0, 1) := by decide +kernel
theorem r_X1_init_12 {a : Nat} {st : List Value} {h : AH} : Run M_X1_init 12 [.ref a] st h = Run M_X1_init 13 [.ref a] (.ref a :: st) h := R_aload_n d_X1_init_12 rfl
theorem d_X1_init_13 : decode (mB M_X1_init) 13 = .ok (.bipush 20, 2) := by decide +kernel
theorem r_X1_init_13 {x0 : Value} {st : List Value} {h : AH} : Run M_X1_init 13 [x0] st h = Run M_X1_init 15 [x0] (.int (nI 20) :: st) h := R_bipush d_X1_init_13 (by decide)
theorem d_X1_init_15 : decode (mB M_X1_init) 15 = .ok (.newarray .int, 2) := by decide +kernel
theorem r_X1_init_15 {x0 : Value} {st : List Value} {h : AH} : Run M_X1_init 15 [x0] (.int (nI 20) :: st) h = Run M_X1_init 17 [x0] (.ref h.1 :: st) (hnew h 20 (iA 20 (fun _ => 0))) := R_newarray d_X1_init_15 rfl ⟨by decide, by decide⟩ (by decide) rfl
theorem d_X1_init_17 : decode (mB M_X1_init) 17 = .ok (.putfield 15, 3) := by decide +kernel
theorem r_X1_init_17 {x0 : Value} {v : Nat} {a : Nat} {st : List Value} {h : AH} : Run M_X1_init 17 [x0] (.ref v :: .ref a :: st) h = if (pF h a 1 1 (.ref v)).isSome = true then Run M_X1_init 20 [x0] st ((pF h a 1 1 (.ref v)).getD h) else none := R_putfield d_X1_init_17 rfl (okP_arr rfl (Or.inr ⟨rfl, rfl⟩))
theorem d_X1_init_20 : decode (mB M_X1_init) 20 = .ok (.return_, 1) := by decide +kernel
theorem r_X1_init_20 {x0 : Value} {h : AH} : Run M_X1_init 20 [x0] [] h = some (h, none) := R_return d_X1_init_20 rfl
theorem d_X1_put_0 : decode (mB M_X1_put) 0 = .ok (.aload_n 0, 1) := by decide +kernel
theorem r_X1_put_0 {x1 x2 : Value} {a : Nat} {st : List Value} {h : AH} : Run M_X1_put 0 [.ref a, x1, x2] st h = Run M_X1_put 1 [.ref a, x1, x2] (.ref a :: st) h := R_aload_n d_X1_put_0 rfl
theorem d_X1_put_1 : decode (mB M_X1_put) 1 = .ok (.getfield 18, 3) := by decide +kernel
theorem r_X1_put_1 {x0 x1 x2 : Value} {a : Nat} {st : List Value} {h : AH} : Run M_X1_put 1 [x0, x1, x2] (.ref a :: st) h = if (gF h a 1 2).isSome = true then Run M_X1_put 4 [x0, x1, x2] ((gF h a 1 2).getD .null :: st) h else none := R_getfield d_X1_put_1 rfl
theorem d_X1_put_4 : decode (mB M_X1_put) 4 = .ok (.bipush 20, 2) := by decide +kernel
theorem r_X1_put_4 {x0 x1 x2 : Value} {st : List Value} {h : AH} : Run M_X1_put 4 [x0, x1, x2] st h = Run M_X1_put 6 [x0, x1, x2] (.int (nI 20) :: st) h := R_bipush d_X1_put_4 (by decide)
theorem d_X1_put_6 : decode (mB M_X1_put) 6 = .ok (.if_icmp .lt 5, 3) := by decide +kernel
theorem r_X1_put_6 {x0 x1 x2 : Value} {x y : Int32} {st : List Value} {h : AH} : Run M_X1_put 6 [x0, x1, x2] (.int y :: .int x :: st) h = if x < y then Run M_X1_put 11 [x0, x1, x2] st h else Run M_X1_put 9 [x0, x1, x2] st h := R_icmp_lt d_X1_put_6 (by decide)
theorem d_X1_put_9 : decode (mB M_X1_put) 9 = .ok (.iconst 0, 1) := by decide +kernel
theorem r_X1_put_9 {x0 x1 x2 : Value} {st : List Value} {h : AH} : Run M_X1_put 9 [x0, x1, x2] st h = Run M_X1_put 10 [x0, x1, x2] (.int (nI 0) :: st) h := R_iconst d_X1_put_9 (by decide)
theorem d_X1_put_10 : decode (mB M_X1_put) 10 = .ok (.ireturn, 1) := by decide +kernel
theorem r_X1_put_10_0 {x0 x1 x2 : Value} {h : AH} : Run M_X1_put 10 [x0, x1, x2] [.int (nI 0)] h = some (h, some (.int (nI 0))) := R_ireturn d_X1_put_10 rfl (by decide)
theorem r_X1_put_10_1 {x0 x1 x2 : Value} {h : AH} : Run M_X1_put 10 [x0, x1, x2] [.int (nI 1)] h = some (h, some (.int (nI 1))) := R_ireturn d_X1_put_10 rfl (by decide)
theorem r_X1_put_10_c {x0 x1 x2 : Value} {c : Prop} [Decidable c] {h : AH} : Run M_X1_put 10 [x0, x1, x2] [.int (bI c)] h = some (h, some (.int (bI c))) := R_ireturn d_X1_put_10 rfl narrow_bI
theorem d_X1_put_11 : decode (mB M_X1_put) 11 = .ok (.aload_n 0, 1) := by decide +kernel
theorem r_X1_put_11 {x1 x2 : Value} {a : Nat} {st : List Value} {h : AH} : Run M_X1_put 11 [.ref a, x1, x2] st h = Run M_X1_put 12 [.ref a, x1, x2] (.ref a :: st) h := R_aload_n d_X1_put_11 rfl
theorem d_X1_put_12 : decode (mB M_X1_put) 12 = .ok (.getfield 9, 3) := by decide +kernel
theorem r_X1_put_12 {x0 x1 x2 : Value} {a : Nat} {st : List Value} {h : AH} : Run M_X1_put 12 [x0, x1, x2] (.ref a :: st) h = if (gF h a 1 0).isSome = true then Run M_X1_put 15 [x0, x1, x2] ((gF h a 1 0).getD .null :: st) h else none := R_getfield d_X1_put_12 rfl
theorem d_X1_put_15 : decode (mB M_X1_put) 15 = .ok (.aload_n 0, 1) := by decide +kernel
theorem r_X1_put_15 {x1 x2 : Value} {a : Nat} {st : List Value} {h : AH} : Run M_X1_put 15 [.ref a, x1, x2] st h = Run M_X1_put 16 [.ref a, x1, x2] (.ref a :: st) h := R_aload_n d_X1_put_15 rfl
theorem d_X1_put_16 : decode (mB M_X1_put) 16 = .ok (.getfield 18, 3) := by decide +kernel
theorem r_X1_put_16 {x0 x1 x2 : Value} {a : Nat} {st : List Value} {h : AH} : Run M_X1_put 16 [x0, x1, x2] (.ref a :: st) h = if (gF h a 1 2).isSome = true then Run M_X1_put 19 [x0, x1, x2] ((gF h a 1 2).getD .null :: st) h else none := R_getfield d_X1_put_16 rfl
theorem d_X1_put_19 : decode (mB M_X1_put) 19 = .ok (.iload_n 1, 1) := by decide +kernel
theorem r_X1_put_19 {x0 x2 : Value} {a : Int32} {st : List Value} {h : AH} : Run M_X1_put 19 [x0, .int a, x2] st h = Run M_X1_put 20 [x0, .int a, x2] (.int a :: st) h := R_iload_n d_X1_put_19 rfl
theorem d_X1_put_20 : decode (mB M_X1_put) 20 = .ok (.iastore, 1) := by decide +kernel
theorem r_X1_put_20 {x0 x1 x2 : Value} {a : Nat} {i x : Int32} {st : List Value} {h : AH} : Run M_X1_put 20 [x0, x1, x2] (.int x :: .int i :: .ref a :: st) h = if (pI 0 h a i x).isSome = true then Run M_X1_put 21 [x0, x1, x2] st ((pI 0 h a i x).getD h) else none := R_iastore d_X1_put_20
theorem d_X1_put_21 : decode (mB M_X1_put) 21 = .ok (.aload_n 0, 1) := by decide +kernel
theorem r_X1_put_21 {x1 x2 : Value} {a : Nat} {st : List Value} {h : AH} : Run M_X1_put 21 [.ref a, x1, x2] st h = Run M_X1_put 22 [.ref a, x1, x2] (.ref a :: st) h := R_aload_n d_X1_put_21 rfl
theorem d_X1_put_22 : decode (mB M_X1_put) 22 = .ok (.getfield 15, 3) := by decide +kernel
theorem r_X1_put_22 {x0 x1 x2 : Value} {a : Nat} {st : List Value} {h : AH} : Run M_X1_put 22 [x0, x1, x2] (.ref a :: st) h = if (gF h a 1 1).isSome = true then Run M_X1_put 25 [x0, x1, x2] ((gF h a 1 1).getD .null :: st) h else none := R_getfield d_X1_put_22 rfl
theorem d_X1_put_25 : decode (mB M_X1_put) 25 = .ok (.aload_n 0, 1) := by decide +kernel
theorem r_X1_put_25 {x1 x2 : Value} {a : Nat} {st : List Value} {h : AH} : Run M_X1_put 25 [.ref a, x1, x2] st h = Run M_X1_put 26 [.ref a, x1, x2] (.ref a :: st) h := R_aload_n d_X1_put_25 rfl
theorem d_X1_put_26 : decode (mB M_X1_put) 26 = .ok (.getfield 18, 3) := by decide +kernel
theorem r_X1_put_26 {x0 x1 x2 : Value} {a : Nat} {st : List Value} {h : AH} : Run M_X1_put 26 [x0, x1, x2] (.ref a :: st) h = if (gF h a 1 2).isSome = true then Run M_X1_put 29 [x0, x1, x2] ((gF h a 1 2).getD .null :: st) h else none := R_getfield d_X1_put_26 rfl
theorem d_X1_put_29 : decode (mB M_X1_put) 29 = .ok (.iload_n 2, 1) := by decide +kernel
theorem r_X1_put_29 {x0 x1 : Value} {a : Int32} {st : List Value} {h : AH} : Run M_X1_put 29 [x0, x1, .int a] st h = Run M_X1_put 30 [x0, x1, .int a] (.int a :: st) h := R_iload_n d_X1_put_29 rfl
theorem d_X1_put_30 : decode (mB M_X1_put) 30 = .ok (.iastore, 1) := by decide +kernel
theorem r_X1_put_30 {x0 x1 x2 : Value} {a : Nat} {i x : Int32} {st : List Value} {h : AH} : Run M_X1_put 30 [x0, x1, x2] (.int x :: .int i :: .ref a :: st) h = if (pI 0 h a i x).isSome = true then Run M_X1_put 31 [x0, x1, x2] st ((pI 0 h a i x).getD h) else none := R_iastore d_X1_put_30
theorem d_X1_put_31 : decode (mB M_X1_put) 31 = .ok (.aload_n 0, 1) := by decide +kernel
theorem r_X1_put_31 {x1 x2 : Value} {a : Nat} {st : List Value} {h : AH} : Run M_X1_put 31 [.ref a, x1, x2] st h = Run M_X1_put 32 [.ref a, x1, x2] (.ref a :: st) h := R_aload_n d_X1_put_31 rfl
theorem d_X1_put_32 : decode (mB M_X1_put) 32 = .ok (.dup, 1) := by decide +kernel
theorem r_X1_put_32 {x0 x1 x2 : Value} {x : Nat} {st : List Value} {h : AH} : Run M_X1_put 32 [x0, x1, x2] (.ref x :: st) h = Run M_X1_put 33 [x0, x1, x2] (.ref x :: .ref x :: st) h := R_dupr d_X1_put_32
theorem d_X1_put_33 : decode (mB M_X1_put) 33 = .ok (.getfield 18, 3) := by decide +kernel
theorem r_X1_put_33 {x0 x1 x2 : Value} {a : Nat} {st : List Value} {h : AH} : Run M_X1_put 33 [x0, x1, x2] (.ref a :: st) h = if (gF h a 1 2).isSome = true then Run M_X1_put 36 [x0, x1, x2] ((gF h a 1 2).getD .null :: st) h else none := R_getfield d_X1_put_33 rfl
theorem d_X1_put_36 : decode (mB M_X1_put) 36 = .ok (.iconst 1, 1) := by decide +kernel
theorem r_X1_put_36 {x0 x1 x2 : Value} {st : List Value} {h : AH} : Run M_X1_put 36 [x0, x1, x2] st h = Run M_X1_put 37 [x0, x1, x2] (.int (nI 1) :: st) h := R_iconst d_X1_put_36 (by decide)
theorem d_X1_put_37 : decode (mB M_X1_put) 37 = .ok (.iadd, 1) := by decide +kernel
theorem r_X1_put_37 {x0 x1 x2 : Value} {x y : Int32} {st : List Value} {h : AH} : Run M_X1_put 37 [x0, x1, x2] (.int y :: .int x :: st) h = Run M_X1_put 38 [x0, x1, x2] (.int (x + y) :: st) h := R_iadd d_X1_put_37
theorem d_X1_put_38 : decode (mB M_X1_put) 38 = .ok (.putfield 18, 3) := by decide +kernel
theorem r_X1_put_38 {x0 x1 x2 : Value} {v : Int32} {a : Nat} {st : List Value} {h : AH} : Run M_X1_put 38 [x0, x1, x2] (.int v :: .ref a :: st) h = if (pF h a 1 2 (.int v)).isSome = true then Run M_X1_put 41 [x0, x1, x2] st ((pF h a 1 2 (.int v)).getD h) else none := R_putfield d_X1_put_38 rfl (okP_int rfl rfl)
theorem d_X1_put_41 : decode (mB M_X1_put) 41 = .ok (.iconst 1, 1) := by decide +kernel
theorem r_X1_put_41 {x0 x1 x2 : Value} {st : List Value} {h : AH} : Run M_X1_put 41 [x0, x1, x2] st h = Run M_X1_put 42 [x0, x1, x2] (.int (nI 1) :: st) h := R_iconst d_X1_put_41 (by decide)
theorem d_X1_put_42 : decode (mB M_X1_put) 42 = .ok (.ireturn, 1) := by decide +kernel
theorem r_X1_put_42_0 {x0 x1 x2 : Value} {h : AH} : Run M_X1_put 42 [x0, x1, x2] [.int (nI 0)] h = some (h, some (.int (nI 0))) := R_ireturn d_X1_put_42 rfl (by decide)
theorem r_X1_put_42_1 {x0 x1 x2 : Value} {h : AH} : Run M_X1_put 42 [x0, x1, x2] [.int (nI 1)] h = some (h, some (.int (nI 1))) := R_ireturn d_X1_put_42 rfl (by decide)
theorem r_X1_put_42_c {x0 x1 x2 : Value} {c : Prop} [Decidable c] {h : AH} : Run M_X1_put 42 [x0, x1, x2] [.int (bI c)] h = some (h, some (.int (bI c))) := R_ireturn d_X1_put_42 rfl narrow_bI
theorem d_X1_firstWrong_0 : decode (mB M_X1_firstWrong) 0 = .ok (.iconst 0, 1) := by decide +kernel
theorem r_X1_firstWrong_0 {x0 x1 x2 x3 : Value} {st : List Value} {h : AH} : Run M_X1_firstWrong 0 [x0, x1, x2, x3] st h = Run M_X1_firstWrong 1 [x0, x1, x2, x3] (.int (nI 0) :: st) h := R_iconst d_X1_firstWrong_0 (by decide)
theorem d_X1_firstWrong_1 : decode (mB M_X1_firstWrong) 1 = .ok (.istore_n 2, 1) := by decide +kernel
theorem r_X1_firstWrong_1 {x0 x1 x2 x3 : Value} {a : Int32} {st : List Value} {h : AH} (hc : x1.category = 1) : Run M_X1_firstWrong 1 [x0, x1, x2, x3] (.int a :: st) h = Run M_X1_firstWrong 2 [x0, x1, .int a, x3] st h := R_istore_n d_X1_firstWrong_1 (Nat.lt_of_lt_of_le (by decide : 2 < 4) (Nat.le_refl 4)) (catP_of rfl hc)
theorem d_X1_firstWrong_2 : decode (mB M_X1_firstWrong) 2 = .ok (.iconst 0, 1) := by decide +kernel
theorem r_X1_firstWrong_2 {x0 x1 x2 x3 : Value} {st : List Value} {h : AH} : Run M_X1_firstWrong 2 [x0, x1, x2, x3] st h = Run M_X1_firstWrong 3 [x0, x1, x2, x3] (.int (nI 0) :: st) h := R_iconst d_X1_firstWrong_2 (by decide)
theorem d_X1_firstWrong_3 : decode (mB M_X1_firstWrong) 3 = .ok (.istore_n 3, 1) := by decide +kernel
theorem r_X1_firstWrong_3 {x0 x1 x2 x3 : Value} {a : Int32} {st : List Value} {h : AH} (hc : x2.category = 1) : Run M_X1_firstWrong 3 [x0, x1, x2, x3] (.int a :: st) h = Run M_X1_firstWrong 4 [x0, x1, x2, .int a] st h := R_istore_n d_X1_firstWrong_3 (Nat.lt_of_lt_of_le (by decide : 3 < 4) (Nat.le_refl 4)) (catP_of rfl hc)
theorem d_X1_firstWrong_4 : decode (mB M_X1_firstWrong) 4 = .ok (.iload_n 3, 1) := by decide +kernel
theorem r_X1_firstWrong_4 {x0 x1 x2 : Value} {a : Int32} {st : List Value} {h : AH} : Run M_X1_firstWrong 4 [x0, x1, x2, .int a] st h = Run M_X1_firstWrong 5 [x0, x1, x2, .int a] (.int a :: st) h := R_iload_n d_X1_firstWrong_4 rfl
theorem d_X1_firstWrong_5 : decode (mB M_X1_firstWrong) 5 = .ok (.aload_n 0, 1) := by decide +kernel
theorem r_X1_firstWrong_5 {x1 x2 x3 : Value} {a : Nat} {st : List Value} {h : AH} : Run M_X1_firstWrong 5 [.ref a, x1, x2, x3] st h = Run M_X1_firstWrong 6 [.ref a, x1, x2, x3] (.ref a :: st) h := R_aload_n d_X1_firstWrong_5 rfl
theorem d_X1_firstWrong_6 : decode (mB M_X1_firstWrong) 6 = .ok (.getfield 18, 3) := by decide +kernel
theorem r_X1_firstWrong_6 {x0 x1 x2 x3 : Value} {a : Nat} {st : List Value} {h : AH} : Run M_X1_firstWrong 6 [x0, x1, x2, x3] (.ref a :: st) h = if (gF h a 1 2).isSome = true then Run M_X1_firstWrong 9 [x0, x1, x2, x3] ((gF h a 1 2).getD .null :: st) h else none := R_getfield d_X1_firstWrong_6 rfl
theorem d_X1_firstWrong_9 : decode (mB M_X1_firstWrong) 9 = .ok (.if_icmp .ge 53, 3) := by decide +kernel
theorem r_X1_firstWrong_9 {x0 x1 x2 x3 : Value} {x y : Int32} {st : List Value} {h : AH} : Run M_X1_firstWrong 9 [x0, x1, x2, x3] (.int y :: .int x :: st) h = if y ≤ x then Run M_X1_firstWrong 62 [x0, x1, x2, x3] st h else Run M_X1_firstWrong 12 [x0, x1, x2, x3] st h := R_icmp_ge d_X1_firstWrong_9 (by decide)
theorem d_X1_firstWrong_12 : decode (mB M_X1_firstWrong) 12 = .ok (.aload_n 0, 1) := by decide +kernel
theorem r_X1_firstWrong_12 {x1 x2 x3 : Value} {a : Nat} {st : List Value} {h : AH} : Run M_X1_firstWrong 12 [.ref a, x1, x2, x3] st h = Run M_X1_firstWrong 13 [.ref a, x1, x2, x3] (.ref a :: st) h := R_aload_n d_X1_firstWrong_12 rfl
theorem d_X1_firstWrong_13 : decode (mB M_X1_firstWrong) 13 = .ok (.getfield 9, 3) := by decide +kernel
theorem r_X1_firstWrong_13 {x0 x1 x2 x3 : Value} {a : Nat} {st : List Value} {h : AH} : Run M_X1_firstWrong 13 [x0, x1, x2, x3] (.ref a :: st) h = if (gF h a 1 0).isSome = true then Run M_X1_firstWrong 16 [x0, x1, x2, x3] ((gF h a 1 0).getD .null :: st) h else none := R_getfield d_X1_firstWrong_13 rfl
theorem d_X1_firstWrong_16 : decode (mB M_X1_firstWrong) 16 = .ok (.iload_n 3, 1) := by decide +kernel
theorem r_X1_firstWrong_16 {x0 x1 x2 : Value} {a : Int32} {st : List Value} {h : AH} : Run M_X1_firstWrong 16 [x0, x1, x2, .int a] st h = Run M_X1_firstWrong 17 [x0, x1, x2, .int a] (.int a :: st) h := R_iload_n d_X1_firstWrong_16 rfl
theorem d_X1_firstWrong_17 : decode (mB M_X1_firstWrong) 17 = .ok (.iaload, 1) := by decide +kernel
theorem r_X1_firstWrong_17 {x0 x1 x2 x3 : Value} {a : Nat} {i : Int32} {st : List Value} {h : AH} : Run M_X1_firstWrong 17 [x0, x1, x2, x3] (.int i :: .ref a :: st) h = if (gI 0 h a i).isSome = true then Run M_X1_firstWrong 18 [x0, x1, x2, x3] (.int ((gI 0 h a i).getD 0) :: st) h else none := R_iaload d_X1_firstWrong_17
theorem d_X1_firstWrong_18 : decode (mB M_X1_firstWrong) 18 = .ok (.iload_n 2, 1) := by decide +kernel
theorem r_X1_firstWrong_18 {x0 x1 x3 : Value} {a : Int32} {st : List Value} {h : AH} : Run M_X1_firstWrong 18 [x0, x1, .int a, x3] st h = Run M_X1_firstWrong 19 [x0, x1, .int a, x3] (.int a :: st) h := R_iload_n d_X1_firstWrong_18 rfl
theorem d_X1_firstWrong_19 : decode (mB M_X1_firstWrong) 19 = .ok (.if_icmp .ne 17, 3) := by decide +kernel
theorem r_X1_firstWrong_19 {x0 x1 x2 x3 : Value} {x y : Int32} {st : List Value} {h : AH} : Run M_X1_firstWrong 19 [x0, x1, x2, x3] (.int y :: .int x :: st) h = if x = y then Run M_X1_firstWrong 22 [x0, x1, x2, x3] st h else Run M_X1_firstWrong 36 [x0, x1, x2, x3] st h := R_icmp_ne d_X1_firstWrong_19 (by decide)
theorem d_X1_firstWrong_22 : decode (mB M_X1_firstWrong) 22 = .ok (.aload_n 1, 1) := by decide +kernel
theorem r_X1_firstWrong_22 {x0 x2 x3 : Value} {a : Nat} {st : List Value} {h : AH} : Run M_X1_firstWrong 22 [x0, .ref a, x2, x3] st h = Run M_X1_firstWrong 23 [x0, .ref a, x2, x3] (.ref a :: st) h := R_aload_n d_X1_firstWrong_22 rfl
theorem d_X1_firstWrong_23 : decode (mB M_X1_firstWrong) 23 = .ok (.iload_n 2, 1) := by decide +kernel
theorem r_X1_firstWrong_23 {x0 x1 x3 : Value} {a : Int32} {st : List Value} {h : AH} : Run M_X1_firstWrong 23 [x0, x1, .int a, x3] st h = Run M_X1_firstWrong 24 [x0, x1, .int a, x3] (.int a :: st) h := R_iload_n d_X1_firstWrong_23 rfl
theorem d_X1_firstWrong_24 : decode (mB M_X1_firstWrong) 24 = .ok (.aload_n 0, 1) := by decide +kernel
theorem r_X1_firstWrong_24 {x1 x2 x3 : Value} {a : Nat} {st : List Value} {h : AH} : Run M_X1_firstWrong 24 [.ref a, x1, x2, x3] st h = Run M_X1_firstWrong 25 [.ref a, x1, x2, x3] (.ref a :: st) h := R_aload_n d_X1_firstWrong_24 rfl
theorem d_X1_firstWrong_25 : decode (mB M_X1_firstWrong) 25 = .ok (.getfield 15, 3) := by decide +kernel
theorem r_X1_firstWrong_25 {x0 x1 x2 x3 : Value} {a : Nat} {st : List Value} {h : AH} : Run M_X1_firstWrong 25 [x0, x1, x2, x3] (.ref a :: st) h = if (gF h a 1 1).isSome = true then Run M_X1_firstWrong 28 [x0, x1, x2, x3] ((gF h a 1 1).getD .null :: st) h else none := R_getfield d_X1_firstWrong_25 rfl
theorem d_X1_firstWrong_28 : decode (mB M_X1_firstWrong) 28 = .ok (.iload_n 3, 1) := by decide +kernel
theorem r_X1_firstWrong_28 {x0 x1 x2 : Value} {a : Int32} {st : List Value} {h : AH} : Run M_X1_firstWrong 28 [x0, x1, x2, .int a] st h = Run M_X1_firstWrong 29 [x0, x1, x2, .int a] (.int a :: st) h := R_iload_n d_X1_firstWrong_28 rfl
theorem d_X1_firstWrong_29 : decode (mB M_X1_firstWrong) 29 = .ok (.iaload, 1) := by decide +kernel
theorem r_X1_firstWrong_29 {x0 x1 x2 x3 : Value} {a : Nat} {i : Int32} {st : List Value} {h : AH} : Run M_X1_firstWrong 29 [x0, x1, x2, x3] (.int i :: .ref a :: st) h = if (gI 0 h a i).isSome = true then Run M_X1_firstWrong 30 [x0, x1, x2, x3] (.int ((gI 0 h a i).getD 0) :: st) h else none := R_iaload d_X1_firstWrong_29
theorem d_X1_firstWrong_30 : decode (mB M_X1_firstWrong) 30 = .ok (.invokestatic 22, 3) := by decide +kernel
theorem r_X1_firstWrong_30 {x0 x1 x2 x3 : Value} {p0 : Nat} {p1 : Int32} {p2 : Int32} {h : AH} : Run M_X1_firstWrong 30 [x0, x1, x2, x3] (.int p2 :: .int p1 :: .ref p0 :: []) h = if (Call M_X1_canBe h [.ref p0, .int p1, .int p2]).isSome = true then Run M_X1_firstWrong 33 [x0, x1, x2, x3] (rL (Call M_X1_canBe h [.ref p0, .int p1, .int p2]) ++ []) (cH (Call M_X1_canBe h [.ref p0, .int p1, .int p2])) else none := R_stat d_X1_firstWrong_30 rfl rfl rfl rfl (Nat.le_of_ble_eq_true rfl)
theorem d_X1_firstWrong_33 : decode (mB M_X1_firstWrong) 33 = .ok (.ifCond .ne 5, 3) := by decide +kernel
theorem r_X1_firstWrong_33 {x0 x1 x2 x3 : Value} {x : Int32} {st : List Value} {h : AH} : Run M_X1_firstWrong 33 [x0, x1, x2, x3] (.int x :: st) h = if x = nI 0 then Run M_X1_firstWrong 36 [x0, x1, x2, x3] st h else Run M_X1_firstWrong 38 [x0, x1, x2, x3] st h := R_if_ne d_X1_firstWrong_33 (by decide)
theorem d_X1_firstWrong_36 : decode (mB M_X1_firstWrong) 36 = .ok (.iload_n 3, 1) := by decide +kernel
theorem r_X1_firstWrong_36 {x0 x1 x2 : Value} {a : Int32} {st : List Value} {h : AH} : Run M_X1_firstWrong 36 [x0, x1, x2, .int a] st h = Run M_X1_firstWrong 37 [x0, x1, x2, .int a] (.int a :: st) h := R_iload_n d_X1_firstWrong_36 rfl
theorem d_X1_firstWrong_37 : decode (mB M_X1_firstWrong) 37 = .ok (.ireturn, 1) := by decide +kernel
theorem r_X1_firstWrong_37 {x0 x1 x2 x3 : Value} {v : Int32} {h : AH} : Run M_X1_firstWrong 37 [x0, x1, x2, x3] [.int v] h = some (h, some (.int v)) := R_ireturn d_X1_firstWrong_37 rfl rfl
theorem d_X1_firstWrong_38 : decode (mB M_X1_firstWrong) 38 = .ok (.iload_n 2, 1) := by decide +kernel
theorem r_X1_firstWrong_38 {x0 x1 x3 : Value} {a : Int32} {st : List Value} {h : AH} : Run M_X1_firstWrong 38 [x0, x1, .int a, x3] st h = Run M_X1_firstWrong 39 [x0, x1, .int a, x3] (.int a :: st) h := R_iload_n d_X1_firstWrong_38 rfl
theorem d_X1_firstWrong_39 : decode (mB M_X1_firstWrong) 39 = .ok (.iconst 1, 1) := by decide +kernel
theorem r_X1_firstWrong_39 {x0 x1 x2 x3 : Value} {st : List Value} {h : AH} : Run M_X1_firstWrong 39 [x0, x1, x2, x3] st h = Run M_X1_firstWrong 40 [x0, x1, x2, x3] (.int (nI 1) :: st) h := R_iconst d_X1_firstWrong_39 (by decide)
theorem d_X1_firstWrong_40 : decode (mB M_X1_firstWrong) 40 = .ok (.iadd, 1) := by decide +kernel
theorem r_X1_firstWrong_40 {x0 x1 x2 x3 : Value} {x y : Int32} {st : List Value} {h : AH} : Run M_X1_firstWrong 40 [x0, x1, x2, x3] (.int y :: .int x :: st) h = Run M_X1_firstWrong 41 [x0, x1, x2, x3] (.int (x + y) :: st) h := R_iadd d_X1_firstWrong_40
theorem d_X1_firstWrong_41 : decode (mB M_X1_firstWrong) 41 = .ok (.aload_n 1, 1) := by decide +kernel
theorem r_X1_firstWrong_41 {x0 x2 x3 : Value} {a : Nat} {st : List Value} {h : AH} : Run M_X1_firstWrong 41 [x0, .ref a, x2, x3] st h = Run M_X1_firstWrong 42 [x0, .ref a, x2, x3] (.ref a :: st) h := R_aload_n d_X1_firstWrong_41 rfl
theorem d_X1_firstWrong_42 : decode (mB M_X1_firstWrong) 42 = .ok (.getfield 26, 3) := by decide +kernel
theorem r_X1_firstWrong_42 {x0 x1 x2 x3 : Value} {a : Nat} {st : List Value} {h : AH} : Run M_X1_firstWrong 42 [x0, x1, x2, x3] (.ref a :: st) h = if (gF h a 4 0).isSome = true then Run M_X1_firstWrong 45 [x0, x1, x2, x3] ((gF h a 4 0).getD .null :: st) h else none := R_getfield d_X1_firstWrong_42 rfl
theorem d_X1_firstWrong_45 : decode (mB M_X1_firstWrong) 45 = .ok (.if_icmp .ge 9, 3) := by decide +kernel
theorem r_X1_firstWrong_45 {x0 x1 x2 x3 : Value} {x y : Int32} {st : List Value} {h : AH} : Run M_X1_firstWrong 45 [x0, x1, x2, x3] (.int y :: .int x :: st) h = if y ≤ x then Run M_X1_firstWrong 54 [x0, x1, x2, x3] st h else Run M_X1_firstWrong 48 [x0, x1, x2, x3] st h := R_icmp_ge d_X1_firstWrong_45 (by decide)
theorem d_X1_firstWrong_48 : decode (mB M_X1_firstWrong) 48 = .ok (.iload_n 2, 1) := by decide +kernel
theorem r_X1_firstWrong_48 {x0 x1 x3 : Value} {a : Int32} {st : List Value} {h : AH} : Run M_X1_firstWrong 48 [x0, x1, .int a, x3] st h = Run M_X1_firstWrong 49 [x0, x1, .int a, x3] (.int a :: st) h := R_iload_n d_X1_firstWrong_48 rfl
theorem d_X1_firstWrong_49 : decode (mB M_X1_firstWrong) 49 = .ok (.iconst 1, 1) := by decide +kernel
theorem r_X1_firstWrong_49 {x0 x1 x2 x3 : Value} {st : List Value} {h : AH} : Run M_X1_firstWrong 49 [x0, x1, x2, x3] st h = Run M_X1_firstWrong 50 [x0, x1, x2, x3] (.int (nI 1) :: st) h := R_iconst d_X1_firstWrong_49 (by decide)
theorem d_X1_firstWrong_50 : decode (mB M_X1_firstWrong) 50 = .ok (.iadd, 1) := by decide +kernel
theorem r_X1_firstWrong_50 {x0 x1 x2 x3 : Value} {x y : Int32} {st : List Value} {h : AH} : Run M_X1_firstWrong 50 [x0, x1, x2, x3] (.int y :: .int x :: st) h = Run M_X1_firstWrong 51 [x0, x1, x2, x3] (.int (x + y) :: st) h := R_iadd d_X1_firstWrong_50
theorem d_X1_firstWrong_51 : decode (mB M_X1_firstWrong) 51 = .ok (.goto 4, 3) := by decide +kernel
theorem r_X1_firstWrong_51 {x0 x1 x2 x3 : Value} {st : List Value} {h : AH} : Run M_X1_firstWrong 51 [x0, x1, x2, x3] st h = Run M_X1_firstWrong 55 [x0, x1, x2, x3] st h := R_goto d_X1_firstWrong_51 (by decide)
theorem d_X1_firstWrong_54 : decode (mB M_X1_firstWrong) 54 = .ok (.iconst 0, 1) := by decide +kernel
theorem r_X1_firstWrong_54 {x0 x1 x2 x3 : Value} {st : List Value} {h : AH} : Run M_X1_firstWrong 54 [x0, x1, x2, x3] st h = Run M_X1_firstWrong 55 [x0, x1, x2, x3] (.int (nI 0) :: st) h := R_iconst d_X1_firstWrong_54 (by decide)
theorem d_X1_firstWrong_55 : decode (mB M_X1_firstWrong) 55 = .ok (.istore_n 2, 1) := by decide +kernel
theorem r_X1_firstWrong_55 {x0 x1 x2 x3 : Value} {a : Int32} {st : List Value} {h : AH} (hc : x1.category = 1) : Run M_X1_firstWrong 55 [x0, x1, x2, x3] (.int a :: st) h = Run M_X1_firstWrong 56 [x0, x1, .int a, x3] st h := R_istore_n d_X1_firstWrong_55 (Nat.lt_of_lt_of_le (by decide : 2 < 4) (Nat.le_refl 4)) (catP_of rfl hc)
theorem d_X1_firstWrong_56 : decode (mB M_X1_firstWrong) 56 = .ok (.iinc 3 1, 3) := by decide +kernel
theorem r_X1_firstWrong_56 {x0 x1 x2 : Value} {a : Int32} {st : List Value} {h : AH} (hc : x2.category = 1) : Run M_X1_firstWrong 56 [x0, x1, x2, .int a] st h = Run M_X1_firstWrong 59 [x0, x1, x2, .int (a + (nI 1))] st h := R_iinc d_X1_firstWrong_56 (by decide) rfl (catP_of rfl hc)
theorem d_X1_firstWrong_59 : decode (mB M_X1_firstWrong) 59 = .ok (.goto (-55), 3) := by decide +kernel
theorem r_X1_firstWrong_59 {x0 x1 x2 x3 : Value} {st : List Value} {h : AH} : Run M_X1_firstWrong 59 [x0, x1, x2, x3] st h = Run M_X1_firstWrong 4 [x0, x1, x2, x3] st h := R_goto d_X1_firstWrong_59 (by decide)
theorem d_X1_firstWrong_62 : decode (mB M_X1_firstWrong) 62 = .ok (.iconst (-1), 1) := by decide +kernel
theorem r_X1_firstWrong_62 {x0 x1 x2 x3 : Value} {st : List Value} {h : AH} : Run M_X1_firstWrong 62 [x0, x1, x2, x3] st h = Run M_X1_firstWrong 63 [x0, x1, x2, x3] (.int (-1) :: st) h := R_iconst d_X1_firstWrong_62 (by decide)
theorem d_X1_firstWrong_63 : decode (mB M_X1_firstWrong) 63 = .ok (.ireturn, 1) := by decide +kernel
theorem r_X1_firstWrong_63 {x0 x1 x2 x3 : Value} {v : Int32} {h : AH} : Run M_X1_firstWrong 63 [x0, x1, x2, x3] [.int v] h = some (h, some (.int v)) := R_ireturn d_X1_firstWrong_63 rfl rfl
theorem d_X1_canBe_0 : decode (mB M_X1_canBe) 0 = .ok (.aload_n 0, 1) := by decide +kernel
theorem r_X1_canBe_0 {x1 x2 x3 : Value} {a : Nat} {st : List Value} {h : AH} : Run M_X1_canBe 0 [.ref a, x1, x2, x3] st h = Run M_X1_canBe 1 [.ref a, x1, x2, x3] (.ref a :: st) h := R_aload_n d_X1_canBe_0 rfl
theorem d_X1_canBe_1 : decode (mB M_X1_canBe) 1 = .ok (.iload_n 1, 1) := by decide +kernel
theorem r_X1_canBe_1 {x0 x2 x3 : Value} {a : Int32} {st : List Value} {h : AH} : Run M_X1_canBe 1 [x0, .int a, x2, x3] st h = Run M_X1_canBe 2 [x0, .int a, x2, x3] (.int a :: st) h := R_iload_n d_X1_canBe_1 rfl
theorem d_X1_canBe_2 : decode (mB M_X1_canBe) 2 = .ok (.invokevirtual 31, 3) := by decide +kernel
theorem r_X1_canBe_2 {x0 x1 x2 x3 : Value} {p0 : Int32} {a : Nat} {h : AH} : Run M_X1_canBe 2 [x0, x1, x2, x3] (.int p0 :: .ref a :: []) h = if refO h 4 (some (.ref a)) = true then (if (Call M_X4_hasPart h [.ref a, .int p0]).isSome = true then Run M_X1_canBe 5 [x0, x1, x2, x3] (rL (Call M_X4_hasPart h [.ref a, .int p0]) ++ []) (cH (Call M_X4_hasPart h [.ref a, .int p0])) else none) else none := R_virt d_X1_canBe_2 rfl rfl rfl rfl rfl (Nat.le_of_ble_eq_true rfl)
theorem d_X1_canBe_5 : decode (mB M_X1_canBe) 5 = .ok (.ifCond .ne 5, 3) := by decide +kernel
theorem r_X1_canBe_5 {x0 x1 x2 x3 : Value} {x : Int32} {st : List Value} {h : AH} : Run M_X1_canBe 5 [x0, x1, x2, x3] (.int x :: st) h = if x = nI 0 then Run M_X1_canBe 8 [x0, x1, x2, x3] st h else Run M_X1_canBe 10 [x0, x1, x2, x3] st h := R_if_ne d_X1_canBe_5 (by decide)
theorem d_X1_canBe_8 : decode (mB M_X1_canBe) 8 = .ok (.iconst 0, 1) := by decide +kernel
theorem r_X1_canBe_8 {x0 x1 x2 x3 : Value} {st : List Value} {h : AH} : Run M_X1_canBe 8 [x0, x1, x2, x3] st h = Run M_X1_canBe 9 [x0, x1, x2, x3] (.int (nI 0) :: st) h := R_iconst d_X1_canBe_8 (by decide)
theorem d_X1_canBe_9 : decode (mB M_X1_canBe) 9 = .ok (.ireturn, 1) := by decide +kernel
theorem r_X1_canBe_9_0 {x0 x1 x2 x3 : Value} {h : AH} : Run M_X1_canBe 9 [x0, x1, x2, x3] [.int (nI 0)] h = some (h, some (.int (nI 0))) := R_ireturn d_X1_canBe_9 rfl (by decide)
theorem r_X1_canBe_9_1 {x0 x1 x2 x3 : Value} {h : AH} : Run M_X1_canBe 9 [x0, x1, x2, x3] [.int (nI 1)] h = some (h, some (.int (nI 1))) := R_ireturn d_X1_canBe_9 rfl (by decide)
theorem r_X1_canBe_9_c {x0 x1 x2 x3 : Value} {c : Prop} [Decidable c] {h : AH} : Run M_X1_canBe 9 [x0, x1, x2, x3] [.int (bI c)] h = some (h, some (.int (bI c))) := R_ireturn d_X1_canBe_9 rfl narrow_bI
theorem d_X1_canBe_10 : decode (mB M_X1_canBe) 10 = .ok (.aload_n 0, 1) := by decide +kernel
theorem r_X1_canBe_10 {x1 x2 x3 : Value} {a : Nat} {st : List Value} {h : AH} : Run M_X1_canBe 10 [.ref a, x1, x2, x3] st h = Run M_X1_canBe 11 [.ref a, x1, x2, x3] (.ref a :: st) h := R_aload_n d_X1_canBe_10 rfl
theorem d_X1_canBe_11 : decode (mB M_X1_canBe) 11 = .ok (.getfield 35, 3) := by decide +kernel
theorem r_X1_canBe_11 {x0 x1 x2 x3 : Value} {a : Nat} {st : List Value} {h : AH} : Run M_X1_canBe 11 [x0, x1, x2, x3] (.ref a :: st) h = if (gF h a 4 1).isSome = true then Run M_X1_canBe 14 [x0, x1, x2, x3] ((gF h a 4 1).getD .null :: st) h else none := R_getfield d_X1_canBe_11 rfl
theorem d_X1_canBe_14 : decode (mB M_X1_canBe) 14 = .ok (.iload_n 1, 1) := by decide +kernel
theorem r_X1_canBe_14 {x0 x2 x3 : Value} {a : Int32} {st : List Value} {h : AH} : Run M_X1_canBe 14 [x0, .int a, x2, x3] st h = Run M_X1_canBe 15 [x0, .int a, x2, x3] (.int a :: st) h := R_iload_n d_X1_canBe_14 rfl
theorem d_X1_canBe_15 : decode (mB M_X1_canBe) 15 = .ok (.aaload, 1) := by decide +kernel
theorem r_X1_canBe_15 {x0 x1 x2 x3 : Value} {a : Nat} {i : Int32} {st : List Value} {h : AH} : Run M_X1_canBe 15 [x0, x1, x2, x3] (.int i :: .ref a :: st) h = if (gR h a i).isSome = true then Run M_X1_canBe 16 [x0, x1, x2, x3] (.ref ((gR h a i).getD 0) :: st) h else none := R_aaload d_X1_canBe_15
theorem d_X1_canBe_16 : decode (mB M_X1_canBe) 16 = .ok (.astore_n 3, 1) := by decide +kernel
theorem r_X1_canBe_16 {x0 x1 x2 x3 : Value} {a : Nat} {st : List Value} {h : AH} (hc : x2.category = 1) : Run M_X1_canBe 16 [x0, x1, x2, x3] (.ref a :: st) h = Run M_X1_canBe 17 [x0, x1, x2, .ref a] st h := R_astore_n d_X1_canBe_16 (Nat.lt_of_lt_of_le (by decide : 3 < 4) (Nat.le_refl 4)) (catP_of rfl hc)
theorem d_X1_canBe_17 : decode (mB M_X1_canBe) 17 = .ok (.iload_n 2, 1) := by decide +kernel
theorem r_X1_canBe_17 {x0 x1 x3 : Value} {a : Int32} {st : List Value} {h : AH} : Run M_X1_canBe 17 [x0, x1, .int a, x3] st h = Run M_X1_canBe 18 [x0, x1, .int a, x3] (.int a :: st) h := R_iload_n d_X1_canBe_17 rfl
theorem d_X1_canBe_18 : decode (mB M_X1_canBe) 18 = .ok (.ifCond .ne 18, 3) := by decide +kernel
theorem r_X1_canBe_18 {x0 x1 x2 x3 : Value} {x : Int32} {st : List Value} {h : AH} : Run M_X1_canBe 18 [x0, x1, x2, x3] (.int x :: st) h = if x = nI 0 then Run M_X1_canBe 21 [x0, x1, x2, x3] st h else Run M_X1_canBe 36 [x0, x1, x2, x3] st h := R_if_ne d_X1_canBe_18 (by decide)
theorem d_X1_canBe_21 : decode (mB M_X1_canBe) 21 = .ok (.aload_n 3, 1) := by decide +kernel
theorem r_X1_canBe_21 {x0 x1 x2 : Value} {a : Nat} {st : List Value} {h : AH} : Run M_X1_canBe 21 [x0, x1, x2, .ref a] st h = Run M_X1_canBe 22 [x0, x1, x2, .ref a] (.ref a :: st) h := R_aload_n d_X1_canBe_21 rfl
theorem d_X1_canBe_22 : decode (mB M_X1_canBe) 22 = .ok (.getfield 39, 3) := by decide +kernel
theorem r_X1_canBe_22 {x0 x1 x2 x3 : Value} {a : Nat} {st : List Value} {h : AH} : Run M_X1_canBe 22 [x0, x1, x2, x3] (.ref a :: st) h = if (gF h a 6 1).isSome = true then Run M_X1_canBe 25 [x0, x1, x2, x3] ((gF h a 6 1).getD .null :: st) h else none := R_getfield d_X1_canBe_22 rfl
theorem d_X1_canBe_25 : decode (mB M_X1_canBe) 25 = .ok (.ifCond .le 7, 3) := by decide +kernel
theorem r_X1_canBe_25 {x0 x1 x2 x3 : Value} {x : Int32} {st : List Value} {h : AH} : Run M_X1_canBe 25 [x0, x1, x2, x3] (.int x :: st) h = if x ≤ nI 0 then Run M_X1_canBe 32 [x0, x1, x2, x3] st h else Run M_X1_canBe 28 [x0, x1, x2, x3] st h := R_if_le d_X1_canBe_25 (by decide)
theorem d_X1_canBe_28 : decode (mB M_X1_canBe) 28 = .ok (.iconst 1, 1) := by decide +kernel
theorem r_X1_canBe_28 {x0 x1 x2 x3 : Value} {st : List Value} {h : AH} : Run M_X1_canBe 28 [x0, x1, x2, x3] st h = Run M_X1_canBe 29 [x0, x1, x2, x3] (.int (nI 1) :: st) h := R_iconst d_X1_canBe_28 (by decide)
theorem d_X1_canBe_29 : decode (mB M_X1_canBe) 29 = .ok (.goto 12, 3) := by decide +kernel
theorem r_X1_canBe_29 {x0 x1 x2 x3 : Value} {st : List Value} {h : AH} : Run M_X1_canBe 29 [x0, x1, x2, x3] st h = Run M_X1_canBe 41 [x0, x1, x2, x3] st h := R_goto d_X1_canBe_29 (by decide)
theorem d_X1_canBe_32 : decode (mB M_X1_canBe) 32 = .ok (.iconst 0, 1) := by decide +kernel
theorem r_X1_canBe_32 {x0 x1 x2 x3 : Value} {st : List Value} {h : AH} : Run M_X1_canBe 32 [x0, x1, x2, x3] st h = Run M_X1_canBe 33 [x0, x1, x2, x3] (.int (nI 0) :: st) h := R_iconst d_X1_canBe_32 (by decide)
theorem d_X1_canBe_33 : decode (mB M_X1_canBe) 33 = .ok (.goto 8, 3) := by decide +kernel
theorem r_X1_canBe_33 {x0 x1 x2 x3 : Value} {st : List Value} {h : AH} : Run M_X1_canBe 33 [x0, x1, x2, x3] st h = Run M_X1_canBe 41 [x0, x1, x2, x3] st h := R_goto d_X1_canBe_33 (by decide)
theorem d_X1_canBe_36 : decode (mB M_X1_canBe) 36 = .ok (.aload_n 3, 1) := by decide +kernel
theorem r_X1_canBe_36 {x0 x1 x2 : Value} {a : Nat} {st : List Value} {h : AH} : Run M_X1_canBe 36 [x0, x1, x2, .ref a] st h = Run M_X1_canBe 37 [x0, x1, x2, .ref a] (.ref a :: st) h := R_aload_n d_X1_canBe_36 rfl
theorem d_X1_canBe_37 : decode (mB M_X1_canBe) 37 = .ok (.iload_n 2, 1) := by decide +kernel
theorem r_X1_canBe_37 {x0 x1 x3 : Value} {a : Int32} {st : List Value} {h : AH} : Run M_X1_canBe 37 [x0, x1, .int a, x3] st h = Run M_X1_canBe 38 [x0, x1, .int a, x3] (.int a :: st) h := R_iload_n d_X1_canBe_37 rfl
theorem d_X1_canBe_38 : decode (mB M_X1_canBe) 38 = .ok (.invokevirtual 44, 3) := by decide +kernel
theorem r_X1_canBe_38 {x0 x1 x2 x3 : Value} {p0 : Int32} {a : Nat} {h : AH} : Run M_X1_canBe 38 [x0, x1, x2, x3] (.int p0 :: .ref a :: []) h = if refO h 6 (some (.ref a)) = true then (if (Call M_X6_hasLength h [.ref a, .int p0]).isSome = true then Run M_X1_canBe 41 [x0, x1, x2, x3] (rL (Call M_X6_hasLength h [.ref a, .int p0]) ++ []) (cH (Call M_X6_hasLength h [.ref a, .int p0])) else none) else none := R_virt d_X1_canBe_38 rfl rfl rfl rfl rfl (Nat.le_of_ble_eq_true rfl)
theorem d_X1_canBe_41 : decode (mB M_X1_canBe) 41 = .ok (.ireturn, 1) := by decide +kernel
theorem r_X1_canBe_41_0 {x0 x1 x2 x3 : Value} {h : AH} : Run M_X1_canBe 41 [x0, x1, x2, x3] [.int (nI 0)] h = some (h, some (.int (nI 0))) := R_ireturn d_X1_canBe_41 rfl (by decide)
theorem r_X1_canBe_41_1 {x0 x1 x2 x3 : Value} {h : AH} : Run M_X1_canBe 41 [x0, x1, x2, x3] [.int (nI 1)] h = some (h, some (.int (nI 1))) := R_ireturn d_X1_canBe_41 rfl (by decide)
theorem r_X1_canBe_41_c {x0 x1 x2 x3 : Value} {c : Prop} [Decidable c] {h : AH} : Run M_X1_canBe 41 [x0, x1, x2, x3] [.int (bI c)] h = some (h, some (.int (bI c))) := R_ireturn d_X1_canBe_41 rfl narrow_bI
theorem d_X3_init_0 : decode (mB M_X3_init) 0 = .ok (.aload_n 0, 1) := by decide +kernel
theorem r_X3_init_0 {a : Nat} {st : List Value} {h : AH} : Run M_X3_init 0 [.ref a] st h = Run M_X3_init 1 [.ref a] (.ref a :: st) h := R_aload_n d_X3_init_0 rfl
theorem d_X3_init_1 : decode (mB M_X3_init) 1 = .ok (.invokespecial 3, 3) := by decide +kernel
theorem r_X3_init_1 {x0 : Value} {a : Nat} {h : AH} : Run M_X3_init 1 [x0] (.ref a :: []) h = Run M_X3_init 4 [x0] [] h := R_obj d_X3_init_1 rfl rfl ⟨by decide, Nat.le_of_ble_eq_true rfl, by decide, by decide⟩
theorem d_X3_init_4 : decode (mB M_X3_init) 4 = .ok (.aload_n 0, 1) := by decide +kernel
theorem r_X3_init_4 {a : Nat} {st : List Value} {h : AH} : Run M_X3_init 4 [.ref a] st h = Run M_X3_init 5 [.ref a] (.ref a :: st) h := R_aload_n d_X3_init_4 rfl
theorem d_X3_init_5 : decode (mB M_X3_init) 5 = .ok (.bipush 12, 2) := by decide +kernel
theorem r_X3_init_5 {x0 : Value} {st : List Value} {h : AH} : Run M_X3_init 5 [x0] st h = Run M_X3_init 7 [x0] (.int (nI 12) :: st) h := R_bipush d_X3_init_5 (by decide)
theorem d_X3_init_7 : decode (mB M_X3_init) 7 = .ok (.newarray .int, 2) := by decide +kernel
theorem r_X3_init_7 {x0 : Value} {st : List Value} {h : AH} : Run M_X3_init 7 [x0] (.int (nI 12) :: st) h = Run M_X3_init 9 [x0] (.ref h.1 :: st) (hnew h 12 (iA 12 (fun _ => 0))) := R_newarray d_X3_init_7 rfl ⟨by decide, by decide⟩ (by decide) rfl
theorem d_X3_init_9 : decode (mB M_X3_init) 9 = .ok (.putfield 9, 3) := by decide +kernel
theorem r_X3_init_9 {x0 : Value} {v : Nat} {a : Nat} {st : List Value} {h : AH} : Run M_X3_init 9 [x0] (.ref v :: .ref a :: st) h = if (pF h a 3 0 (.ref v)).isSome = true then Run M_X3_init 12 [x0] st ((pF h a 3 0 (.ref v)).getD h) else none := R_putfield d_X3_init_9 rfl (okP_arr rfl (Or.inr ⟨rfl, rfl⟩))
theorem d_X3_init_12 : decode (mB M_X3_init) 12 = .ok (.aload_n 0, 1) := by decide +kernel
theorem r_X3_init_12 {a : Nat} {st : List Value} {h : AH} : Run M_X3_init 12 [.ref a] st h = Run M_X3_init 13 [.ref a] (.ref a :: st) h := R_aload_n d_X3_init_12 rfl
theorem d_X3_init_13 : decode (mB M_X3_init) 13 = .ok (.bipush 12, 2) := by decide +kernel
theorem r_X3_init_13 {x0 : Value} {st : List Value} {h : AH} : Run M_X3_init 13 [x0] st h = Run M_X3_init 15 [x0] (.int (nI 12) :: st) h := R_bipush d_X3_init_13 (by decide)
theorem d_X3_init_15 : decode (mB M_X3_init) 15 = .ok (.newarray .int, 2) := by decide +kernel
theorem r_X3_init_15 {x0 : Value} {st : List Value} {h : AH} : Run M_X3_init 15 [x0] (.int (nI 12) :: st) h = Run M_X3_init 17 [x0] (.ref h.1 :: st) (hnew h 12 (iA 12 (fun _ => 0))) := R_newarray d_X3_init_15 rfl ⟨by decide, by decide⟩ (by decide) rfl
theorem d_X3_init_17 : decode (mB M_X3_init) 17 = .ok (.putfield 15, 3) := by decide +kernel
theorem r_X3_init_17 {x0 : Value} {v : Nat} {a : Nat} {st : List Value} {h : AH} : Run M_X3_init 17 [x0] (.ref v :: .ref a :: st) h = if (pF h a 3 1 (.ref v)).isSome = true then Run M_X3_init 20 [x0] st ((pF h a 3 1 (.ref v)).getD h) else none := R_putfield d_X3_init_17 rfl (okP_arr rfl (Or.inr ⟨rfl, rfl⟩))
theorem d_X3_init_20 : decode (mB M_X3_init) 20 = .ok (.return_, 1) := by decide +kernel
theorem r_X3_init_20 {x0 : Value} {h : AH} : Run M_X3_init 20 [x0] [] h = some (h, none) := R_return d_X3_init_20 rfl
theorem d_X3_put_0 : decode (mB M_X3_put) 0 = .ok (.aload_n 0, 1) := by decide +kernel
theorem r_X3_put_0 {x1 x2 : Value} {a : Nat} {st : List Value} {h : AH} : Run M_X3_put 0 [.ref a, x1, x2] st h = Run M_X3_put 1 [.ref a, x1, x2] (.ref a :: st) h := R_aload_n d_X3_put_0 rfl
theorem d_X3_put_1 : decode (mB M_X3_put) 1 = .ok (.getfield 18, 3) := by decide +kernel
theorem r_X3_put_1 {x0 x1 x2 : Value} {a : Nat} {st : List Value} {h : AH} : Run M_X3_put 1 [x0, x1, x2] (.ref a :: st) h = if (gF h a 3 2).isSome = true then Run M_X3_put 4 [x0, x1, x2] ((gF h a 3 2).getD .null :: st) h else none := R_getfield d_X3_put_1 rfl
theorem d_X3_put_4 : decode (mB M_X3_put) 4 = .ok (.bipush 12, 2) := by decide +kernel
theorem r_X3_put_4 {x0 x1 x2 : Value} {st : List Value} {h : AH} : Run M_X3_put 4 [x0, x1, x2] st h = Run M_X3_put 6 [x0, x1, x2] (.int (nI 12) :: st) h := R_bipush d_X3_put_4 (by decide)
theorem d_X3_put_6 : decode (mB M_X3_put) 6 = .ok (.if_icmp .lt 5, 3) := by decide +kernel
theorem r_X3_put_6 {x0 x1 x2 : Value} {x y : Int32} {st : List Value} {h : AH} : Run M_X3_put 6 [x0, x1, x2] (.int y :: .int x :: st) h = if x < y then Run M_X3_put 11 [x0, x1, x2] st h else Run M_X3_put 9 [x0, x1, x2] st h := R_icmp_lt d_X3_put_6 (by decide)
theorem d_X3_put_9 : decode (mB M_X3_put) 9 = .ok (.iconst 0, 1) := by decide +kernel
theorem r_X3_put_9 {x0 x1 x2 : Value} {st : List Value} {h : AH} : Run M_X3_put 9 [x0, x1, x2] st h = Run M_X3_put 10 [x0, x1, x2] (.int (nI 0) :: st) h := R_iconst d_X3_put_9 (by decide)
theorem d_X3_put_10 : decode (mB M_X3_put) 10 = .ok (.ireturn, 1) := by decide +kernel
theorem r_X3_put_10_0 {x0 x1 x2 : Value} {h : AH} : Run M_X3_put 10 [x0, x1, x2] [.int (nI 0)] h = some (h, some (.int (nI 0))) := R_ireturn d_X3_put_10 rfl (by decide)
theorem r_X3_put_10_1 {x0 x1 x2 : Value} {h : AH} : Run M_X3_put 10 [x0, x1, x2] [.int (nI 1)] h = some (h, some (.int (nI 1))) := R_ireturn d_X3_put_10 rfl (by decide)
theorem r_X3_put_10_c {x0 x1 x2 : Value} {c : Prop} [Decidable c] {h : AH} : Run M_X3_put 10 [x0, x1, x2] [.int (bI c)] h = some (h, some (.int (bI c))) := R_ireturn d_X3_put_10 rfl narrow_bI
theorem d_X3_put_11 : decode (mB M_X3_put) 11 = .ok (.aload_n 0, 1) := by decide +kernel
theorem r_X3_put_11 {x1 x2 : Value} {a : Nat} {st : List Value} {h : AH} : Run M_X3_put 11 [.ref a, x1, x2] st h = Run M_X3_put 12 [.ref a, x1, x2] (.ref a :: st) h := R_aload_n d_X3_put_11 rfl
theorem d_X3_put_12 : decode (mB M_X3_put) 12 = .ok (.getfield 9, 3) := by decide +kernel
theorem r_X3_put_12 {x0 x1 x2 : Value} {a : Nat} {st : List Value} {h : AH} : Run M_X3_put 12 [x0, x1, x2] (.ref a :: st) h = if (gF h a 3 0).isSome = true then Run M_X3_put 15 [x0, x1, x2] ((gF h a 3 0).getD .null :: st) h else none := R_getfield d_X3_put_12 rfl
theorem d_X3_put_15 : decode (mB M_X3_put) 15 = .ok (.aload_n 0, 1) := by decide +kernel
theorem r_X3_put_15 {x1 x2 : Value} {a : Nat} {st : List Value} {h : AH} : Run M_X3_put 15 [.ref a, x1, x2] st h = Run M_X3_put 16 [.ref a, x1, x2] (.ref a :: st) h := R_aload_n d_X3_put_15 rfl
theorem d_X3_put_16 : decode (mB M_X3_put) 16 = .ok (.getfield 18, 3) := by decide +kernel
theorem r_X3_put_16 {x0 x1 x2 : Value} {a : Nat} {st : List Value} {h : AH} : Run M_X3_put 16 [x0, x1, x2] (.ref a :: st) h = if (gF h a 3 2).isSome = true then Run M_X3_put 19 [x0, x1, x2] ((gF h a 3 2).getD .null :: st) h else none := R_getfield d_X3_put_16 rfl
theorem d_X3_put_19 : decode (mB M_X3_put) 19 = .ok (.iload_n 1, 1) := by decide +kernel
theorem r_X3_put_19 {x0 x2 : Value} {a : Int32} {st : List Value} {h : AH} : Run M_X3_put 19 [x0, .int a, x2] st h = Run M_X3_put 20 [x0, .int a, x2] (.int a :: st) h := R_iload_n d_X3_put_19 rfl
theorem d_X3_put_20 : decode (mB M_X3_put) 20 = .ok (.iastore, 1) := by decide +kernel
theorem r_X3_put_20 {x0 x1 x2 : Value} {a : Nat} {i x : Int32} {st : List Value} {h : AH} : Run M_X3_put 20 [x0, x1, x2] (.int x :: .int i :: .ref a :: st) h = if (pI 0 h a i x).isSome = true then Run M_X3_put 21 [x0, x1, x2] st ((pI 0 h a i x).getD h) else none := R_iastore d_X3_put_20
theorem d_X3_put_21 : decode (mB M_X3_put) 21 = .ok (.aload_n 0, 1) := by decide +kernel
theorem r_X3_put_21 {x1 x2 : Value} {a : Nat} {st : List Value} {h : AH} : Run M_X3_put 21 [.ref a, x1, x2] st h = Run M_X3_put 22 [.ref a, x1, x2] (.ref a :: st) h := R_aload_n d_X3_put_21 rfl
theorem d_X3_put_22 : decode (mB M_X3_put) 22 = .ok (.getfield 15, 3) := by decide +kernel
theorem r_X3_put_22 {x0 x1 x2 : Value} {a : Nat} {st : List Value} {h : AH} : Run M_X3_put 22 [x0, x1, x2] (.ref a :: st) h = if (gF h a 3 1).isSome = true then Run M_X3_put 25 [x0, x1, x2] ((gF h a 3 1).getD .null :: st) h else none := R_getfield d_X3_put_22 rfl
theorem d_X3_put_25 : decode (mB M_X3_put) 25 = .ok (.aload_n 0, 1) := by decide +kernel
theorem r_X3_put_25 {x1 x2 : Value} {a : Nat} {st : List Value} {h : AH} : Run M_X3_put 25 [.ref a, x1, x2] st h = Run M_X3_put 26 [.ref a, x1, x2] (.ref a :: st) h := R_aload_n d_X3_put_25 rfl
theorem d_X3_put_26 : decode (mB M_X3_put) 26 = .ok (.getfield 18, 3) := by decide +kernel
theorem r_X3_put_26 {x0 x1 x2 : Value} {a : Nat} {st : List Value} {h : AH} : Run M_X3_put 26 [x0, x1, x2] (.ref a :: st) h = if (gF h a 3 2).isSome = true then Run M_X3_put 29 [x0, x1, x2] ((gF h a 3 2).getD .null :: st) h else none := R_getfield d_X3_put_26 rfl
theorem d_X3_put_29 : decode (mB M_X3_put) 29 = .ok (.iload_n 2, 1) := by decide +kernel
theorem r_X3_put_29 {x0 x1 : Value} {a : Int32} {st : List Value} {h : AH} : Run M_X3_put 29 [x0, x1, .int a] st h = Run M_X3_put 30 [x0, x1, .int a] (.int a :: st) h := R_iload_n d_X3_put_29 rfl
theorem d_X3_put_30 : decode (mB M_X3_put) 30 = .ok (.iastore, 1) := by decide +kernel
theorem r_X3_put_30 {x0 x1 x2 : Value} {a : Nat} {i x : Int32} {st : List Value} {h : AH} : Run M_X3_put 30 [x0, x1, x2] (.int x :: .int i :: .ref a :: st) h = if (pI 0 h a i x).isSome = true then Run M_X3_put 31 [x0, x1, x2] st ((pI 0 h a i x).getD h) else none := R_iastore d_X3_put_30
theorem d_X3_put_31 : decode (mB M_X3_put) 31 = .ok (.aload_n 0, 1) := by decide +kernel
theorem r_X3_put_31 {x1 x2 : Value} {a : Nat} {st : List Value} {h : AH} : Run M_X3_put 31 [.ref a, x1, x2] st h = Run M_X3_put 32 [.ref a, x1, x2] (.ref a :: st) h := R_aload_n d_X3_put_31 rfl
theorem d_X3_put_32 : decode (mB M_X3_put) 32 = .ok (.dup, 1) := by decide +kernel
theorem r_X3_put_32 {x0 x1 x2 : Value} {x : Nat} {st : List Value} {h : AH} : Run M_X3_put 32 [x0, x1, x2] (.ref x :: st) h = Run M_X3_put 33 [x0, x1, x2] (.ref x :: .ref x :: st) h := R_dupr d_X3_put_32
theorem d_X3_put_33 : decode (mB M_X3_put) 33 = .ok (.getfield 18, 3) := by decide +kernel
theorem r_X3_put_33 {x0 x1 x2 : Value} {a : Nat} {st : List Value} {h : AH} : Run M_X3_put 33 [x0, x1, x2] (.ref a :: st) h = if (gF h a 3 2).isSome = true then Run M_X3_put 36 [x0, x1, x2] ((gF h a 3 2).getD .null :: st) h else none := R_getfield d_X3_put_33 rfl
theorem d_X3_put_36 : decode (mB M_X3_put) 36 = .ok (.iconst 1, 1) := by decide +kernel
theorem r_X3_put_36 {x0 x1 x2 : Value} {st : List Value} {h : AH} : Run M_X3_put 36 [x0, x1, x2] st h = Run M_X3_put 37 [x0, x1, x2] (.int (nI 1) :: st) h := R_iconst d_X3_put_36 (by decide)
theorem d_X3_put_37 : decode (mB M_X3_put) 37 = .ok (.iadd, 1) := by decide +kernel
theorem r_X3_put_37 {x0 x1 x2 : Value} {x y : Int32} {st : List Value} {h : AH} : Run M_X3_put 37 [x0, x1, x2] (.int y :: .int x :: st) h = Run M_X3_put 38 [x0, x1, x2] (.int (x + y) :: st) h := R_iadd d_X3_put_37
theorem d_X3_put_38 : decode (mB M_X3_put) 38 = .ok (.putfield 18, 3) := by decide +kernel
theorem r_X3_put_38 {x0 x1 x2 : Value} {v : Int32} {a : Nat} {st : List Value} {h : AH} : Run M_X3_put 38 [x0, x1, x2] (.int v :: .ref a :: st) h = if (pF h a 3 2 (.int v)).isSome = true then Run M_X3_put 41 [x0, x1, x2] st ((pF h a 3 2 (.int v)).getD h) else none := R_putfield d_X3_put_38 rfl (okP_int rfl rfl)
theorem d_X3_put_41 : decode (mB M_X3_put) 41 = .ok (.iconst 1, 1) := by decide +kernel
theorem r_X3_put_41 {x0 x1 x2 : Value} {st : List Value} {h : AH} : Run M_X3_put 41 [x0, x1, x2] st h = Run M_X3_put 42 [x0, x1, x2] (.int (nI 1) :: st) h := R_iconst d_X3_put_41 (by decide)
theorem d_X3_put_42 : decode (mB M_X3_put) 42 = .ok (.ireturn, 1) := by decide +kernel
theorem r_X3_put_42_0 {x0 x1 x2 : Value} {h : AH} : Run M_X3_put 42 [x0, x1, x2] [.int (nI 0)] h = some (h, some (.int (nI 0))) := R_ireturn d_X3_put_42 rfl (by decide)
theorem r_X3_put_42_1 {x0 x1 x2 : Value} {h : AH} : Run M_X3_put 42 [x0, x1, x2] [.int (nI 1)] h = some (h, some (.int (nI 1))) := R_ireturn d_X3_put_42 rfl (by decide)
theorem r_X3_put_42_c {x0 x1 x2 : Value} {c : Prop} [Decidable c] {h : AH} : Run M_X3_put 42 [x0, x1, x2] [.int (bI c)] h = some (h, some (.int (bI c))) := R_ireturn d_X3_put_42 rfl narrow_bI
theorem d_X3_first_0 : decode (mB M_X3_first) 0 = .ok (.iconst (-1), 1) := by decide +kernel
theorem r_X3_first_0 {x0 x1 x2 : Value} {st : List Value} {h : AH} : Run M_X3_first 0 [x0, x1, x2] st h = Run M_X3_first 1 [x0, x1, x2] (.int (-1) :: st) h := R_iconst d_X3_first_0 (by decide)
theorem d_X3_first_1 : decode (mB M_X3_first) 1 = .ok (.istore_n 1, 1) := by decide +kernel
theorem r_X3_first_1 {x0 x1 x2 : Value} {a : Int32} {st : List Value} {h : AH} (hc : x0.category = 1) : Run M_X3_first 1 [x0, x1, x2] (.int a :: st) h = Run M_X3_first 2 [x0, .int a, x2] st h := R_istore_n d_X3_first_1 (Nat.lt_of_lt_of_le (by decide : 1 < 3) (Nat.le_refl 3)) (catP_of rfl hc)
theorem d_X3_first_2 : decode (mB M_X3_first) 2 = .ok (.iconst 0, 1) := by decide +kernel
theorem r_X3_first_2 {x0 x1 x2 : Value} {st : List Value} {h : AH} : Run M_X3_first 2 [x0, x1, x2] st h = Run M_X3_first 3 [x0, x1, x2] (.int (nI 0) :: st) h := R_iconst d_X3_first_2 (by decide)
theorem d_X3_first_3 : decode (mB M_X3_first) 3 = .ok (.istore_n 2, 1) := by decide +kernel
theorem r_X3_first_3 {x0 x1 x2 : Value} {a : Int32} {st : List Value} {h : AH} (hc : x1.category = 1) : Run M_X3_first 3 [x0, x1, x2] (.int a :: st) h = Run M_X3_first 4 [x0, x1, .int a] st h := R_istore_n d_X3_first_3 (Nat.lt_of_lt_of_le (by decide : 2 < 3) (Nat.le_refl 3)) (catP_of rfl hc)
theorem d_X3_first_4 : decode (mB M_X3_first) 4 = .ok (.iload_n 2, 1) := by decide +kernel
theorem r_X3_first_4 {x0 x1 : Value} {a : Int32} {st : List Value} {h : AH} : Run M_X3_first 4 [x0, x1, .int a] st h = Run M_X3_first 5 [x0, x1, .int a] (.int a :: st) h := R_iload_n d_X3_first_4 rfl
theorem d_X3_first_5 : decode (mB M_X3_first) 5 = .ok (.aload_n 0, 1) := by decide +kernel
theorem r_X3_first_5 {x1 x2 : Value} {a : Nat} {st : List Value} {h : AH} : Run M_X3_first 5 [.ref a, x1, x2] st h = Run M_X3_first 6 [.ref a, x1, x2] (.ref a :: st) h := R_aload_n d_X3_first_5 rfl
theorem d_X3_first_6 : decode (mB M_X3_first) 6 = .ok (.getfield 18, 3) := by decide +kernel
theorem r_X3_first_6 {x0 x1 x2 : Value} {a : Nat} {st : List Value} {h : AH} : Run M_X3_first 6 [x0, x1, x2] (.ref a :: st) h = if (gF h a 3 2).isSome = true then Run M_X3_first 9 [x0, x1, x2] ((gF h a 3 2).getD .null :: st) h else none := R_getfield d_X3_first_6 rfl
theorem d_X3_first_9 : decode (mB M_X3_first) 9 = .ok (.if_icmp .ge 25, 3) := by decide +kernel
theorem r_X3_first_9 {x0 x1 x2 : Value} {x y : Int32} {st : List Value} {h : AH} : Run M_X3_first 9 [x0, x1, x2] (.int y :: .int x :: st) h = if y ≤ x then Run M_X3_first 34 [x0, x1, x2] st h else Run M_X3_first 12 [x0, x1, x2] st h := R_icmp_ge d_X3_first_9 (by decide)
theorem d_X3_first_12 : decode (mB M_X3_first) 12 = .ok (.iload_n 1, 1) := by decide +kernel
theorem r_X3_first_12 {x0 x2 : Value} {a : Int32} {st : List Value} {h : AH} : Run M_X3_first 12 [x0, .int a, x2] st h = Run M_X3_first 13 [x0, .int a, x2] (.int a :: st) h := R_iload_n d_X3_first_12 rfl
theorem d_X3_first_13 : decode (mB M_X3_first) 13 = .ok (.iconst (-1), 1) := by decide +kernel
theorem r_X3_first_13 {x0 x1 x2 : Value} {st : List Value} {h : AH} : Run M_X3_first 13 [x0, x1, x2] st h = Run M_X3_first 14 [x0, x1, x2] (.int (-1) :: st) h := R_iconst d_X3_first_13 (by decide)
theorem d_X3_first_14 : decode (mB M_X3_first) 14 = .ok (.if_icmp .eq 12, 3) := by decide +kernel
theorem r_X3_first_14 {x0 x1 x2 : Value} {x y : Int32} {st : List Value} {h : AH} : Run M_X3_first 14 [x0, x1, x2] (.int y :: .int x :: st) h = if x = y then Run M_X3_first 26 [x0, x1, x2] st h else Run M_X3_first 17 [x0, x1, x2] st h := R_icmp_eq d_X3_first_14 (by decide)
theorem d_X3_first_17 : decode (mB M_X3_first) 17 = .ok (.aload_n 0, 1) := by decide +kernel
theorem r_X3_first_17 {x1 x2 : Value} {a : Nat} {st : List Value} {h : AH} : Run M_X3_first 17 [.ref a, x1, x2] st h = Run M_X3_first 18 [.ref a, x1, x2] (.ref a :: st) h := R_aload_n d_X3_first_17 rfl
theorem d_X3_first_18 : decode (mB M_X3_first) 18 = .ok (.iload_n 2, 1) := by decide +kernel
theorem r_X3_first_18 {x0 x1 : Value} {a : Int32} {st : List Value} {h : AH} : Run M_X3_first 18 [x0, x1, .int a] st h = Run M_X3_first 19 [x0, x1, .int a] (.int a :: st) h := R_iload_n d_X3_first_18 rfl
theorem d_X3_first_19 : decode (mB M_X3_first) 19 = .ok (.iload_n 1, 1) := by decide +kernel
theorem r_X3_first_19 {x0 x2 : Value} {a : Int32} {st : List Value} {h : AH} : Run M_X3_first 19 [x0, .int a, x2] st h = Run M_X3_first 20 [x0, .int a, x2] (.int a :: st) h := R_iload_n d_X3_first_19 rfl
theorem d_X3_first_20 : decode (mB M_X3_first) 20 = .ok (.invokevirtual 22, 3) := by decide +kernel
theorem r_X3_first_20 {x0 x1 x2 : Value} {p0 : Int32} {p1 : Int32} {a : Nat} {h : AH} : Run M_X3_first 20 [x0, x1, x2] (.int p1 :: .int p0 :: .ref a :: []) h = if refO h 3 (some (.ref a)) = true then (if (Call M_X3_isAhead h [.ref a, .int p0, .int p1]).isSome = true then Run M_X3_first 23 [x0, x1, x2] (rL (Call M_X3_isAhead h [.ref a, .int p0, .int p1]) ++ []) (cH (Call M_X3_isAhead h [.ref a, .int p0, .int p1])) else none) else none := R_virt d_X3_first_20 rfl rfl rfl rfl rfl (Nat.le_of_ble_eq_true rfl)
theorem d_X3_first_23 : decode (mB M_X3_first) 23 = .ok (.ifCond .eq 5, 3) := by decide +kernel
theorem r_X3_first_23 {x0 x1 x2 : Value} {x : Int32} {st : List Value} {h : AH} : Run M_X3_first 23 [x0, x1, x2] (.int x :: st) h = if x = nI 0 then Run M_X3_first 28 [x0, x1, x2] st h else Run M_X3_first 26 [x0, x1, x2] st h := R_if_eq d_X3_first_23 (by decide)
theorem d_X3_first_26 : decode (mB M_X3_first) 26 = .ok (.iload_n 2, 1) := by decide +kernel
theorem r_X3_first_26 {x0 x1 : Value} {a : Int32} {st : List Value} {h : AH} : Run M_X3_first 26 [x0, x1, .int a] st h = Run M_X3_first 27 [x0, x1, .int a] (.int a :: st) h := R_iload_n d_X3_first_26 rfl
theorem d_X3_first_27 : decode (mB M_X3_first) 27 = .ok (.istore_n 1, 1) := by decide +kernel
theorem r_X3_first_27 {x0 x1 x2 : Value} {a : Int32} {st : List Value} {h : AH} (hc : x0.category = 1) : Run M_X3_first 27 [x0, x1, x2] (.int a :: st) h = Run M_X3_first 28 [x0, .int a, x2] st h := R_istore_n d_X3_first_27 (Nat.lt_of_lt_of_le (by decide : 1 < 3) (Nat.le_refl 3)) (catP_of rfl hc)
theorem d_X3_first_28 : decode (mB M_X3_first) 28 = .ok (.iinc 2 1, 3) := by decide +kernel
theorem r_X3_first_28 {x0 x1 : Value} {a : Int32} {st : List Value} {h : AH} (hc : x1.category = 1) : Run M_X3_first 28 [x0, x1, .int a] st h = Run M_X3_first 31 [x0, x1, .int (a + (nI 1))] st h := R_iinc d_X3_first_28 (by decide) rfl (catP_of rfl hc)
theorem d_X3_first_31 : decode (mB M_X3_first) 31 = .ok (.goto (-27), 3) := by decide +kernel
theorem r_X3_first_31 {x0 x1 x2 : Value} {st : List Value} {h : AH} : Run M_X3_first 31 [x0, x1, x2] st h = Run M_X3_first 4 [x0, x1, x2] st h := R_goto d_X3_first_31 (by decide)
theorem d_X3_first_34 : decode (mB M_X3_first) 34 = .ok (.iload_n 1, 1) := by decide +kernel
theorem r_X3_first_34 {x0 x2 : Value} {a : Int32} {st : List Value} {h : AH} : Run M_X3_first 34 [x0, .int a, x2] st h = Run M_X3_first 35 [x0, .int a, x2] (.int a :: st) h := R_iload_n d_X3_first_34 rfl
theorem d_X3_first_35 : decode (mB M_X3_first) 35 = .ok (.ireturn, 1) := by decide +kernel
theorem r_X3_first_35 {x0 x1 x2 : Value} {v : Int32} {h : AH} : Run M_X3_first 35 [x0, x1, x2] [.int v] h = some (h, some (.int v)) := R_ireturn d_X3_first_35 rfl rfl
theorem d_X3_isAhead_0 : decode (mB M_X3_isAhead) 0 = .ok (.aload_n 0, 1) := by decide +kernel
theorem r_X3_isAhead_0 {x1 x2 : Value} {a : Nat} {st : List Value} {h : AH} : Run M_X3_isAhead 0 [.ref a, x1, x2] st h = Run M_X3_isAhead 1 [.ref a, x1, x2] (.ref a :: st) h := R_aload_n d_X3_isAhead_0 rfl
theorem d_X3_isAhead_1 : decode (mB M_X3_isAhead) 1 = .ok (.getfield 15, 3) := by decide +kernel
theorem r_X3_isAhead_1 {x0 x1 x2 : Value} {a : Nat} {st : List Value} {h : AH} : Run M_X3_isAhead 1 [x0, x1, x2] (.ref a :: st) h = if (gF h a 3 1).isSome = true then Run M_X3_isAhead 4 [x0, x1, x2] ((gF h a 3 1).getD .null :: st) h else none := R_getfield d_X3_isAhead_1 rfl
theorem d_X3_isAhead_4 : decode (mB M_X3_isAhead) 4 = .ok (.iload_n 1, 1) := by decide +kernel
theorem r_X3_isAhead_4 {x0 x2 : Value} {a : Int32} {st : List Value} {h : AH} : Run M_X3_isAhead 4 [x0, .int a, x2] st h = Run M_X3_isAhead 5 [x0, .int a, x2] (.int a :: st) h := R_iload_n d_X3_isAhead_4 rfl
theorem d_X3_isAhead_5 : decode (mB M_X3_isAhead) 5 = .ok (.iaload, 1) := by decide +kernel
theorem r_X3_isAhead_5 {x0 x1 x2 : Value} {a : Nat} {i : Int32} {st : List Value} {h : AH} : Run M_X3_isAhead 5 [x0, x1, x2] (.int i :: .ref a :: st) h = if (gI 0 h a i).isSome = true then Run M_X3_isAhead 6 [x0, x1, x2] (.int ((gI 0 h a i).getD 0) :: st) h else none := R_iaload d_X3_isAhead_5
theorem d_X3_isAhead_6 : decode (mB M_X3_isAhead) 6 = .ok (.aload_n 0, 1) := by decide +kernel
theorem r_X3_isAhead_6 {x1 x2 : Value} {a : Nat} {st : List Value} {h : AH} : Run M_X3_isAhead 6 [.ref a, x1, x2] st h = Run M_X3_isAhead 7 [.ref a, x1, x2] (.ref a :: st) h := R_aload_n d_X3_isAhead_6 rfl
theorem d_X3_isAhead_7 : decode (mB M_X3_isAhead) 7 = .ok (.getfield 15, 3) := by decide +kernel
theorem r_X3_isAhead_7 {x0 x1 x2 : Value} {a : Nat} {st : List Value} {h : AH} : Run M_X3_isAhead 7 [x0, x1, x2] (.ref a :: st) h = if (gF h a 3 1).isSome = true then Run M_X3_isAhead 10 [x0, x1, x2] ((gF h a 3 1).getD .null :: st) h else none := R_getfield d_X3_isAhead_7 rfl
theorem d_X3_isAhead_10 : decode (mB M_X3_isAhead) 10 = .ok (.iload_n 2, 1) := by decide +kernel
theorem r_X3_isAhead_10 {x0 x1 : Value} {a : Int32} {st : List Value} {h : AH} : Run M_X3_isAhead 10 [x0, x1, .int a] st h = Run M_X3_isAhead 11 [x0, x1, .int a] (.int a :: st) h := R_iload_n d_X3_isAhead_10 rfl
theorem d_X3_isAhead_11 : decode (mB M_X3_isAhead) 11 = .ok (.iaload, 1) := by decide +kernel
theorem r_X3_isAhead_11 {x0 x1 x2 : Value} {a : Nat} {i : Int32} {st : List Value} {h : AH} : Run M_X3_isAhead 11 [x0, x1, x2] (.int i :: .ref a :: st) h = if (gI 0 h a i).isSome = true then Run M_X3_isAhead 12 [x0, x1, x2] (.int ((gI 0 h a i).getD 0) :: st) h else none := R_iaload d_X3_isAhead_11
theorem d_X3_isAhead_12 : decode (mB M_X3_isAhead) 12 = .ok (.if_icmp .lt 33, 3) := by decide +kernel
theorem r_X3_isAhead_12 {x0 x1 x2 : Value} {x y : Int32} {st : List Value} {h : AH} : Run M_X3_isAhead 12 [x0, x1, x2] (.int y :: .int x :: st) h = if x < y then Run M_X3_isAhead 45 [x0, x1, x2] st h else Run M_X3_isAhead 15 [x0, x1, x2] st h := R_icmp_lt d_X3_isAhead_12 (by decide)
theorem d_X3_isAhead_15 : decode (mB M_X3_isAhead) 15 = .ok (.aload_n 0, 1) := by decide +kernel
theorem r_X3_isAhead_15 {x1 x2 : Value} {a : Nat} {st : List Value} {h : AH} : Run M_X3_isAhead 15 [.ref a, x1, x2] st h = Run M_X3_isAhead 16 [.ref a, x1, x2] (.ref a :: st) h := R_aload_n d_X3_isAhead_15 rfl
theorem d_X3_isAhead_16 : decode (mB M_X3_isAhead) 16 = .ok (.getfield 15, 3) := by decide +kernel
theorem r_X3_isAhead_16 {x0 x1 x2 : Value} {a : Nat} {st : List Value} {h : AH} : Run M_X3_isAhead 16 [x0, x1, x2] (.ref a :: st) h = if (gF h a 3 1).isSome = true then Run M_X3_isAhead 19 [x0, x1, x2] ((gF h a 3 1).getD .null :: st) h else none := R_getfield d_X3_isAhead_16 rfl
theorem d_X3_isAhead_19 : decode (mB M_X3_isAhead) 19 = .ok (.iload_n 1, 1) := by decide +kernel
theorem r_X3_isAhead_19 {x0 x2 : Value} {a : Int32} {st : List Value} {h : AH} : Run M_X3_isAhead 19 [x0, .int a, x2] st h = Run M_X3_isAhead 20 [x0, .int a, x2] (.int a :: st) h := R_iload_n d_X3_isAhead_19 rfl
theorem d_X3_isAhead_20 : decode (mB M_X3_isAhead) 20 = .ok (.iaload, 1) := by decide +kernel
theorem r_X3_isAhead_20 {x0 x1 x2 : Value} {a : Nat} {i : Int32} {st : List Value} {h : AH} : Run M_X3_isAhead 20 [x0, x1, x2] (.int i :: .ref a :: st) h = if (gI 0 h a i).isSome = true then Run M_X3_isAhead 21 [x0, x1, x2] (.int ((gI 0 h a i).getD 0) :: st) h else none := R_iaload d_X3_isAhead_20
theorem d_X3_isAhead_21 : decode (mB M_X3_isAhead) 21 = .ok (.aload_n 0, 1) := by decide +kernel
theorem r_X3_isAhead_21 {x1 x2 : Value} {a : Nat} {st : List Value} {h : AH} : Run M_X3_isAhead 21 [.ref a, x1, x2] st h = Run M_X3_isAhead 22 [.ref a, x1, x2] (.ref a :: st) h := R_aload_n d_X3_isAhead_21 rfl
theorem d_X3_isAhead_22 : decode (mB M_X3_isAhead) 22 = .ok (.getfield 15, 3) := by decide +kernel
theorem r_X3_isAhead_22 {x0 x1 x2 : Value} {a : Nat} {st : List Value} {h : AH} : Run M_X3_isAhead 22 [x0, x1, x2] (.ref a :: st) h = if (gF h a 3 1).isSome = true then Run M_X3_isAhead 25 [x0, x1, x2] ((gF h a 3 1).getD .null :: st) h else none := R_getfield d_X3_isAhead_22 rfl
theorem d_X3_isAhead_25 : decode (mB M_X3_isAhead) 25 = .ok (.iload_n 2, 1) := by decide +kernel
theorem r_X3_isAhead_25 {x0 x1 : Value} {a : Int32} {st : List Value} {h : AH} : Run M_X3_isAhead 25 [x0, x1, .int a] st h = Run M_X3_isAhead 26 [x0, x1, .int a] (.int a :: st) h := R_iload_n d_X3_isAhead_25 rfl
theorem d_X3_isAhead_26 : decode (mB M_X3_isAhead) 26 = .ok (.iaload, 1) := by decide +kernel
theorem r_X3_isAhead_26 {x0 x1 x2 : Value} {a : Nat} {i : Int32} {st : List Value} {h : AH} : Run M_X3_isAhead 26 [x0, x1, x2] (.int i :: .ref a :: st) h = if (gI 0 h a i).isSome = true then Run M_X3_isAhead 27 [x0, x1, x2] (.int ((gI 0 h a i).getD 0) :: st) h else none := R_iaload d_X3_isAhead_26
theorem d_X3_isAhead_27 : decode (mB M_X3_isAhead) 27 = .ok (.if_icmp .ne 22, 3) := by decide +kernel
theorem r_X3_isAhead_27 {x0 x1 x2 : Value} {x y : Int32} {st : List Value} {h : AH} : Run M_X3_isAhead 27 [x0, x1, x2] (.int y :: .int x :: st) h = if x = y then Run M_X3_isAhead 30 [x0, x1, x2] st h else Run M_X3_isAhead 49 [x0, x1, x2] st h := R_icmp_ne d_X3_isAhead_27 (by decide)
theorem d_X3_isAhead_30 : decode (mB M_X3_isAhead) 30 = .ok (.aload_n 0, 1) := by decide +kernel
theorem r_X3_isAhead_30 {x1 x2 : Value} {a : Nat} {st : List Value} {h : AH} : Run M_X3_isAhead 30 [.ref a, x1, x2] st h = Run M_X3_isAhead 31 [.ref a, x1, x2] (.ref a :: st) h := R_aload_n d_X3_isAhead_30 rfl
theorem d_X3_isAhead_31 : decode (mB M_X3_isAhead) 31 = .ok (.getfield 9, 3) := by decide +kernel
theorem r_X3_isAhead_31 {x0 x1 x2 : Value} {a : Nat} {st : List Value} {h : AH} : Run M_X3_isAhead 31 [x0, x1, x2] (.ref a :: st) h = if (gF h a 3 0).isSome = true then Run M_X3_isAhead 34 [x0, x1, x2] ((gF h a 3 0).getD .null :: st) h else none := R_getfield d_X3_isAhead_31 rfl
theorem d_X3_isAhead_34 : decode (mB M_X3_isAhead) 34 = .ok (.iload_n 1, 1) := by decide +kernel
theorem r_X3_isAhead_34 {x0 x2 : Value} {a : Int32} {st : List Value} {h : AH} : Run M_X3_isAhead 34 [x0, .int a, x2] st h = Run M_X3_isAhead 35 [x0, .int a, x2] (.int a :: st) h := R_iload_n d_X3_isAhead_34 rfl
theorem d_X3_isAhead_35 : decode (mB M_X3_isAhead) 35 = .ok (.iaload, 1) := by decide +kernel
theorem r_X3_isAhead_35 {x0 x1 x2 : Value} {a : Nat} {i : Int32} {st : List Value} {h : AH} : Run M_X3_isAhead 35 [x0, x1, x2] (.int i :: .ref a :: st) h = if (gI 0 h a i).isSome = true then Run M_X3_isAhead 36 [x0, x1, x2] (.int ((gI 0 h a i).getD 0) :: st) h else none := R_iaload d_X3_isAhead_35
theorem d_X3_isAhead_36 : decode (mB M_X3_isAhead) 36 = .ok (.aload_n 0, 1) := by decide +kernel
theorem r_X3_isAhead_36 {x1 x2 : Value} {a : Nat} {st : List Value} {h : AH} : Run M_X3_isAhead 36 [.ref a, x1, x2] st h = Run M_X3_isAhead 37 [.ref a, x1, x2] (.ref a :: st) h := R_aload_n d_X3_isAhead_36 rfl
theorem d_X3_isAhead_37 : decode (mB M_X3_isAhead) 37 = .ok (.getfield 9, 3) := by decide +kernel
theorem r_X3_isAhead_37 {x0 x1 x2 : Value} {a : Nat} {st : List Value} {h : AH} : Run M_X3_isAhead 37 [x0, x1, x2] (.ref a :: st) h = if (gF h a 3 0).isSome = true then Run M_X3_isAhead 40 [x0, x1, x2] ((gF h a 3 0).getD .null :: st) h else none := R_getfield d_X3_isAhead_37 rfl
theorem d_X3_isAhead_40 : decode (mB M_X3_isAhead) 40 = .ok (.iload_n 2, 1) := by decide +kernel
theorem r_X3_isAhead_40 {x0 x1 : Value} {a : Int32} {st : List Value} {h : AH} : Run M_X3_isAhead 40 [x0, x1, .int a] st h = Run M_X3_isAhead 41 [x0, x1, .int a] (.int a :: st) h := R_iload_n d_X3_isAhead_40 rfl
theorem d_X3_isAhead_41 : decode (mB M_X3_isAhead) 41 = .ok (.iaload, 1) := by decide +kernel
theorem r_X3_isAhead_41 {x0 x1 x2 : Value} {a : Nat} {i : Int32} {st : List Value} {h : AH} : Run M_X3_isAhead 41 [x0, x1, x2] (.int i :: .ref a :: st) h = if (gI 0 h a i).isSome = true then Run M_X3_isAhead 42 [x0, x1, x2] (.int ((gI 0 h a i).getD 0) :: st) h else none := R_iaload d_X3_isAhead_41
theorem d_X3_isAhead_42 : decode (mB M_X3_isAhead) 42 = .ok (.if_icmp .ge 7, 3) := by decide +kernel
theorem r_X3_isAhead_42 {x0 x1 x2 : Value} {x y : Int32} {st : List Value} {h : AH} : Run M_X3_isAhead 42 [x0, x1, x2] (.int y :: .int x :: st) h = if y ≤ x then Run M_X3_isAhead 49 [x0, x1, x2] st h else Run M_X3_isAhead 45 [x0, x1, x2] st h := R_icmp_ge d_X3_isAhead_42 (by decide)
theorem d_X3_isAhead_45 : decode (mB M_X3_isAhead) 45 = .ok (.iconst 1, 1) := by decide +kernel
theorem r_X3_isAhead_45 {x0 x1 x2 : Value} {st : List Value} {h : AH} : Run M_X3_isAhead 45 [x0, x1, x2] st h = Run M_X3_isAhead 46 [x0, x1, x2] (.int (nI 1) :: st) h := R_iconst d_X3_isAhead_45 (by decide)
theorem d_X3_isAhead_46 : decode (mB M_X3_isAhead) 46 = .ok (.goto 4, 3) := by decide +kernel
theorem r_X3_isAhead_46 {x0 x1 x2 : Value} {st : List Value} {h : AH} : Run M_X3_isAhead 46 [x0, x1, x2] st h = Run M_X3_isAhead 50 [x0, x1, x2] st h := R_goto d_X3_isAhead_46 (by decide)
theorem d_X3_isAhead_49 : decode (mB M_X3_isAhead) 49 = .ok (.iconst 0, 1) := by decide +kernel
theorem r_X3_isAhead_49 {x0 x1 x2 : Value} {st : List Value} {h : AH} : Run M_X3_isAhead 49 [x0, x1, x2] st h = Run M_X3_isAhead 50 [x0, x1, x2] (.int (nI 0) :: st) h := R_iconst d_X3_isAhead_49 (by decide)
theorem d_X3_isAhead_50 : decode (mB M_X3_isAhead) 50 = .ok (.ireturn, 1) := by decide +kernel
theorem r_X3_isAhead_50_0 {x0 x1 x2 : Value} {h : AH} : Run M_X3_isAhead 50 [x0, x1, x2] [.int (nI 0)] h = some (h, some (.int (nI 0))) := R_ireturn d_X3_isAhead_50 rfl (by decide)
theorem r_X3_isAhead_50_1 {x0 x1 x2 : Value} {h : AH} : Run M_X3_isAhead 50 [x0, x1, x2] [.int (nI 1)] h = some (h, some (.int (nI 1))) := R_ireturn d_X3_isAhead_50 rfl (by decide)
theorem r_X3_isAhead_50_c {x0 x1 x2 : Value} {c : Prop} [Decidable c] {h : AH} : Run M_X3_isAhead 50 [x0, x1, x2] [.int (bI c)] h = some (h, some (.int (bI c))) := R_ireturn d_X3_isAhead_50 rfl narrow_bI
theorem d_X3_aheadOf_0 : decode (mB M_X3_aheadOf) 0 = .ok (.iconst 0, 1) := by decide +kernel
theorem r_X3_aheadOf_0 {x0 x1 x2 x3 : Value} {st : List Value} {h : AH} : Run M_X3_aheadOf 0 [x0, x1, x2, x3] st h = Run M_X3_aheadOf 1 [x0, x1, x2, x3] (.int (nI 0) :: st) h := R_iconst d_X3_aheadOf_0 (by decide)
theorem d_X3_aheadOf_1 : decode (mB M_X3_aheadOf) 1 = .ok (.istore_n 2, 1) := by decide +kernel
theorem r_X3_aheadOf_1 {x0 x1 x2 x3 : Value} {a : Int32} {st : List Value} {h : AH} (hc : x1.category = 1) : Run M_X3_aheadOf 1 [x0, x1, x2, x3] (.int a :: st) h = Run M_X3_aheadOf 2 [x0, x1, .int a, x3] st h := R_istore_n d_X3_aheadOf_1 (Nat.lt_of_lt_of_le (by decide : 2 < 4) (Nat.le_refl 4)) (catP_of rfl hc)
theorem d_X3_aheadOf_2 : decode (mB M_X3_aheadOf) 2 = .ok (.iconst 0, 1) := by decide +kernel
theorem r_X3_aheadOf_2 {x0 x1 x2 x3 : Value} {st : List Value} {h : AH} : Run M_X3_aheadOf 2 [x0, x1, x2, x3] st h = Run M_X3_aheadOf 3 [x0, x1, x2, x3] (.int (nI 0) :: st) h := R_iconst d_X3_aheadOf_2 (by decide)
theorem d_X3_aheadOf_3 : decode (mB M_X3_aheadOf) 3 = .ok (.istore_n 3, 1) := by decide +kernel
theorem r_X3_aheadOf_3 {x0 x1 x2 x3 : Value} {a : Int32} {st : List Value} {h : AH} (hc : x2.category = 1) : Run M_X3_aheadOf 3 [x0, x1, x2, x3] (.int a :: st) h = Run M_X3_aheadOf 4 [x0, x1, x2, .int a] st h := R_istore_n d_X3_aheadOf_3 (Nat.lt_of_lt_of_le (by decide : 3 < 4) (Nat.le_refl 4)) (catP_of rfl hc)
theorem d_X3_aheadOf_4 : decode (mB M_X3_aheadOf) 4 = .ok (.iload_n 3, 1) := by decide +kernel
theorem r_X3_aheadOf_4 {x0 x1 x2 : Value} {a : Int32} {st : List Value} {h : AH} : Run M_X3_aheadOf 4 [x0, x1, x2, .int a] st h = Run M_X3_aheadOf 5 [x0, x1, x2, .int a] (.int a :: st) h := R_iload_n d_X3_aheadOf_4 rfl
theorem d_X3_aheadOf_5 : decode (mB M_X3_aheadOf) 5 = .ok (.aload_n 0, 1) := by decide +kernel
theorem r_X3_aheadOf_5 {x1 x2 x3 : Value} {a : Nat} {st : List Value} {h : AH} : Run M_X3_aheadOf 5 [.ref a, x1, x2, x3] st h = Run M_X3_aheadOf 6 [.ref a, x1, x2, x3] (.ref a :: st) h := R_aload_n d_X3_aheadOf_5 rfl
theorem d_X3_aheadOf_6 : decode (mB M_X3_aheadOf) 6 = .ok (.getfield 18, 3) := by decide +kernel
theorem r_X3_aheadOf_6 {x0 x1 x2 x3 : Value} {a : Nat} {st : List Value} {h : AH} : Run M_X3_aheadOf 6 [x0, x1, x2, x3] (.ref a :: st) h = if (gF h a 3 2).isSome = true then Run M_X3_aheadOf 9 [x0, x1, x2, x3] ((gF h a 3 2).getD .null :: st) h else none := R_getfield d_X3_aheadOf_6 rfl
theorem d_X3_aheadOf_9 : decode (mB M_X3_aheadOf) 9 = .ok (.if_icmp .ge 22, 3) := by decide +kernel
theorem r_X3_aheadOf_9 {x0 x1 x2 x3 : Value} {x y : Int32} {st : List Value} {h : AH} : Run M_X3_aheadOf 9 [x0, x1, x2, x3] (.int y :: .int x :: st) h = if y ≤ x then Run M_X3_aheadOf 31 [x0, x1, x2, x3] st h else Run M_X3_aheadOf 12 [x0, x1, x2, x3] st h := R_icmp_ge d_X3_aheadOf_9 (by decide)
theorem d_X3_aheadOf_12 : decode (mB M_X3_aheadOf) 12 = .ok (.aload_n 0, 1) := by decide +kernel
theorem r_X3_aheadOf_12 {x1 x2 x3 : Value} {a : Nat} {st : List Value} {h : AH} : Run M_X3_aheadOf 12 [.ref a, x1, x2, x3] st h = Run M_X3_aheadOf 13 [.ref a, x1, x2, x3] (.ref a :: st) h := R_aload_n d_X3_aheadOf_12 rfl
theorem d_X3_aheadOf_13 : decode (mB M_X3_aheadOf) 13 = .ok (.getfield 15, 3) := by decide +kernel
theorem r_X3_aheadOf_13 {x0 x1 x2 x3 : Value} {a : Nat} {st : List Value} {h : AH} : Run M_X3_aheadOf 13 [x0, x1, x2, x3] (.ref a :: st) h = if (gF h a 3 1).isSome = true then Run M_X3_aheadOf 16 [x0, x1, x2, x3] ((gF h a 3 1).getD .null :: st) h else none := R_getfield d_X3_aheadOf_13 rfl
theorem d_X3_aheadOf_16 : decode (mB M_X3_aheadOf) 16 = .ok (.iload_n 3, 1) := by decide +kernel
theorem r_X3_aheadOf_16 {x0 x1 x2 : Value} {a : Int32} {st : List Value} {h : AH} : Run M_X3_aheadOf 16 [x0, x1, x2, .int a] st h = Run M_X3_aheadOf 17 [x0, x1, x2, .int a] (.int a :: st) h := R_iload_n d_X3_aheadOf_16 rfl
theorem d_X3_aheadOf_17 : decode (mB M_X3_aheadOf) 17 = .ok (.iaload, 1) := by decide +kernel
theorem r_X3_aheadOf_17 {x0 x1 x2 x3 : Value} {a : Nat} {i : Int32} {st : List Value} {h : AH} : Run M_X3_aheadOf 17 [x0, x1, x2, x3] (.int i :: .ref a :: st) h = if (gI 0 h a i).isSome = true then Run M_X3_aheadOf 18 [x0, x1, x2, x3] (.int ((gI 0 h a i).getD 0) :: st) h else none := R_iaload d_X3_aheadOf_17
theorem d_X3_aheadOf_18 : decode (mB M_X3_aheadOf) 18 = .ok (.iload_n 1, 1) := by decide +kernel
theorem r_X3_aheadOf_18 {x0 x2 x3 : Value} {a : Int32} {st : List Value} {h : AH} : Run M_X3_aheadOf 18 [x0, .int a, x2, x3] st h = Run M_X3_aheadOf 19 [x0, .int a, x2, x3] (.int a :: st) h := R_iload_n d_X3_aheadOf_18 rfl
theorem d_X3_aheadOf_19 : decode (mB M_X3_aheadOf) 19 = .ok (.if_icmp .ge 6, 3) := by decide +kernel
theorem r_X3_aheadOf_19 {x0 x1 x2 x3 : Value} {x y : Int32} {st : List Value} {h : AH} : Run M_X3_aheadOf 19 [x0, x1, x2, x3] (.int y :: .int x :: st) h = if y ≤ x then Run M_X3_aheadOf 25 [x0, x1, x2, x3] st h else Run M_X3_aheadOf 22 [x0, x1, x2, x3] st h := R_icmp_ge d_X3_aheadOf_19 (by decide)
theorem d_X3_aheadOf_22 : decode (mB M_X3_aheadOf) 22 = .ok (.iinc 2 1, 3) := by decide +kernel
theorem r_X3_aheadOf_22 {x0 x1 x3 : Value} {a : Int32} {st : List Value} {h : AH} (hc : x1.category = 1) : Run M_X3_aheadOf 22 [x0, x1, .int a, x3] st h = Run M_X3_aheadOf 25 [x0, x1, .int (a + (nI 1)), x3] st h := R_iinc d_X3_aheadOf_22 (by decide) rfl (catP_of rfl hc)
theorem d_X3_aheadOf_25 : decode (mB M_X3_aheadOf) 25 = .ok (.iinc 3 1, 3) := by decide +kernel
theorem r_X3_aheadOf_25 {x0 x1 x2 : Value} {a : Int32} {st : List Value} {h : AH} (hc : x2.category = 1) : Run M_X3_aheadOf 25 [x0, x1, x2, .int a] st h = Run M_X3_aheadOf 28 [x0, x1, x2, .int (a + (nI 1))] st h := R_iinc d_X3_aheadOf_25 (by decide) rfl (catP_of rfl hc)
theorem d_X3_aheadOf_28 : decode (mB M_X3_aheadOf) 28 = .ok (.goto (-24), 3) := by decide +kernel
theorem r_X3_aheadOf_28 {x0 x1 x2 x3 : Value} {st : List Value} {h : AH} : Run M_X3_aheadOf 28 [x0, x1, x2, x3] st h = Run M_X3_aheadOf 4 [x0, x1, x2, x3] st h := R_goto d_X3_aheadOf_28 (by decide)
theorem d_X3_aheadOf_31 : decode (mB M_X3_aheadOf) 31 = .ok (.iload_n 2, 1) := by decide +kernel
theorem r_X3_aheadOf_31 {x0 x1 x3 : Value} {a : Int32} {st : List Value} {h : AH} : Run M_X3_aheadOf 31 [x0, x1, .int a, x3] st h = Run M_X3_aheadOf 32 [x0, x1, .int a, x3] (.int a :: st) h := R_iload_n d_X3_aheadOf_31 rfl
theorem d_X3_aheadOf_32 : decode (mB M_X3_aheadOf) 32 = .ok (.ireturn, 1) := by decide +kernel
theorem r_X3_aheadOf_32 {x0 x1 x2 x3 : Value} {v : Int32} {h : AH} : Run M_X3_aheadOf 32 [x0, x1, x2, x3] [.int v] h = some (h, some (.int v)) := R_ireturn d_X3_aheadOf_32 rfl rfl
theorem d_X6_init_0 : decode (mB M_X6_init) 0 = .ok (.aload_n 0, 1) := by decide +kernel
theorem r_X6_init_0 {a : Nat} {st : List Value} {h : AH} : Run M_X6_init 0 [.ref a] st h = Run M_X6_init 1 [.ref a] (.ref a :: st) h := R_aload_n d_X6_init_0 rfl
theorem d_X6_init_1 : decode (mB M_X6_init) 1 = .ok (.invokespecial 3, 3) := by decide +kernel
theorem r_X6_init_1 {x0 : Value} {a : Nat} {h : AH} : Run M_X6_init 1 [x0] (.ref a :: []) h = Run M_X6_init 4 [x0] [] h := R_obj d_X6_init_1 rfl rfl ⟨by decide, Nat.le_of_ble_eq_true rfl, by decide, by decide⟩
theorem d_X6_init_4 : decode (mB M_X6_init) 4 = .ok (.aload_n 0, 1) := by decide +kernel
theorem r_X6_init_4 {a : Nat} {st : List Value} {h : AH} : Run M_X6_init 4 [.ref a] st h = Run M_X6_init 5 [.ref a] (.ref a :: st) h := R_aload_n d_X6_init_4 rfl
theorem d_X6_init_5 : decode (mB M_X6_init) 5 = .ok (.iconst 4, 1) := by decide +kernel
theorem r_X6_init_5 {x0 : Value} {st : List Value} {h : AH} : Run M_X6_init 5 [x0] st h = Run M_X6_init 6 [x0] (.int (nI 4) :: st) h := R_iconst d_X6_init_5 (by decide)
theorem d_X6_init_6 : decode (mB M_X6_init) 6 = .ok (.newarray .int, 2) := by decide +kernel
theorem r_X6_init_6 {x0 : Value} {st : List Value} {h : AH} : Run M_X6_init 6 [x0] (.int (nI 4) :: st) h = Run M_X6_init 8 [x0] (.ref h.1 :: st) (hnew h 4 (iA 4 (fun _ => 0))) := R_newarray d_X6_init_6 rfl ⟨by decide, by decide⟩ (by decide) rfl
theorem d_X6_init_8 : decode (mB M_X6_init) 8 = .ok (.putfield 9, 3) := by decide +kernel
theorem r_X6_init_8 {x0 : Value} {v : Nat} {a : Nat} {st : List Value} {h : AH} : Run M_X6_init 8 [x0] (.ref v :: .ref a :: st) h = if (pF h a 6 4 (.ref v)).isSome = true then Run M_X6_init 11 [x0] st ((pF h a 6 4 (.ref v)).getD h) else none := R_putfield d_X6_init_8 rfl (okP_arr rfl (Or.inr ⟨rfl, rfl⟩))
theorem d_X6_init_11 : decode (mB M_X6_init) 11 = .ok (.return_, 1) := by decide +kernel
theorem r_X6_init_11 {x0 : Value} {h : AH} : Run M_X6_init 11 [x0] [] h = some (h, none) := R_return d_X6_init_11 rfl
theorem d_X6_playedOf8_0 : decode (mB M_X6_playedOf8) 0 = .ok (.bipush 8, 2) := by decide +kernel
theorem r_X6_playedOf8_0 {x0 : Value} {st : List Value} {h : AH} : Run M_X6_playedOf8 0 [x0] st h = Run M_X6_playedOf8 2 [x0] (.int (nI 8) :: st) h := R_bipush d_X6_playedOf8_0 (by decide)
theorem d_X6_playedOf8_2 : decode (mB M_X6_playedOf8) 2 = .ok (.aload_n 0, 1) := by decide +kernel
theorem r_X6_playedOf8_2 {a : Nat} {st : List Value} {h : AH} : Run M_X6_playedOf8 2 [.ref a] st h = Run M_X6_playedOf8 3 [.ref a] (.ref a :: st) h := R_aload_n d_X6_playedOf8_2 rfl
theorem d_X6_playedOf8_3 : decode (mB M_X6_playedOf8) 3 = .ok (.getfield 15, 3) := by decide +kernel
theorem r_X6_playedOf8_3 {x0 : Value} {a : Nat} {st : List Value} {h : AH} : Run M_X6_playedOf8 3 [x0] (.ref a :: st) h = if (gF h a 6 1).isSome = true then Run M_X6_playedOf8 6 [x0] ((gF h a 6 1).getD .null :: st) h else none := R_getfield d_X6_playedOf8_3 rfl
theorem d_X6_playedOf8_6 : decode (mB M_X6_playedOf8) 6 = .ok (.isub, 1) := by decide +kernel
theorem r_X6_playedOf8_6 {x0 : Value} {x y : Int32} {st : List Value} {h : AH} : Run M_X6_playedOf8 6 [x0] (.int y :: .int x :: st) h = Run M_X6_playedOf8 7 [x0] (.int (x - y) :: st) h := R_isub d_X6_playedOf8_6
theorem d_X6_playedOf8_7 : decode (mB M_X6_playedOf8) 7 = .ok (.ireturn, 1) := by decide +kernel
theorem r_X6_playedOf8_7 {x0 : Value} {v : Int32} {h : AH} : Run M_X6_playedOf8 7 [x0] [.int v] h = some (h, some (.int v)) := R_ireturn d_X6_playedOf8_7 rfl rfl
theorem d_X6_choices_0 : decode (mB M_X6_choices) 0 = .ok (.bipush 8, 2) := by decide +kernel
theorem r_X6_choices_0 {x0 : Value} {st : List Value} {h : AH} : Run M_X6_choices 0 [x0] st h = Run M_X6_choices 2 [x0] (.int (nI 8) :: st) h := R_bipush d_X6_choices_0 (by decide)
theorem d_X6_choices_2 : decode (mB M_X6_choices) 2 = .ok (.aload_n 0, 1) := by decide +kernel
theorem r_X6_choices_2 {a : Nat} {st : List Value} {h : AH} : Run M_X6_choices 2 [.ref a] st h = Run M_X6_choices 3 [.ref a] (.ref a :: st) h := R_aload_n d_X6_choices_2 rfl
theorem d_X6_choices_3 : decode (mB M_X6_choices) 3 = .ok (.getfield 19, 3) := by decide +kernel
theorem r_X6_choices_3 {x0 : Value} {a : Nat} {st : List Value} {h : AH} : Run M_X6_choices 3 [x0] (.ref a :: st) h = if (gF h a 6 3).isSome = true then Run M_X6_choices 6 [x0] ((gF h a 6 3).getD .null :: st) h else none := R_getfield d_X6_choices_3 rfl
theorem d_X6_choices_6 : decode (mB M_X6_choices) 6 = .ok (.imul, 1) := by decide +kernel
theorem r_X6_choices_6 {x0 : Value} {x y : Int32} {st : List Value} {h : AH} : Run M_X6_choices 6 [x0] (.int y :: .int x :: st) h = Run M_X6_choices 7 [x0] (.int (x * y) :: st) h := R_imul d_X6_choices_6
theorem d_X6_choices_7 : decode (mB M_X6_choices) 7 = .ok (.ireturn, 1) := by decide +kernel
theorem r_X6_choices_7 {x0 : Value} {v : Int32} {h : AH} : Run M_X6_choices 7 [x0] [.int v] h = some (h, some (.int v)) := R_ireturn d_X6_choices_7 rfl rfl
theorem d_X6_hasLength_0 : decode (mB M_X6_hasLength) 0 = .ok (.iconst 0, 1) := by decide +kernel
theorem r_X6_hasLength_0 {x0 x1 x2 : Value} {st : List Value} {h : AH} : Run M_X6_hasLength 0 [x0, x1, x2] st h = Run M_X6_hasLength 1 [x0, x1, x2] (.int (nI 0) :: st) h := R_iconst d_X6_hasLength_0 (by decide)
theorem d_X6_hasLength_1 : decode (mB M_X6_hasLength) 1 = .ok (.istore_n 2, 1) := by decide +kernel
theorem r_X6_hasLength_1 {x0 x1 x2 : Value} {a : Int32} {st : List Value} {h : AH} (hc : x1.category = 1) : Run M_X6_hasLength 1 [x0, x1, x2] (.int a :: st) h = Run M_X6_hasLength 2 [x0, x1, .int a] st h := R_istore_n d_X6_hasLength_1 (Nat.lt_of_lt_of_le (by decide : 2 < 3) (Nat.le_refl 3)) (catP_of rfl hc)
theorem d_X6_hasLength_2 : decode (mB M_X6_hasLength) 2 = .ok (.iload_n 2, 1) := by decide +kernel
theorem r_X6_hasLength_2 {x0 x1 : Value} {a : Int32} {st : List Value} {h : AH} : Run M_X6_hasLength 2 [x0, x1, .int a] st h = Run M_X6_hasLength 3 [x0, x1, .int a] (.int a :: st) h := R_iload_n d_X6_hasLength_2 rfl
theorem d_X6_hasLength_3 : decode (mB M_X6_hasLength) 3 = .ok (.aload_n 0, 1) := by decide +kernel
theorem r_X6_hasLength_3 {x1 x2 : Value} {a : Nat} {st : List Value} {h : AH} : Run M_X6_hasLength 3 [.ref a, x1, x2] st h = Run M_X6_hasLength 4 [.ref a, x1, x2] (.ref a :: st) h := R_aload_n d_X6_hasLength_3 rfl
theorem d_X6_hasLength_4 : decode (mB M_X6_hasLength) 4 = .ok (.getfield 19, 3) := by decide +kernel
theorem r_X6_hasLength_4 {x0 x1 x2 : Value} {a : Nat} {st : List Value} {h : AH} : Run M_X6_hasLength 4 [x0, x1, x2] (.ref a :: st) h = if (gF h a 6 3).isSome = true then Run M_X6_hasLength 7 [x0, x1, x2] ((gF h a 6 3).getD .null :: st) h else none := R_getfield d_X6_hasLength_4 rfl
theorem d_X6_hasLength_7 : decode (mB M_X6_hasLength) 7 = .ok (.if_icmp .ge 21, 3) := by decide +kernel
theorem r_X6_hasLength_7 {x0 x1 x2 : Value} {x y : Int32} {st : List Value} {h : AH} : Run M_X6_hasLength 7 [x0, x1, x2] (.int y :: .int x :: st) h = if y ≤ x then Run M_X6_hasLength 28 [x0, x1, x2] st h else Run M_X6_hasLength 10 [x0, x1, x2] st h := R_icmp_ge d_X6_hasLength_7 (by decide)
theorem d_X6_hasLength_10 : decode (mB M_X6_hasLength) 10 = .ok (.aload_n 0, 1) := by decide +kernel
theorem r_X6_hasLength_10 {x1 x2 : Value} {a : Nat} {st : List Value} {h : AH} : Run M_X6_hasLength 10 [.ref a, x1, x2] st h = Run M_X6_hasLength 11 [.ref a, x1, x2] (.ref a :: st) h := R_aload_n d_X6_hasLength_10 rfl
theorem d_X6_hasLength_11 : decode (mB M_X6_hasLength) 11 = .ok (.getfield 9, 3) := by decide +kernel
theorem r_X6_hasLength_11 {x0 x1 x2 : Value} {a : Nat} {st : List Value} {h : AH} : Run M_X6_hasLength 11 [x0, x1, x2] (.ref a :: st) h = if (gF h a 6 4).isSome = true then Run M_X6_hasLength 14 [x0, x1, x2] ((gF h a 6 4).getD .null :: st) h else none := R_getfield d_X6_hasLength_11 rfl
theorem d_X6_hasLength_14 : decode (mB M_X6_hasLength) 14 = .ok (.iload_n 2, 1) := by decide +kernel
theorem r_X6_hasLength_14 {x0 x1 : Value} {a : Int32} {st : List Value} {h : AH} : Run M_X6_hasLength 14 [x0, x1, .int a] st h = Run M_X6_hasLength 15 [x0, x1, .int a] (.int a :: st) h := R_iload_n d_X6_hasLength_14 rfl
theorem d_X6_hasLength_15 : decode (mB M_X6_hasLength) 15 = .ok (.iaload, 1) := by decide +kernel
theorem r_X6_hasLength_15 {x0 x1 x2 : Value} {a : Nat} {i : Int32} {st : List Value} {h : AH} : Run M_X6_hasLength 15 [x0, x1, x2] (.int i :: .ref a :: st) h = if (gI 0 h a i).isSome = true then Run M_X6_hasLength 16 [x0, x1, x2] (.int ((gI 0 h a i).getD 0) :: st) h else none := R_iaload d_X6_hasLength_15
theorem d_X6_hasLength_16 : decode (mB M_X6_hasLength) 16 = .ok (.iload_n 1, 1) := by decide +kernel
theorem r_X6_hasLength_16 {x0 x2 : Value} {a : Int32} {st : List Value} {h : AH} : Run M_X6_hasLength 16 [x0, .int a, x2] st h = Run M_X6_hasLength 17 [x0, .int a, x2] (.int a :: st) h := R_iload_n d_X6_hasLength_16 rfl
theorem d_X6_hasLength_17 : decode (mB M_X6_hasLength) 17 = .ok (.if_icmp .ne 5, 3) := by decide +kernel
theorem r_X6_hasLength_17 {x0 x1 x2 : Value} {x y : Int32} {st : List Value} {h : AH} : Run M_X6_hasLength 17 [x0, x1, x2] (.int y :: .int x :: st) h = if x = y then Run M_X6_hasLength 20 [x0, x1, x2] st h else Run M_X6_hasLength 22 [x0, x1, x2] st h := R_icmp_ne d_X6_hasLength_17 (by decide)
theorem d_X6_hasLength_20 : decode (mB M_X6_hasLength) 20 = .ok (.iconst 1, 1) := by decide +kernel
theorem r_X6_hasLength_20 {x0 x1 x2 : Value} {st : List Value} {h : AH} : Run M_X6_hasLength 20 [x0, x1, x2] st h = Run M_X6_hasLength 21 [x0, x1, x2] (.int (nI 1) :: st) h := R_iconst d_X6_hasLength_20 (by decide)
theorem d_X6_hasLength_21 : decode (mB M_X6_hasLength) 21 = .ok (.ireturn, 1) := by decide +kernel
theorem r_X6_hasLength_21_0 {x0 x1 x2 : Value} {h : AH} : Run M_X6_hasLength 21 [x0, x1, x2] [.int (nI 0)] h = some (h, some (.int (nI 0))) := R_ireturn d_X6_hasLength_21 rfl (by decide)
theorem r_X6_hasLength_21_1 {x0 x1 x2 : Value} {h : AH} : Run M_X6_hasLength 21 [x0, x1, x2] [.int (nI 1)] h = some (h, some (.int (nI 1))) := R_ireturn d_X6_hasLength_21 rfl (by decide)
theorem r_X6_hasLength_21_c {x0 x1 x2 : Value} {c : Prop} [Decidable c] {h : AH} : Run M_X6_hasLength 21 [x0, x1, x2] [.int (bI c)] h = some (h, some (.int (bI c))) := R_ireturn d_X6_hasLength_21 rfl narrow_bI
theorem d_X6_hasLength_22 : decode (mB M_X6_hasLength) 22 = .ok (.iinc 2 1, 3) := by decide +kernel
theorem r_X6_hasLength_22 {x0 x1 : Value} {a : Int32} {st : List Value} {h : AH} (hc : x1.category = 1) : Run M_X6_hasLength 22 [x0, x1, .int a] st h = Run M_X6_hasLength 25 [x0, x1, .int (a + (nI 1))] st h := R_iinc d_X6_hasLength_22 (by decide) rfl (catP_of rfl hc)
theorem d_X6_hasLength_25 : decode (mB M_X6_hasLength) 25 = .ok (.goto (-23), 3) := by decide +kernel
theorem r_X6_hasLength_25 {x0 x1 x2 : Value} {st : List Value} {h : AH} : Run M_X6_hasLength 25 [x0, x1, x2] st h = Run M_X6_hasLength 2 [x0, x1, x2] st h := R_goto d_X6_hasLength_25 (by decide)
theorem d_X6_hasLength_28 : decode (mB M_X6_hasLength) 28 = .ok (.iconst 0, 1) := by decide +kernel
theorem r_X6_hasLength_28 {x0 x1 x2 : Value} {st : List Value} {h : AH} : Run M_X6_hasLength 28 [x0, x1, x2] st h = Run M_X6_hasLength 29 [x0, x1, x2] (.int (nI 0) :: st) h := R_iconst d_X6_hasLength_28 (by decide)
theorem d_X6_hasLength_29 : decode (mB M_X6_hasLength) 29 = .ok (.ireturn, 1) := by decide +kernel
theorem r_X6_hasLength_29_0 {x0 x1 x2 : Value} {h : AH} : Run M_X6_hasLength 29 [x0, x1, x2] [.int (nI 0)] h = some (h, some (.int (nI 0))) := R_ireturn d_X6_hasLength_29 rfl (by decide)
theorem r_X6_hasLength_29_1 {x0 x1 x2 : Value} {h : AH} : Run M_X6_hasLength 29 [x0, x1, x2] [.int (nI 1)] h = some (h, some (.int (nI 1))) := R_ireturn d_X6_hasLength_29 rfl (by decide)
theorem r_X6_hasLength_29_c {x0 x1 x2 : Value} {c : Prop} [Decidable c] {h : AH} : Run M_X6_hasLength 29 [x0, x1, x2] [.int (bI c)] h = some (h, some (.int (bI c))) := R_ireturn d_X6_hasLength_29 rfl narrow_bI
theorem d_X6_longerThan_0 : decode (mB M_X6_longerThan) 0 = .ok (.iconst 0, 1) := by decide +kernel
theorem r_X6_longerThan_0 {x0 x1 x2 x3 : Value} {st : List Value} {h : AH} : Run M_X6_longerThan 0 [x0, x1, x2, x3] st h = Run M_X6_longerThan 1 [x0, x1, x2, x3] (.int (nI 0) :: st) h := R_iconst d_X6_longerThan_0 (by decide)
theorem d_X6_longerThan_1 : decode (mB M_X6_longerThan) 1 = .ok (.istore_n 2, 1) := by decide +kernel
theorem r_X6_longerThan_1 {x0 x1 x2 x3 : Value} {a : Int32} {st : List Value} {h : AH} (hc : x1.category = 1) : Run M_X6_longerThan 1 [x0, x1, x2, x3] (.int a :: st) h = Run M_X6_longerThan 2 [x0, x1, .int a, x3] st h := R_istore_n d_X6_longerThan_1 (Nat.lt_of_lt_of_le (by decide : 2 < 4) (Nat.le_refl 4)) (catP_of rfl hc)
theorem d_X6_longerThan_2 : decode (mB M_X6_longerThan) 2 = .ok (.iconst 0, 1) := by decide +kernel
theorem r_X6_longerThan_2 {x0 x1 x2 x3 : Value} {st : List Value} {h : AH} : Run M_X6_longerThan 2 [x0, x1, x2, x3] st h = Run M_X6_longerThan 3 [x0, x1, x2, x3] (.int (nI 0) :: st) h := R_iconst d_X6_longerThan_2 (by decide)
theorem d_X6_longerThan_3 : decode (mB M_X6_longerThan) 3 = .ok (.istore_n 3, 1) := by decide +kernel
theorem r_X6_longerThan_3 {x0 x1 x2 x3 : Value} {a : Int32} {st : List Value} {h : AH} (hc : x2.category = 1) : Run M_X6_longerThan 3 [x0, x1, x2, x3] (.int a :: st) h = Run M_X6_longerThan 4 [x0, x1, x2, .int a] st h := R_istore_n d_X6_longerThan_3 (Nat.lt_of_lt_of_le (by decide : 3 < 4) (Nat.le_refl 4)) (catP_of rfl hc)
theorem d_X6_longerThan_4 : decode (mB M_X6_longerThan) 4 = .ok (.iload_n 3, 1) := by decide +kernel
theorem r_X6_longerThan_4 {x0 x1 x2 : Value} {a : Int32} {st : List Value} {h : AH} : Run M_X6_longerThan 4 [x0, x1, x2, .int a] st h = Run M_X6_longerThan 5 [x0, x1, x2, .int a] (.int a :: st) h := R_iload_n d_X6_longerThan_4 rfl
theorem d_X6_longerThan_5 : decode (mB M_X6_longerThan) 5 = .ok (.aload_n 0, 1) := by decide +kernel
theorem r_X6_longerThan_5 {x1 x2 x3 : Value} {a : Nat} {st : List Value} {h : AH} : Run M_X6_longerThan 5 [.ref a, x1, x2, x3] st h = Run M_X6_longerThan 6 [.ref a, x1, x2, x3] (.ref a :: st) h := R_aload_n d_X6_longerThan_5 rfl
theorem d_X6_longerThan_6 : decode (mB M_X6_longerThan) 6 = .ok (.getfield 19, 3) := by decide +kernel
theorem r_X6_longerThan_6 {x0 x1 x2 x3 : Value} {a : Nat} {st : List Value} {h : AH} : Run M_X6_longerThan 6 [x0, x1, x2, x3] (.ref a :: st) h = if (gF h a 6 3).isSome = true then Run M_X6_longerThan 9 [x0, x1, x2, x3] ((gF h a 6 3).getD .null :: st) h else none := R_getfield d_X6_longerThan_6 rfl
theorem d_X6_longerThan_9 : decode (mB M_X6_longerThan) 9 = .ok (.if_icmp .ge 22, 3) := by decide +kernel
theorem r_X6_longerThan_9 {x0 x1 x2 x3 : Value} {x y : Int32} {st : List Value} {h : AH} : Run M_X6_longerThan 9 [x0, x1, x2, x3] (.int y :: .int x :: st) h = if y ≤ x then Run M_X6_longerThan 31 [x0, x1, x2, x3] st h else Run M_X6_longerThan 12 [x0, x1, x2, x3] st h := R_icmp_ge d_X6_longerThan_9 (by decide)
theorem d_X6_longerThan_12 : decode (mB M_X6_longerThan) 12 = .ok (.aload_n 0, 1) := by decide +kernel
theorem r_X6_longerThan_12 {x1 x2 x3 : Value} {a : Nat} {st : List Value} {h : AH} : Run M_X6_longerThan 12 [.ref a, x1, x2, x3] st h = Run M_X6_longerThan 13 [.ref a, x1, x2, x3] (.ref a :: st) h := R_aload_n d_X6_longerThan_12 rfl
theorem d_X6_longerThan_13 : decode (mB M_X6_longerThan) 13 = .ok (.getfield 9, 3) := by decide +kernel
theorem r_X6_longerThan_13 {x0 x1 x2 x3 : Value} {a : Nat} {st : List Value} {h : AH} : Run M_X6_longerThan 13 [x0, x1, x2, x3] (.ref a :: st) h = if (gF h a 6 4).isSome = true then Run M_X6_longerThan 16 [x0, x1, x2, x3] ((gF h a 6 4).getD .null :: st) h else none := R_getfield d_X6_longerThan_13 rfl
theorem d_X6_longerThan_16 : decode (mB M_X6_longerThan) 16 = .ok (.iload_n 3, 1) := by decide +kernel
theorem r_X6_longerThan_16 {x0 x1 x2 : Value} {a : Int32} {st : List Value} {h : AH} : Run M_X6_longerThan 16 [x0, x1, x2, .int a] st h = Run M_X6_longerThan 17 [x0, x1, x2, .int a] (.int a :: st) h := R_iload_n d_X6_longerThan_16 rfl
theorem d_X6_longerThan_17 : decode (mB M_X6_longerThan) 17 = .ok (.iaload, 1) := by decide +kernel
theorem r_X6_longerThan_17 {x0 x1 x2 x3 : Value} {a : Nat} {i : Int32} {st : List Value} {h : AH} : Run M_X6_longerThan 17 [x0, x1, x2, x3] (.int i :: .ref a :: st) h = if (gI 0 h a i).isSome = true then Run M_X6_longerThan 18 [x0, x1, x2, x3] (.int ((gI 0 h a i).getD 0) :: st) h else none := R_iaload d_X6_longerThan_17
theorem d_X6_longerThan_18 : decode (mB M_X6_longerThan) 18 = .ok (.iload_n 1, 1) := by decide +kernel
theorem r_X6_longerThan_18 {x0 x2 x3 : Value} {a : Int32} {st : List Value} {h : AH} : Run M_X6_longerThan 18 [x0, .int a, x2, x3] st h = Run M_X6_longerThan 19 [x0, .int a, x2, x3] (.int a :: st) h := R_iload_n d_X6_longerThan_18 rfl
theorem d_X6_longerThan_19 : decode (mB M_X6_longerThan) 19 = .ok (.if_icmp .le 6, 3) := by decide +kernel
theorem r_X6_longerThan_19 {x0 x1 x2 x3 : Value} {x y : Int32} {st : List Value} {h : AH} : Run M_X6_longerThan 19 [x0, x1, x2, x3] (.int y :: .int x :: st) h = if x ≤ y then Run M_X6_longerThan 25 [x0, x1, x2, x3] st h else Run M_X6_longerThan 22 [x0, x1, x2, x3] st h := R_icmp_le d_X6_longerThan_19 (by decide)
theorem d_X6_longerThan_22 : decode (mB M_X6_longerThan) 22 = .ok (.iinc 2 1, 3) := by decide +kernel
theorem r_X6_longerThan_22 {x0 x1 x3 : Value} {a : Int32} {st : List Value} {h : AH} (hc : x1.category = 1) : Run M_X6_longerThan 22 [x0, x1, .int a, x3] st h = Run M_X6_longerThan 25 [x0, x1, .int (a + (nI 1)), x3] st h := R_iinc d_X6_longerThan_22 (by decide) rfl (catP_of rfl hc)
theorem d_X6_longerThan_25 : decode (mB M_X6_longerThan) 25 = .ok (.iinc 3 1, 3) := by decide +kernel
theorem r_X6_longerThan_25 {x0 x1 x2 : Value} {a : Int32} {st : List Value} {h : AH} (hc : x2.category = 1) : Run M_X6_longerThan 25 [x0, x1, x2, .int a] st h = Run M_X6_longerThan 28 [x0, x1, x2, .int (a + (nI 1))] st h := R_iinc d_X6_longerThan_25 (by decide) rfl (catP_of rfl hc)
theorem d_X6_longerThan_28 : decode (mB M_X6_longerThan) 28 = .ok (.goto (-24), 3) := by decide +kernel
theorem r_X6_longerThan_28 {x0 x1 x2 x3 : Value} {st : List Value} {h : AH} : Run M_X6_longerThan 28 [x0, x1, x2, x3] st h = Run M_X6_longerThan 4 [x0, x1, x2, x3] st h := R_goto d_X6_longerThan_28 (by decide)
theorem d_X6_longerThan_31 : decode (mB M_X6_longerThan) 31 = .ok (.iload_n 2, 1) := by decide +kernel
theorem r_X6_longerThan_31 {x0 x1 x3 : Value} {a : Int32} {st : List Value} {h : AH} : Run M_X6_longerThan 31 [x0, x1, .int a, x3] st h = Run M_X6_longerThan 32 [x0, x1, .int a, x3] (.int a :: st) h := R_iload_n d_X6_longerThan_31 rfl
theorem d_X6_longerThan_32 : decode (mB M_X6_longerThan) 32 = .ok (.ireturn, 1) := by decide +kernel
theorem r_X6_longerThan_32 {x0 x1 x2 x3 : Value} {v : Int32} {h : AH} : Run M_X6_longerThan 32 [x0, x1, x2, x3] [.int v] h = some (h, some (.int v)) := R_ireturn d_X6_longerThan_32 rfl rfl
theorem d_X6_longest_0 : decode (mB M_X6_longest) 0 = .ok (.iconst 0, 1) := by decide +kernel
theorem r_X6_longest_0 {x0 x1 x2 : Value} {st : List Value} {h : AH} : Run M_X6_longest 0 [x0, x1, x2] st h = Run M_X6_longest 1 [x0, x1, x2] (.int (nI 0) :: st) h := R_iconst d_X6_longest_0 (by decide)
theorem d_X6_longest_1 : decode (mB M_X6_longest) 1 = .ok (.istore_n 1, 1) := by decide +kernel
theorem r_X6_longest_1 {x0 x1 x2 : Value} {a : Int32} {st : List Value} {h : AH} (hc : x0.category = 1) : Run M_X6_longest 1 [x0, x1, x2] (.int a :: st) h = Run M_X6_longest 2 [x0, .int a, x2] st h := R_istore_n d_X6_longest_1 (Nat.lt_of_lt_of_le (by decide : 1 < 3) (Nat.le_refl 3)) (catP_of rfl hc)
theorem d_X6_longest_2 : decode (mB M_X6_longest) 2 = .ok (.iconst 0, 1) := by decide +kernel
theorem r_X6_longest_2 {x0 x1 x2 : Value} {st : List Value} {h : AH} : Run M_X6_longest 2 [x0, x1, x2] st h = Run M_X6_longest 3 [x0, x1, x2] (.int (nI 0) :: st) h := R_iconst d_X6_longest_2 (by decide)
theorem d_X6_longest_3 : decode (mB M_X6_longest) 3 = .ok (.istore_n 2, 1) := by decide +kernel
theorem r_X6_longest_3 {x0 x1 x2 : Value} {a : Int32} {st : List Value} {h : AH} (hc : x1.category = 1) : Run M_X6_longest 3 [x0, x1, x2] (.int a :: st) h = Run M_X6_longest 4 [x0, x1, .int a] st h := R_istore_n d_X6_longest_3 (Nat.lt_of_lt_of_le (by decide : 2 < 3) (Nat.le_refl 3)) (catP_of rfl hc)
theorem d_X6_longest_4 : decode (mB M_X6_longest) 4 = .ok (.iload_n 2, 1) := by decide +kernel
theorem r_X6_longest_4 {x0 x1 : Value} {a : Int32} {st : List Value} {h : AH} : Run M_X6_longest 4 [x0, x1, .int a] st h = Run M_X6_longest 5 [x0, x1, .int a] (.int a :: st) h := R_iload_n d_X6_longest_4 rfl
theorem d_X6_longest_5 : decode (mB M_X6_longest) 5 = .ok (.aload_n 0, 1) := by decide +kernel
theorem r_X6_longest_5 {x1 x2 : Value} {a : Nat} {st : List Value} {h : AH} : Run M_X6_longest 5 [.ref a, x1, x2] st h = Run M_X6_longest 6 [.ref a, x1, x2] (.ref a :: st) h := R_aload_n d_X6_longest_5 rfl
theorem d_X6_longest_6 : decode (mB M_X6_longest) 6 = .ok (.getfield 19, 3) := by decide +kernel
theorem r_X6_longest_6 {x0 x1 x2 : Value} {a : Nat} {st : List Value} {h : AH} : Run M_X6_longest 6 [x0, x1, x2] (.ref a :: st) h = if (gF h a 6 3).isSome = true then Run M_X6_longest 9 [x0, x1, x2] ((gF h a 6 3).getD .null :: st) h else none := R_getfield d_X6_longest_6 rfl
theorem d_X6_longest_9 : decode (mB M_X6_longest) 9 = .ok (.if_icmp .ge 20, 3) := by decide +kernel
theorem r_X6_longest_9 {x0 x1 x2 : Value} {x y : Int32} {st : List Value} {h : AH} : Run M_X6_longest 9 [x0, x1, x2] (.int y :: .int x :: st) h = if y ≤ x then Run M_X6_longest 29 [x0, x1, x2] st h else Run M_X6_longest 12 [x0, x1, x2] st h := R_icmp_ge d_X6_longest_9 (by decide)
theorem d_X6_longest_12 : decode (mB M_X6_longest) 12 = .ok (.iload_n 1, 1) := by decide +kernel
theorem r_X6_longest_12 {x0 x2 : Value} {a : Int32} {st : List Value} {h : AH} : Run M_X6_longest 12 [x0, .int a, x2] st h = Run M_X6_longest 13 [x0, .int a, x2] (.int a :: st) h := R_iload_n d_X6_longest_12 rfl
theorem d_X6_longest_13 : decode (mB M_X6_longest) 13 = .ok (.aload_n 0, 1) := by decide +kernel
theorem r_X6_longest_13 {x1 x2 : Value} {a : Nat} {st : List Value} {h : AH} : Run M_X6_longest 13 [.ref a, x1, x2] st h = Run M_X6_longest 14 [.ref a, x1, x2] (.ref a :: st) h := R_aload_n d_X6_longest_13 rfl
theorem d_X6_longest_14 : decode (mB M_X6_longest) 14 = .ok (.getfield 9, 3) := by decide +kernel
theorem r_X6_longest_14 {x0 x1 x2 : Value} {a : Nat} {st : List Value} {h : AH} : Run M_X6_longest 14 [x0, x1, x2] (.ref a :: st) h = if (gF h a 6 4).isSome = true then Run M_X6_longest 17 [x0, x1, x2] ((gF h a 6 4).getD .null :: st) h else none := R_getfield d_X6_longest_14 rfl
theorem d_X6_longest_17 : decode (mB M_X6_longest) 17 = .ok (.iload_n 2, 1) := by decide +kernel
theorem r_X6_longest_17 {x0 x1 : Value} {a : Int32} {st : List Value} {h : AH} : Run M_X6_longest 17 [x0, x1, .int a] st h = Run M_X6_longest 18 [x0, x1, .int a] (.int a :: st) h := R_iload_n d_X6_longest_17 rfl
theorem d_X6_longest_18 : decode (mB M_X6_longest) 18 = .ok (.iaload, 1) := by decide +kernel
theorem r_X6_longest_18 {x0 x1 x2 : Value} {a : Nat} {i : Int32} {st : List Value} {h : AH} : Run M_X6_longest 18 [x0, x1, x2] (.int i :: .ref a :: st) h = if (gI 0 h a i).isSome = true then Run M_X6_longest 19 [x0, x1, x2] (.int ((gI 0 h a i).getD 0) :: st) h else none := R_iaload d_X6_longest_18
theorem d_X6_longest_19 : decode (mB M_X6_longest) 19 = .ok (.invokestatic 22, 3) := by decide +kernel
theorem r_X6_longest_19 {x0 x1 x2 : Value} {p0 : Int32} {p1 : Int32} {h : AH} : Run M_X6_longest 19 [x0, x1, x2] (.int p1 :: .int p0 :: []) h = if (Call M_J9_max_7cf53 h [.int p0, .int p1]).isSome = true then Run M_X6_longest 22 [x0, x1, x2] (rL (Call M_J9_max_7cf53 h [.int p0, .int p1]) ++ []) (cH (Call M_J9_max_7cf53 h [.int p0, .int p1])) else none := R_stat d_X6_longest_19 rfl rfl rfl rfl (Nat.le_of_ble_eq_true rfl)
theorem d_X6_longest_22 : decode (mB M_X6_longest) 22 = .ok (.istore_n 1, 1) := by decide +kernel
theorem r_X6_longest_22 {x0 x1 x2 : Value} {a : Int32} {st : List Value} {h : AH} (hc : x0.category = 1) : Run M_X6_longest 22 [x0, x1, x2] (.int a :: st) h = Run M_X6_longest 23 [x0, .int a, x2] st h := R_istore_n d_X6_longest_22 (Nat.lt_of_lt_of_le (by decide : 1 < 3) (Nat.le_refl 3)) (catP_of rfl hc)
theorem d_X6_longest_23 : decode (mB M_X6_longest) 23 = .ok (.iinc 2 1, 3) := by decide +kernel
theorem r_X6_longest_23 {x0 x1 : Value} {a : Int32} {st : List Value} {h : AH} (hc : x1.category = 1) : Run M_X6_longest 23 [x0, x1, .int a] st h = Run M_X6_longest 26 [x0, x1, .int (a + (nI 1))] st h := R_iinc d_X6_longest_23 (by decide) rfl (catP_of rfl hc)
theorem d_X6_longest_26 : decode (mB M_X6_longest) 26 = .ok (.goto (-22), 3) := by decide +kernel
theorem r_X6_longest_26 {x0 x1 x2 : Value} {st : List Value} {h : AH} : Run M_X6_longest 26 [x0, x1, x2] st h = Run M_X6_longest 4 [x0, x1, x2] st h := R_goto d_X6_longest_26 (by decide)
theorem d_X6_longest_29 : decode (mB M_X6_longest) 29 = .ok (.iload_n 1, 1) := by decide +kernel
theorem r_X6_longest_29 {x0 x2 : Value} {a : Int32} {st : List Value} {h : AH} : Run M_X6_longest 29 [x0, .int a, x2] st h = Run M_X6_longest 30 [x0, .int a, x2] (.int a :: st) h := R_iload_n d_X6_longest_29 rfl
theorem d_X6_longest_30 : decode (mB M_X6_longest) 30 = .ok (.ireturn, 1) := by decide +kernel
theorem r_X6_longest_30 {x0 x1 x2 : Value} {v : Int32} {h : AH} : Run M_X6_longest 30 [x0, x1, x2] [.int v] h = some (h, some (.int v)) := R_ireturn d_X6_longest_30 rfl rfl
theorem d_X6_addPlayed_0 : decode (mB M_X6_addPlayed) 0 = .ok (.aload_n 0, 1) := by decide +kernel
theorem r_X6_addPlayed_0 {x1 x2 x3 x4 x5 x6 x7 x8 : Value} {a : Nat} {st : List Value} {h : AH} : Run M_X6_addPlayed 0 [.ref a, x1, x2, x3, x4, x5, x6, x7, x8] st h = Run M_X6_addPlayed 1 [.ref a, x1, x2, x3, x4, x5, x6, x7, x8] (.ref a :: st) h := R_aload_n d_X6_addPlayed_0 rfl
theorem d_X6_addPlayed_1 : decode (mB M_X6_addPlayed) 1 = .ok (.invokevirtual 28, 3) := by decide +kernel
theorem r_X6_addPlayed_1 {x0 x1 x2 x3 x4 x5 x6 x7 x8 : Value} {a : Nat} {h : AH} : Run M_X6_addPlayed 1 [x0, x1, x2, x3, x4, x5, x6, x7, x8] (.ref a :: []) h = if refO h 6 (some (.ref a)) = true then (if (Call M_X6_playedOf8 h [.ref a]).isSome = true then Run M_X6_addPlayed 4 [x0, x1, x2, x3, x4, x5, x6, x7, x8] (rL (Call M_X6_playedOf8 h [.ref a]) ++ []) (cH (Call M_X6_playedOf8 h [.ref a])) else none) else none := R_virt d_X6_addPlayed_1 rfl rfl rfl rfl rfl (Nat.le_of_ble_eq_true rfl)
theorem d_X6_addPlayed_4 : decode (mB M_X6_addPlayed) 4 = .ok (.i2l, 1) := by decide +kernel
theorem r_X6_addPlayed_4 {x0 x1 x2 x3 x4 x5 x6 x7 x8 : Value} {x : Int32} {st : List Value} {h : AH} : Run M_X6_addPlayed 4 [x0, x1, x2, x3, x4, x5, x6, x7, x8] (.int x :: st) h = Run M_X6_addPlayed 5 [x0, x1, x2, x3, x4, x5, x6, x7, x8] (.long x.toInt64 :: st) h := R_i2l d_X6_addPlayed_4
theorem d_X6_addPlayed_5 : decode (mB M_X6_addPlayed) 5 = .ok (.lstore 4, 2) := by decide +kernel
theorem r_X6_addPlayed_5 {x0 x1 x2 x3 x4 x5 x6 x7 x8 : Value} {a : Int64} {st : List Value} {h : AH} (hc : x3.category = 1) : Run M_X6_addPlayed 5 [x0, x1, x2, x3, x4, x5, x6, x7, x8] (.long a :: st) h = Run M_X6_addPlayed 7 [x0, x1, x2, x3, .long a, .null, x6, x7, x8] st h := R_lstore d_X6_addPlayed_5 (Nat.lt_of_lt_of_le (by decide : 5 < 9) (Nat.le_refl 9)) (catP_of rfl hc)
theorem d_X6_addPlayed_7 : decode (mB M_X6_addPlayed) 7 = .ok (.iconst 0, 1) := by decide +kernel
theorem r_X6_addPlayed_7 {x0 x1 x2 x3 x4 x5 x6 x7 x8 : Value} {st : List Value} {h : AH} : Run M_X6_addPlayed 7 [x0, x1, x2, x3, x4, x5, x6, x7, x8] st h = Run M_X6_addPlayed 8 [x0, x1, x2, x3, x4, x5, x6, x7, x8] (.int (nI 0) :: st) h := R_iconst d_X6_addPlayed_7 (by decide)
theorem d_X6_addPlayed_8 : decode (mB M_X6_addPlayed) 8 = .ok (.istore 6, 2) := by decide +kernel
theorem r_X6_addPlayed_8 {x0 x1 x2 x3 x4 x5 x6 x7 x8 : Value} {a : Int32} {st : List Value} {h : AH} (hc : x5.category = 1) : Run M_X6_addPlayed 8 [x0, x1, x2, x3, x4, x5, x6, x7, x8] (.int a :: st) h = Run M_X6_addPlayed 10 [x0, x1, x2, x3, x4, x5, .int a, x7, x8] st h := R_istore d_X6_addPlayed_8 (Nat.lt_of_lt_of_le (by decide : 6 < 9) (Nat.le_refl 9)) (catP_of rfl hc)
theorem d_X6_addPlayed_10 : decode (mB M_X6_addPlayed) 10 = .ok (.iload 6, 2) := by decide +kernel
theorem r_X6_addPlayed_10 {x0 x1 x2 x3 x4 x5 x7 x8 : Value} {a : Int32} {st : List Value} {h : AH} : Run M_X6_addPlayed 10 [x0, x1, x2, x3, x4, x5, .int a, x7, x8] st h = Run M_X6_addPlayed 12 [x0, x1, x2, x3, x4, x5, .int a, x7, x8] (.int a :: st) h := R_iload d_X6_addPlayed_10 rfl
theorem d_X6_addPlayed_12 : decode (mB M_X6_addPlayed) 12 = .ok (.aload_n 0, 1) := by decide +kernel
theorem r_X6_addPlayed_12 {x1 x2 x3 x4 x5 x6 x7 x8 : Value} {a : Nat} {st : List Value} {h : AH} : Run M_X6_addPlayed 12 [.ref a, x1, x2, x3, x4, x5, x6, x7, x8] st h = Run M_X6_addPlayed 13 [.ref a, x1, x2, x3, x4, x5, x6, x7, x8] (.ref a :: st) h := R_aload_n d_X6_addPlayed_12 rfl
theorem d_X6_addPlayed_13 : decode (mB M_X6_addPlayed) 13 = .ok (.getfield 19, 3) := by decide +kernel
theorem r_X6_addPlayed_13 {x0 x1 x2 x3 x4 x5 x6 x7 x8 : Value} {a : Nat} {st : List Value} {h : AH} : Run M_X6_addPlayed 13 [x0, x1, x2, x3, x4, x5, x6, x7, x8] (.ref a :: st) h = if (gF h a 6 3).isSome = true then Run M_X6_addPlayed 16 [x0, x1, x2, x3, x4, x5, x6, x7, x8] ((gF h a 6 3).getD .null :: st) h else none := R_getfield d_X6_addPlayed_13 rfl
theorem d_X6_addPlayed_16 : decode (mB M_X6_addPlayed) 16 = .ok (.if_icmp .ge 60, 3) := by decide +kernel
theorem r_X6_addPlayed_16 {x0 x1 x2 x3 x4 x5 x6 x7 x8 : Value} {x y : Int32} {st : List Value} {h : AH} : Run M_X6_addPlayed 16 [x0, x1, x2, x3, x4, x5, x6, x7, x8] (.int y :: .int x :: st) h = if y ≤ x then Run M_X6_addPlayed 76 [x0, x1, x2, x3, x4, x5, x6, x7, x8] st h else Run M_X6_addPlayed 19 [x0, x1, x2, x3, x4, x5, x6, x7, x8] st h := R_icmp_ge d_X6_addPlayed_16 (by decide)
theorem d_X6_addPlayed_19 : decode (mB M_X6_addPlayed) 19 = .ok (.aload_n 0, 1) := by decide +kernel
theorem r_X6_addPlayed_19 {x1 x2 x3 x4 x5 x6 x7 x8 : Value} {a : Nat} {st : List Value} {h : AH} : Run M_X6_addPlayed 19 [.ref a, x1, x2, x3, x4, x5, x6, x7, x8] st h = Run M_X6_addPlayed 20 [.ref a, x1, x2, x3, x4, x5, x6, x7, x8] (.ref a :: st) h := R_aload_n d_X6_addPlayed_19 rfl
theorem d_X6_addPlayed_20 : decode (mB M_X6_addPlayed) 20 = .ok (.getfield 9, 3) := by decide +kernel
theorem r_X6_addPlayed_20 {x0 x1 x2 x3 x4 x5 x6 x7 x8 : Value} {a : Nat} {st : List Value} {h : AH} : Run M_X6_addPlayed 20 [x0, x1, x2, x3, x4, x5, x6, x7, x8] (.ref a :: st) h = if (gF h a 6 4).isSome = true then Run M_X6_addPlayed 23 [x0, x1, x2, x3, x4, x5, x6, x7, x8] ((gF h a 6 4).getD .null :: st) h else none := R_getfield d_X6_addPlayed_20 rfl
theorem d_X6_addPlayed_23 : decode (mB M_X6_addPlayed) 23 = .ok (.iload 6, 2) := by decide +kernel
theorem r_X6_addPlayed_23 {x0 x1 x2 x3 x4 x5 x7 x8 : Value} {a : Int32} {st : List Value} {h : AH} : Run M_X6_addPlayed 23 [x0, x1, x2, x3, x4, x5, .int a, x7, x8] st h = Run M_X6_addPlayed 25 [x0, x1, x2, x3, x4, x5, .int a, x7, x8] (.int a :: st) h := R_iload d_X6_addPlayed_23 rfl
theorem d_X6_addPlayed_25 : decode (mB M_X6_addPlayed) 25 = .ok (.iaload, 1) := by decide +kernel
theorem r_X6_addPlayed_25 {x0 x1 x2 x3 x4 x5 x6 x7 x8 : Value} {a : Nat} {i : Int32} {st : List Value} {h : AH} : Run M_X6_addPlayed 25 [x0, x1, x2, x3, x4, x5, x6, x7, x8] (.int i :: .ref a :: st) h = if (gI 0 h a i).isSome = true then Run M_X6_addPlayed 26 [x0, x1, x2, x3, x4, x5, x6, x7, x8] (.int ((gI 0 h a i).getD 0) :: st) h else none := R_iaload d_X6_addPlayed_25
theorem d_X6_addPlayed_26 : decode (mB M_X6_addPlayed) 26 = .ok (.istore 7, 2) := by decide +kernel
theorem r_X6_addPlayed_26 {x0 x1 x2 x3 x4 x5 x6 x7 x8 : Value} {a : Int32} {st : List Value} {h : AH} (hc : x6.category = 1) : Run M_X6_addPlayed 26 [x0, x1, x2, x3, x4, x5, x6, x7, x8] (.int a :: st) h = Run M_X6_addPlayed 28 [x0, x1, x2, x3, x4, x5, x6, .int a, x8] st h := R_istore d_X6_addPlayed_26 (Nat.lt_of_lt_of_le (by decide : 7 < 9) (Nat.le_refl 9)) (catP_of rfl hc)
theorem d_X6_addPlayed_28 : decode (mB M_X6_addPlayed) 28 = .ok (.iconst 0, 1) := by decide +kernel
theorem r_X6_addPlayed_28 {x0 x1 x2 x3 x4 x5 x6 x7 x8 : Value} {st : List Value} {h : AH} : Run M_X6_addPlayed 28 [x0, x1, x2, x3, x4, x5, x6, x7, x8] st h = Run M_X6_addPlayed 29 [x0, x1, x2, x3, x4, x5, x6, x7, x8] (.int (nI 0) :: st) h := R_iconst d_X6_addPlayed_28 (by decide)
theorem d_X6_addPlayed_29 : decode (mB M_X6_addPlayed) 29 = .ok (.istore 8, 2) := by decide +kernel
theorem r_X6_addPlayed_29 {x0 x1 x2 x3 x4 x5 x6 x7 x8 : Value} {a : Int32} {st : List Value} {h : AH} (hc : x7.category = 1) : Run M_X6_addPlayed 29 [x0, x1, x2, x3, x4, x5, x6, x7, x8] (.int a :: st) h = Run M_X6_addPlayed 31 [x0, x1, x2, x3, x4, x5, x6, x7, .int a] st h := R_istore d_X6_addPlayed_29 (Nat.lt_of_lt_of_le (by decide : 8 < 9) (Nat.le_refl 9)) (catP_of rfl hc)
theorem d_X6_addPlayed_31 : decode (mB M_X6_addPlayed) 31 = .ok (.iload 8, 2) := by decide +kernel
theorem r_X6_addPlayed_31 {x0 x1 x2 x3 x4 x5 x6 x7 : Value} {a : Int32} {st : List Value} {h : AH} : Run M_X6_addPlayed 31 [x0, x1, x2, x3, x4, x5, x6, x7, .int a] st h = Run M_X6_addPlayed 33 [x0, x1, x2, x3, x4, x5, x6, x7, .int a] (.int a :: st) h := R_iload d_X6_addPlayed_31 rfl
theorem d_X6_addPlayed_33 : decode (mB M_X6_addPlayed) 33 = .ok (.iload_n 3, 1) := by decide +kernel
theorem r_X6_addPlayed_33 {x0 x1 x2 x4 x5 x6 x7 x8 : Value} {a : Int32} {st : List Value} {h : AH} : Run M_X6_addPlayed 33 [x0, x1, x2, .int a, x4, x5, x6, x7, x8] st h = Run M_X6_addPlayed 34 [x0, x1, x2, .int a, x4, x5, x6, x7, x8] (.int a :: st) h := R_iload_n d_X6_addPlayed_33 rfl
theorem d_X6_addPlayed_34 : decode (mB M_X6_addPlayed) 34 = .ok (.if_icmp .gt 36, 3) := by decide +kernel
theorem r_X6_addPlayed_34 {x0 x1 x2 x3 x4 x5 x6 x7 x8 : Value} {x y : Int32} {st : List Value} {h : AH} : Run M_X6_addPlayed 34 [x0, x1, x2, x3, x4, x5, x6, x7, x8] (.int y :: .int x :: st) h = if y < x then Run M_X6_addPlayed 70 [x0, x1, x2, x3, x4, x5, x6, x7, x8] st h else Run M_X6_addPlayed 37 [x0, x1, x2, x3, x4, x5, x6, x7, x8] st h := R_icmp_gt d_X6_addPlayed_34 (by decide)
theorem d_X6_addPlayed_37 : decode (mB M_X6_addPlayed) 37 = .ok (.iload 8, 2) := by decide +kernel
theorem r_X6_addPlayed_37 {x0 x1 x2 x3 x4 x5 x6 x7 : Value} {a : Int32} {st : List Value} {h : AH} : Run M_X6_addPlayed 37 [x0, x1, x2, x3, x4, x5, x6, x7, .int a] st h = Run M_X6_addPlayed 39 [x0, x1, x2, x3, x4, x5, x6, x7, .int a] (.int a :: st) h := R_iload d_X6_addPlayed_37 rfl
theorem d_X6_addPlayed_39 : decode (mB M_X6_addPlayed) 39 = .ok (.iload 7, 2) := by decide +kernel
theorem r_X6_addPlayed_39 {x0 x1 x2 x3 x4 x5 x6 x8 : Value} {a : Int32} {st : List Value} {h : AH} : Run M_X6_addPlayed 39 [x0, x1, x2, x3, x4, x5, x6, .int a, x8] st h = Run M_X6_addPlayed 41 [x0, x1, x2, x3, x4, x5, x6, .int a, x8] (.int a :: st) h := R_iload d_X6_addPlayed_39 rfl
theorem d_X6_addPlayed_41 : decode (mB M_X6_addPlayed) 41 = .ok (.iadd, 1) := by decide +kernel
theorem r_X6_addPlayed_41 {x0 x1 x2 x3 x4 x5 x6 x7 x8 : Value} {x y : Int32} {st : List Value} {h : AH} : Run M_X6_addPlayed 41 [x0, x1, x2, x3, x4, x5, x6, x7, x8] (.int y :: .int x :: st) h = Run M_X6_addPlayed 42 [x0, x1, x2, x3, x4, x5, x6, x7, x8] (.int (x + y) :: st) h := R_iadd d_X6_addPlayed_41
theorem d_X6_addPlayed_42 : decode (mB M_X6_addPlayed) 42 = .ok (.aload_n 2, 1) := by decide +kernel
theorem r_X6_addPlayed_42 {x0 x1 x3 x4 x5 x6 x7 x8 : Value} {a : Nat} {st : List Value} {h : AH} : Run M_X6_addPlayed 42 [x0, x1, .ref a, x3, x4, x5, x6, x7, x8] st h = Run M_X6_addPlayed 43 [x0, x1, .ref a, x3, x4, x5, x6, x7, x8] (.ref a :: st) h := R_aload_n d_X6_addPlayed_42 rfl
theorem d_X6_addPlayed_43 : decode (mB M_X6_addPlayed) 43 = .ok (.arraylength, 1) := by decide +kernel
theorem r_X6_addPlayed_43 {x0 x1 x2 x3 x4 x5 x6 x7 x8 : Value} {a : Nat} {st : List Value} {h : AH} : Run M_X6_addPlayed 43 [x0, x1, x2, x3, x4, x5, x6, x7, x8] (.ref a :: st) h = if (gN h a).isSome = true then Run M_X6_addPlayed 44 [x0, x1, x2, x3, x4, x5, x6, x7, x8] (.int (Int32.ofNat ((gN h a).getD 0)) :: st) h else none := R_arraylength d_X6_addPlayed_43
theorem d_X6_addPlayed_44 : decode (mB M_X6_addPlayed) 44 = .ok (.if_icmp .ge 26, 3) := by decide +kernel
theorem r_X6_addPlayed_44 {x0 x1 x2 x3 x4 x5 x6 x7 x8 : Value} {x y : Int32} {st : List Value} {h : AH} : Run M_X6_addPlayed 44 [x0, x1, x2, x3, x4, x5, x6, x7, x8] (.int y :: .int x :: st) h = if y ≤ x then Run M_X6_addPlayed 70 [x0, x1, x2, x3, x4, x5, x6, x7, x8] st h else Run M_X6_addPlayed 47 [x0, x1, x2, x3, x4, x5, x6, x7, x8] st h := R_icmp_ge d_X6_addPlayed_44 (by decide)
theorem d_X6_addPlayed_47 : decode (mB M_X6_addPlayed) 47 = .ok (.aload_n 2, 1) := by decide +kernel
theorem r_X6_addPlayed_47 {x0 x1 x3 x4 x5 x6 x7 x8 : Value} {a : Nat} {st : List Value} {h : AH} : Run M_X6_addPlayed 47 [x0, x1, .ref a, x3, x4, x5, x6, x7, x8] st h = Run M_X6_addPlayed 48 [x0, x1, .ref a, x3, x4, x5, x6, x7, x8] (.ref a :: st) h := R_aload_n d_X6_addPlayed_47 rfl
theorem d_X6_addPlayed_48 : decode (mB M_X6_addPlayed) 48 = .ok (.iload 8, 2) := by decide +kernel
theorem r_X6_addPlayed_48 {x0 x1 x2 x3 x4 x5 x6 x7 : Value} {a : Int32} {st : List Value} {h : AH} : Run M_X6_addPlayed 48 [x0, x1, x2, x3, x4, x5, x6, x7, .int a] st h = Run M_X6_addPlayed 50 [x0, x1, x2, x3, x4, x5, x6, x7, .int a] (.int a :: st) h := R_iload d_X6_addPlayed_48 rfl
theorem d_X6_addPlayed_50 : decode (mB M_X6_addPlayed) 50 = .ok (.iload 7, 2) := by decide +kernel
theorem r_X6_addPlayed_50 {x0 x1 x2 x3 x4 x5 x6 x8 : Value} {a : Int32} {st : List Value} {h : AH} : Run M_X6_addPlayed 50 [x0, x1, x2, x3, x4, x5, x6, .int a, x8] st h = Run M_X6_addPlayed 52 [x0, x1, x2, x3, x4, x5, x6, .int a, x8] (.int a :: st) h := R_iload d_X6_addPlayed_50 rfl
theorem d_X6_addPlayed_52 : decode (mB M_X6_addPlayed) 52 = .ok (.iadd, 1) := by decide +kernel
theorem r_X6_addPlayed_52 {x0 x1 x2 x3 x4 x5 x6 x7 x8 : Value} {x y : Int32} {st : List Value} {h : AH} : Run M_X6_addPlayed 52 [x0, x1, x2, x3, x4, x5, x6, x7, x8] (.int y :: .int x :: st) h = Run M_X6_addPlayed 53 [x0, x1, x2, x3, x4, x5, x6, x7, x8] (.int (x + y) :: st) h := R_iadd d_X6_addPlayed_52
theorem d_X6_addPlayed_53 : decode (mB M_X6_addPlayed) 53 = .ok (.dup2, 1) := by decide +kernel
theorem r_X6_addPlayed_53 {x0 x1 x2 x3 x4 x5 x6 x7 x8 : Value} {x : Nat} {y : Int32} {st : List Value} {h : AH} : Run M_X6_addPlayed 53 [x0, x1, x2, x3, x4, x5, x6, x7, x8] (.int y :: .ref x :: st) h = Run M_X6_addPlayed 54 [x0, x1, x2, x3, x4, x5, x6, x7, x8] (.int y :: .ref x :: .int y :: .ref x :: st) h := R_dup2 d_X6_addPlayed_53
theorem d_X6_addPlayed_54 : decode (mB M_X6_addPlayed) 54 = .ok (.laload, 1) := by decide +kernel
theorem r_X6_addPlayed_54 {x0 x1 x2 x3 x4 x5 x6 x7 x8 : Value} {a : Nat} {i : Int32} {st : List Value} {h : AH} : Run M_X6_addPlayed 54 [x0, x1, x2, x3, x4, x5, x6, x7, x8] (.int i :: .ref a :: st) h = if (gJ h a i).isSome = true then Run M_X6_addPlayed 55 [x0, x1, x2, x3, x4, x5, x6, x7, x8] (.long ((gJ h a i).getD 0) :: st) h else none := R_laload d_X6_addPlayed_54
theorem d_X6_addPlayed_55 : decode (mB M_X6_addPlayed) 55 = .ok (.aload_n 1, 1) := by decide +kernel
theorem r_X6_addPlayed_55 {x0 x2 x3 x4 x5 x6 x7 x8 : Value} {a : Nat} {st : List Value} {h : AH} : Run M_X6_addPlayed 55 [x0, .ref a, x2, x3, x4, x5, x6, x7, x8] st h = Run M_X6_addPlayed 56 [x0, .ref a, x2, x3, x4, x5, x6, x7, x8] (.ref a :: st) h := R_aload_n d_X6_addPlayed_55 rfl
theorem d_X6_addPlayed_56 : decode (mB M_X6_addPlayed) 56 = .ok (.iload 8, 2) := by decide +kernel
theorem r_X6_addPlayed_56 {x0 x1 x2 x3 x4 x5 x6 x7 : Value} {a : Int32} {st : List Value} {h : AH} : Run M_X6_addPlayed 56 [x0, x1, x2, x3, x4, x5, x6, x7, .int a] st h = Run M_X6_addPlayed 58 [x0, x1, x2, x3, x4, x5, x6, x7, .int a] (.int a :: st) h := R_iload d_X6_addPlayed_56 rfl
theorem d_X6_addPlayed_58 : decode (mB M_X6_addPlayed) 58 = .ok (.laload, 1) := by decide +kernel
theorem r_X6_addPlayed_58 {x0 x1 x2 x3 x4 x5 x6 x7 x8 : Value} {a : Nat} {i : Int32} {st : List Value} {h : AH} : Run M_X6_addPlayed 58 [x0, x1, x2, x3, x4, x5, x6, x7, x8] (.int i :: .ref a :: st) h = if (gJ h a i).isSome = true then Run M_X6_addPlayed 59 [x0, x1, x2, x3, x4, x5, x6, x7, x8] (.long ((gJ h a i).getD 0) :: st) h else none := R_laload d_X6_addPlayed_58
theorem d_X6_addPlayed_59 : decode (mB M_X6_addPlayed) 59 = .ok (.lload 4, 2) := by decide +kernel
theorem r_X6_addPlayed_59 {x0 x1 x2 x3 x5 x6 x7 x8 : Value} {a : Int64} {st : List Value} {h : AH} : Run M_X6_addPlayed 59 [x0, x1, x2, x3, .long a, x5, x6, x7, x8] st h = Run M_X6_addPlayed 61 [x0, x1, x2, x3, .long a, x5, x6, x7, x8] (.long a :: st) h := R_lload d_X6_addPlayed_59 rfl
theorem d_X6_addPlayed_61 : decode (mB M_X6_addPlayed) 61 = .ok (.lmul, 1) := by decide +kernel
theorem r_X6_addPlayed_61 {x0 x1 x2 x3 x4 x5 x6 x7 x8 : Value} {x y : Int64} {st : List Value} {h : AH} : Run M_X6_addPlayed 61 [x0, x1, x2, x3, x4, x5, x6, x7, x8] (.long y :: .long x :: st) h = Run M_X6_addPlayed 62 [x0, x1, x2, x3, x4, x5, x6, x7, x8] (.long (x * y) :: st) h := R_lmul d_X6_addPlayed_61
theorem d_X6_addPlayed_62 : decode (mB M_X6_addPlayed) 62 = .ok (.ladd, 1) := by decide +kernel
theorem r_X6_addPlayed_62 {x0 x1 x2 x3 x4 x5 x6 x7 x8 : Value} {x y : Int64} {st : List Value} {h : AH} : Run M_X6_addPlayed 62 [x0, x1, x2, x3, x4, x5, x6, x7, x8] (.long y :: .long x :: st) h = Run M_X6_addPlayed 63 [x0, x1, x2, x3, x4, x5, x6, x7, x8] (.long (x + y) :: st) h := R_ladd d_X6_addPlayed_62
theorem d_X6_addPlayed_63 : decode (mB M_X6_addPlayed) 63 = .ok (.lastore, 1) := by decide +kernel
theorem r_X6_addPlayed_63 {x0 x1 x2 x3 x4 x5 x6 x7 x8 : Value} {a : Nat} {i : Int32} {x : Int64} {st : List Value} {h : AH} : Run M_X6_addPlayed 63 [x0, x1, x2, x3, x4, x5, x6, x7, x8] (.long x :: .int i :: .ref a :: st) h = if (pJ h a i x).isSome = true then Run M_X6_addPlayed 64 [x0, x1, x2, x3, x4, x5, x6, x7, x8] st ((pJ h a i x).getD h) else none := R_lastore d_X6_addPlayed_63
theorem d_X6_addPlayed_64 : decode (mB M_X6_addPlayed) 64 = .ok (.iinc 8 1, 3) := by decide +kernel
theorem r_X6_addPlayed_64 {x0 x1 x2 x3 x4 x5 x6 x7 : Value} {a : Int32} {st : List Value} {h : AH} (hc : x7.category = 1) : Run M_X6_addPlayed 64 [x0, x1, x2, x3, x4, x5, x6, x7, .int a] st h = Run M_X6_addPlayed 67 [x0, x1, x2, x3, x4, x5, x6, x7, .int (a + (nI 1))] st h := R_iinc d_X6_addPlayed_64 (by decide) rfl (catP_of rfl hc)
theorem d_X6_addPlayed_67 : decode (mB M_X6_addPlayed) 67 = .ok (.goto (-36), 3) := by decide +kernel
theorem r_X6_addPlayed_67 {x0 x1 x2 x3 x4 x5 x6 x7 x8 : Value} {st : List Value} {h : AH} : Run M_X6_addPlayed 67 [x0, x1, x2, x3, x4, x5, x6, x7, x8] st h = Run M_X6_addPlayed 31 [x0, x1, x2, x3, x4, x5, x6, x7, x8] st h := R_goto d_X6_addPlayed_67 (by decide)
theorem d_X6_addPlayed_70 : decode (mB M_X6_addPlayed) 70 = .ok (.iinc 6 1, 3) := by decide +kernel
theorem r_X6_addPlayed_70 {x0 x1 x2 x3 x4 x5 x7 x8 : Value} {a : Int32} {st : List Value} {h : AH} (hc : x5.category = 1) : Run M_X6_addPlayed 70 [x0, x1, x2, x3, x4, x5, .int a, x7, x8] st h = Run M_X6_addPlayed 73 [x0, x1, x2, x3, x4, x5, .int (a + (nI 1)), x7, x8] st h := R_iinc d_X6_addPlayed_70 (by decide) rfl (catP_of rfl hc)
theorem d_X6_addPlayed_73 : decode (mB M_X6_addPlayed) 73 = .ok (.goto (-63), 3) := by decide +kernel
theorem r_X6_addPlayed_73 {x0 x1 x2 x3 x4 x5 x6 x7 x8 : Value} {st : List Value} {h : AH} : Run M_X6_addPlayed 73 [x0, x1, x2, x3, x4, x5, x6, x7, x8] st h = Run M_X6_addPlayed 10 [x0, x1, x2, x3, x4, x5, x6, x7, x8] st h := R_goto d_X6_addPlayed_73 (by decide)
theorem d_X6_addPlayed_76 : decode (mB M_X6_addPlayed) 76 = .ok (.return_, 1) := by decide +kernel
theorem r_X6_addPlayed_76 {x0 x1 x2 x3 x4 x5 x6 x7 x8 : Value} {h : AH} : Run M_X6_addPlayed 76 [x0, x1, x2, x3, x4, x5, x6, x7, x8] [] h = some (h, none) := R_return d_X6_addPlayed_76 rfl
theorem d_X6_addLeftOut_0 : decode (mB M_X6_addLeftOut) 0 = .ok (.aload_n 0, 1) := by decide +kernel
theorem r_X6_addLeftOut_0 {x1 x2 x3 x4 x5 x6 : Value} {a : Nat} {st : List Value} {h : AH} : Run M_X6_addLeftOut 0 [.ref a, x1, x2, x3, x4, x5, x6] st h = Run M_X6_addLeftOut 1 [.ref a, x1, x2, x3, x4, x5, x6] (.ref a :: st) h := R_aload_n d_X6_addLeftOut_0 rfl
theorem d_X6_addLeftOut_1 : decode (mB M_X6_addLeftOut) 1 = .ok (.getfield 15, 3) := by decide +kernel
theorem r_X6_addLeftOut_1 {x0 x1 x2 x3 x4 x5 x6 : Value} {a : Nat} {st : List Value} {h : AH} : Run M_X6_addLeftOut 1 [x0, x1, x2, x3, x4, x5, x6] (.ref a :: st) h = if (gF h a 6 1).isSome = true then Run M_X6_addLeftOut 4 [x0, x1, x2, x3, x4, x5, x6] ((gF h a 6 1).getD .null :: st) h else none := R_getfield d_X6_addLeftOut_1 rfl
theorem d_X6_addLeftOut_4 : decode (mB M_X6_addLeftOut) 4 = .ok (.i2l, 1) := by decide +kernel
theorem r_X6_addLeftOut_4 {x0 x1 x2 x3 x4 x5 x6 : Value} {x : Int32} {st : List Value} {h : AH} : Run M_X6_addLeftOut 4 [x0, x1, x2, x3, x4, x5, x6] (.int x :: st) h = Run M_X6_addLeftOut 5 [x0, x1, x2, x3, x4, x5, x6] (.long x.toInt64 :: st) h := R_i2l d_X6_addLeftOut_4
theorem d_X6_addLeftOut_5 : decode (mB M_X6_addLeftOut) 5 = .ok (.aload_n 0, 1) := by decide +kernel
theorem r_X6_addLeftOut_5 {x1 x2 x3 x4 x5 x6 : Value} {a : Nat} {st : List Value} {h : AH} : Run M_X6_addLeftOut 5 [.ref a, x1, x2, x3, x4, x5, x6] st h = Run M_X6_addLeftOut 6 [.ref a, x1, x2, x3, x4, x5, x6] (.ref a :: st) h := R_aload_n d_X6_addLeftOut_5 rfl
theorem d_X6_addLeftOut_6 : decode (mB M_X6_addLeftOut) 6 = .ok (.getfield 19, 3) := by decide +kernel
theorem r_X6_addLeftOut_6 {x0 x1 x2 x3 x4 x5 x6 : Value} {a : Nat} {st : List Value} {h : AH} : Run M_X6_addLeftOut 6 [x0, x1, x2, x3, x4, x5, x6] (.ref a :: st) h = if (gF h a 6 3).isSome = true then Run M_X6_addLeftOut 9 [x0, x1, x2, x3, x4, x5, x6] ((gF h a 6 3).getD .null :: st) h else none := R_getfield d_X6_addLeftOut_6 rfl
theorem d_X6_addLeftOut_9 : decode (mB M_X6_addLeftOut) 9 = .ok (.i2l, 1) := by decide +kernel
theorem r_X6_addLeftOut_9 {x0 x1 x2 x3 x4 x5 x6 : Value} {x : Int32} {st : List Value} {h : AH} : Run M_X6_addLeftOut 9 [x0, x1, x2, x3, x4, x5, x6] (.int x :: st) h = Run M_X6_addLeftOut 10 [x0, x1, x2, x3, x4, x5, x6] (.long x.toInt64 :: st) h := R_i2l d_X6_addLeftOut_9
theorem d_X6_addLeftOut_10 : decode (mB M_X6_addLeftOut) 10 = .ok (.lmul, 1) := by decide +kernel
theorem r_X6_addLeftOut_10 {x0 x1 x2 x3 x4 x5 x6 : Value} {x y : Int64} {st : List Value} {h : AH} : Run M_X6_addLeftOut 10 [x0, x1, x2, x3, x4, x5, x6] (.long y :: .long x :: st) h = Run M_X6_addLeftOut 11 [x0, x1, x2, x3, x4, x5, x6] (.long (x * y) :: st) h := R_lmul d_X6_addLeftOut_10
theorem d_X6_addLeftOut_11 : decode (mB M_X6_addLeftOut) 11 = .ok (.lstore 4, 2) := by decide +kernel
theorem r_X6_addLeftOut_11 {x0 x1 x2 x3 x4 x5 x6 : Value} {a : Int64} {st : List Value} {h : AH} (hc : x3.category = 1) : Run M_X6_addLeftOut 11 [x0, x1, x2, x3, x4, x5, x6] (.long a :: st) h = Run M_X6_addLeftOut 13 [x0, x1, x2, x3, .long a, .null, x6] st h := R_lstore d_X6_addLeftOut_11 (Nat.lt_of_lt_of_le (by decide : 5 < 7) (Nat.le_refl 7)) (catP_of rfl hc)
theorem d_X6_addLeftOut_13 : decode (mB M_X6_addLeftOut) 13 = .ok (.iconst 0, 1) := by decide +kernel
theorem r_X6_addLeftOut_13 {x0 x1 x2 x3 x4 x5 x6 : Value} {st : List Value} {h : AH} : Run M_X6_addLeftOut 13 [x0, x1, x2, x3, x4, x5, x6] st h = Run M_X6_addLeftOut 14 [x0, x1, x2, x3, x4, x5, x6] (.int (nI 0) :: st) h := R_iconst d_X6_addLeftOut_13 (by decide)
theorem d_X6_addLeftOut_14 : decode (mB M_X6_addLeftOut) 14 = .ok (.istore 6, 2) := by decide +kernel
theorem r_X6_addLeftOut_14 {x0 x1 x2 x3 x4 x5 x6 : Value} {a : Int32} {st : List Value} {h : AH} (hc : x5.category = 1) : Run M_X6_addLeftOut 14 [x0, x1, x2, x3, x4, x5, x6] (.int a :: st) h = Run M_X6_addLeftOut 16 [x0, x1, x2, x3, x4, x5, .int a] st h := R_istore d_X6_addLeftOut_14 (Nat.lt_of_lt_of_le (by decide : 6 < 7) (Nat.le_refl 7)) (catP_of rfl hc)
theorem d_X6_addLeftOut_16 : decode (mB M_X6_addLeftOut) 16 = .ok (.iload 6, 2) := by decide +kernel
theorem r_X6_addLeftOut_16 {x0 x1 x2 x3 x4 x5 : Value} {a : Int32} {st : List Value} {h : AH} : Run M_X6_addLeftOut 16 [x0, x1, x2, x3, x4, x5, .int a] st h = Run M_X6_addLeftOut 18 [x0, x1, x2, x3, x4, x5, .int a] (.int a :: st) h := R_iload d_X6_addLeftOut_16 rfl
theorem d_X6_addLeftOut_18 : decode (mB M_X6_addLeftOut) 18 = .ok (.iload_n 3, 1) := by decide +kernel
theorem r_X6_addLeftOut_18 {x0 x1 x2 x4 x5 x6 : Value} {a : Int32} {st : List Value} {h : AH} : Run M_X6_addLeftOut 18 [x0, x1, x2, .int a, x4, x5, x6] st h = Run M_X6_addLeftOut 19 [x0, x1, x2, .int a, x4, x5, x6] (.int a :: st) h := R_iload_n d_X6_addLeftOut_18 rfl
theorem d_X6_addLeftOut_19 : decode (mB M_X6_addLeftOut) 19 = .ok (.if_icmp .gt 30, 3) := by decide +kernel
theorem r_X6_addLeftOut_19 {x0 x1 x2 x3 x4 x5 x6 : Value} {x y : Int32} {st : List Value} {h : AH} : Run M_X6_addLeftOut 19 [x0, x1, x2, x3, x4, x5, x6] (.int y :: .int x :: st) h = if y < x then Run M_X6_addLeftOut 49 [x0, x1, x2, x3, x4, x5, x6] st h else Run M_X6_addLeftOut 22 [x0, x1, x2, x3, x4, x5, x6] st h := R_icmp_gt d_X6_addLeftOut_19 (by decide)
theorem d_X6_addLeftOut_22 : decode (mB M_X6_addLeftOut) 22 = .ok (.iload 6, 2) := by decide +kernel
theorem r_X6_addLeftOut_22 {x0 x1 x2 x3 x4 x5 : Value} {a : Int32} {st : List Value} {h : AH} : Run M_X6_addLeftOut 22 [x0, x1, x2, x3, x4, x5, .int a] st h = Run M_X6_addLeftOut 24 [x0, x1, x2, x3, x4, x5, .int a] (.int a :: st) h := R_iload d_X6_addLeftOut_22 rfl
theorem d_X6_addLeftOut_24 : decode (mB M_X6_addLeftOut) 24 = .ok (.aload_n 2, 1) := by decide +kernel
theorem r_X6_addLeftOut_24 {x0 x1 x3 x4 x5 x6 : Value} {a : Nat} {st : List Value} {h : AH} : Run M_X6_addLeftOut 24 [x0, x1, .ref a, x3, x4, x5, x6] st h = Run M_X6_addLeftOut 25 [x0, x1, .ref a, x3, x4, x5, x6] (.ref a :: st) h := R_aload_n d_X6_addLeftOut_24 rfl
theorem d_X6_addLeftOut_25 : decode (mB M_X6_addLeftOut) 25 = .ok (.arraylength, 1) := by decide +kernel
theorem r_X6_addLeftOut_25 {x0 x1 x2 x3 x4 x5 x6 : Value} {a : Nat} {st : List Value} {h : AH} : Run M_X6_addLeftOut 25 [x0, x1, x2, x3, x4, x5, x6] (.ref a :: st) h = if (gN h a).isSome = true then Run M_X6_addLeftOut 26 [x0, x1, x2, x3, x4, x5, x6] (.int (Int32.ofNat ((gN h a).getD 0)) :: st) h else none := R_arraylength d_X6_addLeftOut_25
theorem d_X6_addLeftOut_26 : decode (mB M_X6_addLeftOut) 26 = .ok (.if_icmp .ge 23, 3) := by decide +kernel
theorem r_X6_addLeftOut_26 {x0 x1 x2 x3 x4 x5 x6 : Value} {x y : Int32} {st : List Value} {h : AH} : Run M_X6_addLeftOut 26 [x0, x1, x2, x3, x4, x5, x6] (.int y :: .int x :: st) h = if y ≤ x then Run M_X6_addLeftOut 49 [x0, x1, x2, x3, x4, x5, x6] st h else Run M_X6_addLeftOut 29 [x0, x1, x2, x3, x4, x5, x6] st h := R_icmp_ge d_X6_addLeftOut_26 (by decide)
theorem d_X6_addLeftOut_29 : decode (mB M_X6_addLeftOut) 29 = .ok (.aload_n 2, 1) := by decide +kernel
theorem r_X6_addLeftOut_29 {x0 x1 x3 x4 x5 x6 : Value} {a : Nat} {st : List Value} {h : AH} : Run M_X6_addLeftOut 29 [x0, x1, .ref a, x3, x4, x5, x6] st h = Run M_X6_addLeftOut 30 [x0, x1, .ref a, x3, x4, x5, x6] (.ref a :: st) h := R_aload_n d_X6_addLeftOut_29 rfl
theorem d_X6_addLeftOut_30 : decode (mB M_X6_addLeftOut) 30 = .ok (.iload 6, 2) := by decide +kernel
theorem r_X6_addLeftOut_30 {x0 x1 x2 x3 x4 x5 : Value} {a : Int32} {st : List Value} {h : AH} : Run M_X6_addLeftOut 30 [x0, x1, x2, x3, x4, x5, .int a] st h = Run M_X6_addLeftOut 32 [x0, x1, x2, x3, x4, x5, .int a] (.int a :: st) h := R_iload d_X6_addLeftOut_30 rfl
theorem d_X6_addLeftOut_32 : decode (mB M_X6_addLeftOut) 32 = .ok (.dup2, 1) := by decide +kernel
theorem r_X6_addLeftOut_32 {x0 x1 x2 x3 x4 x5 x6 : Value} {x : Nat} {y : Int32} {st : List Value} {h : AH} : Run M_X6_addLeftOut 32 [x0, x1, x2, x3, x4, x5, x6] (.int y :: .ref x :: st) h = Run M_X6_addLeftOut 33 [x0, x1, x2, x3, x4, x5, x6] (.int y :: .ref x :: .int y :: .ref x :: st) h := R_dup2 d_X6_addLeftOut_32
theorem d_X6_addLeftOut_33 : decode (mB M_X6_addLeftOut) 33 = .ok (.laload, 1) := by decide +kernel
theorem r_X6_addLeftOut_33 {x0 x1 x2 x3 x4 x5 x6 : Value} {a : Nat} {i : Int32} {st : List Value} {h : AH} : Run M_X6_addLeftOut 33 [x0, x1, x2, x3, x4, x5, x6] (.int i :: .ref a :: st) h = if (gJ h a i).isSome = true then Run M_X6_addLeftOut 34 [x0, x1, x2, x3, x4, x5, x6] (.long ((gJ h a i).getD 0) :: st) h else none := R_laload d_X6_addLeftOut_33
theorem d_X6_addLeftOut_34 : decode (mB M_X6_addLeftOut) 34 = .ok (.aload_n 1, 1) := by decide +kernel
theorem r_X6_addLeftOut_34 {x0 x2 x3 x4 x5 x6 : Value} {a : Nat} {st : List Value} {h : AH} : Run M_X6_addLeftOut 34 [x0, .ref a, x2, x3, x4, x5, x6] st h = Run M_X6_addLeftOut 35 [x0, .ref a, x2, x3, x4, x5, x6] (.ref a :: st) h := R_aload_n d_X6_addLeftOut_34 rfl
theorem d_X6_addLeftOut_35 : decode (mB M_X6_addLeftOut) 35 = .ok (.iload 6, 2) := by decide +kernel
theorem r_X6_addLeftOut_35 {x0 x1 x2 x3 x4 x5 : Value} {a : Int32} {st : List Value} {h : AH} : Run M_X6_addLeftOut 35 [x0, x1, x2, x3, x4, x5, .int a] st h = Run M_X6_addLeftOut 37 [x0, x1, x2, x3, x4, x5, .int a] (.int a :: st) h := R_iload d_X6_addLeftOut_35 rfl
theorem d_X6_addLeftOut_37 : decode (mB M_X6_addLeftOut) 37 = .ok (.laload, 1) := by decide +kernel
theorem r_X6_addLeftOut_37 {x0 x1 x2 x3 x4 x5 x6 : Value} {a : Nat} {i : Int32} {st : List Value} {h : AH} : Run M_X6_addLeftOut 37 [x0, x1, x2, x3, x4, x5, x6] (.int i :: .ref a :: st) h = if (gJ h a i).isSome = true then Run M_X6_addLeftOut 38 [x0, x1, x2, x3, x4, x5, x6] (.long ((gJ h a i).getD 0) :: st) h else none := R_laload d_X6_addLeftOut_37
theorem d_X6_addLeftOut_38 : decode (mB M_X6_addLeftOut) 38 = .ok (.lload 4, 2) := by decide +kernel
theorem r_X6_addLeftOut_38 {x0 x1 x2 x3 x5 x6 : Value} {a : Int64} {st : List Value} {h : AH} : Run M_X6_addLeftOut 38 [x0, x1, x2, x3, .long a, x5, x6] st h = Run M_X6_addLeftOut 40 [x0, x1, x2, x3, .long a, x5, x6] (.long a :: st) h := R_lload d_X6_addLeftOut_38 rfl
theorem d_X6_addLeftOut_40 : decode (mB M_X6_addLeftOut) 40 = .ok (.lmul, 1) := by decide +kernel
theorem r_X6_addLeftOut_40 {x0 x1 x2 x3 x4 x5 x6 : Value} {x y : Int64} {st : List Value} {h : AH} : Run M_X6_addLeftOut 40 [x0, x1, x2, x3, x4, x5, x6] (.long y :: .long x :: st) h = Run M_X6_addLeftOut 41 [x0, x1, x2, x3, x4, x5, x6] (.long (x * y) :: st) h := R_lmul d_X6_addLeftOut_40
theorem d_X6_addLeftOut_41 : decode (mB M_X6_addLeftOut) 41 = .ok (.ladd, 1) := by decide +kernel
theorem r_X6_addLeftOut_41 {x0 x1 x2 x3 x4 x5 x6 : Value} {x y : Int64} {st : List Value} {h : AH} : Run M_X6_addLeftOut 41 [x0, x1, x2, x3, x4, x5, x6] (.long y :: .long x :: st) h = Run M_X6_addLeftOut 42 [x0, x1, x2, x3, x4, x5, x6] (.long (x + y) :: st) h := R_ladd d_X6_addLeftOut_41
theorem d_X6_addLeftOut_42 : decode (mB M_X6_addLeftOut) 42 = .ok (.lastore, 1) := by decide +kernel
theorem r_X6_addLeftOut_42 {x0 x1 x2 x3 x4 x5 x6 : Value} {a : Nat} {i : Int32} {x : Int64} {st : List Value} {h : AH} : Run M_X6_addLeftOut 42 [x0, x1, x2, x3, x4, x5, x6] (.long x :: .int i :: .ref a :: st) h = if (pJ h a i x).isSome = true then Run M_X6_addLeftOut 43 [x0, x1, x2, x3, x4, x5, x6] st ((pJ h a i x).getD h) else none := R_lastore d_X6_addLeftOut_42
theorem d_X6_addLeftOut_43 : decode (mB M_X6_addLeftOut) 43 = .ok (.iinc 6 1, 3) := by decide +kernel
theorem r_X6_addLeftOut_43 {x0 x1 x2 x3 x4 x5 : Value} {a : Int32} {st : List Value} {h : AH} (hc : x5.category = 1) : Run M_X6_addLeftOut 43 [x0, x1, x2, x3, x4, x5, .int a] st h = Run M_X6_addLeftOut 46 [x0, x1, x2, x3, x4, x5, .int (a + (nI 1))] st h := R_iinc d_X6_addLeftOut_43 (by decide) rfl (catP_of rfl hc)
theorem d_X6_addLeftOut_46 : decode (mB M_X6_addLeftOut) 46 = .ok (.goto (-30), 3) := by decide +kernel
theorem r_X6_addLeftOut_46 {x0 x1 x2 x3 x4 x5 x6 : Value} {st : List Value} {h : AH} : Run M_X6_addLeftOut 46 [x0, x1, x2, x3, x4, x5, x6] st h = Run M_X6_addLeftOut 16 [x0, x1, x2, x3, x4, x5, x6] st h := R_goto d_X6_addLeftOut_46 (by decide)
theorem d_X6_addLeftOut_49 : decode (mB M_X6_addLeftOut) 49 = .ok (.return_, 1) := by decide +kernel
theorem r_X6_addLeftOut_49 {x0 x1 x2 x3 x4 x5 x6 : Value} {h : AH} : Run M_X6_addLeftOut 49 [x0, x1, x2, x3, x4, x5, x6] [] h = some (h, none) := R_return d_X6_addLeftOut_49 rfl
theorem d_J6_bitCount_0f7a4_0 : decode (mB M_J6_bitCount_0f7a4) 0 = .ok (.iload_n 0, 1) := by decide +kernel
theorem r_J6_bitCount_0f7a4_0 {a : Int32} {st : List Value} {h : AH} : Run M_J6_bitCount_0f7a4 0 [.int a] st h = Run M_J6_bitCount_0f7a4 1 [.int a] (.int a :: st) h := R_iload_n d_J6_bitCount_0f7a4_0 rfl
theorem d_J6_bitCount_0f7a4_1 : decode (mB M_J6_bitCount_0f7a4) 1 = .ok (.iload_n 0, 1) := by decide +kernel
theorem r_J6_bitCount_0f7a4_1 {a : Int32} {st : List Value} {h : AH} : Run M_J6_bitCount_0f7a4 1 [.int a] st h = Run M_J6_bitCount_0f7a4 2 [.int a] (.int a :: st) h := R_iload_n d_J6_bitCount_0f7a4_1 rfl
theorem d_J6_bitCount_0f7a4_2 : decode (mB M_J6_bitCount_0f7a4) 2 = .ok (.iconst 1, 1) := by decide +kernel
theorem r_J6_bitCount_0f7a4_2 {x0 : Value} {st : List Value} {h : AH} : Run M_J6_bitCount_0f7a4 2 [x0] st h = Run M_J6_bitCount_0f7a4 3 [x0] (.int (nI 1) :: st) h := R_iconst d_J6_bitCount_0f7a4_2 (by decide)
theorem d_J6_bitCount_0f7a4_3 : decode (mB M_J6_bitCount_0f7a4) 3 = .ok (.iushr, 1) := by decide +kernel
theorem r_J6_bitCount_0f7a4_3 {x0 : Value} {x y : Int32} {st : List Value} {h : AH} : Run M_J6_bitCount_0f7a4 3 [x0] (.int y :: .int x :: st) h = Run M_J6_bitCount_0f7a4 4 [x0] (.int ((x.toUInt32 >>> (y.toUInt32 &&& Int32.toUInt32 31)).toInt32) :: st) h := R_iushr d_J6_bitCount_0f7a4_3
theorem d_J6_bitCount_0f7a4_4 : decode (mB M_J6_bitCount_0f7a4) 4 = .ok (.ldc_w 265, 3) := by decide +kernel
theorem r_J6_bitCount_0f7a4_4 {x0 : Value} {st : List Value} {h : AH} : Run M_J6_bitCount_0f7a4 4 [x0] st h = Run M_J6_bitCount_0f7a4 7 [x0] (.int (nI 1431655765) :: st) h := R_ldc_w d_J6_bitCount_0f7a4_4 (by decide)
theorem d_J6_bitCount_0f7a4_7 : decode (mB M_J6_bitCount_0f7a4) 7 = .ok (.iand, 1) := by decide +kernel
theorem r_J6_bitCount_0f7a4_7 {x0 : Value} {x y : Int32} {st : List Value} {h : AH} : Run M_J6_bitCount_0f7a4 7 [x0] (.int y :: .int x :: st) h = Run M_J6_bitCount_0f7a4 8 [x0] (.int (x &&& y) :: st) h := R_iand d_J6_bitCount_0f7a4_7
theorem d_J6_bitCount_0f7a4_8 : decode (mB M_J6_bitCount_0f7a4) 8 = .ok (.isub, 1) := by decide +kernel
theorem r_J6_bitCount_0f7a4_8 {x0 : Value} {x y : Int32} {st : List Value} {h : AH} : Run M_J6_bitCount_0f7a4 8 [x0] (.int y :: .int x :: st) h = Run M_J6_bitCount_0f7a4 9 [x0] (.int (x - y) :: st) h := R_isub d_J6_bitCount_0f7a4_8
theorem d_J6_bitCount_0f7a4_9 : decode (mB M_J6_bitCount_0f7a4) 9 = .ok (.istore_n 0, 1) := by decide +kernel
theorem r_J6_bitCount_0f7a4_9 {x0 : Value} {a : Int32} {st : List Value} {h : AH} : Run M_J6_bitCount_0f7a4 9 [x0] (.int a :: st) h = Run M_J6_bitCount_0f7a4 10 [.int a] st h := R_istore_n d_J6_bitCount_0f7a4_9 (Nat.lt_of_lt_of_le (by decide : 0 < 1) (Nat.le_refl 1)) rfl
theorem d_J6_bitCount_0f7a4_10 : decode (mB M_J6_bitCount_0f7a4) 10 = .ok (.iload_n 0, 1) := by decide +kernel
theorem r_J6_bitCount_0f7a4_10 {a : Int32} {st : List Value} {h : AH} : Run M_J6_bitCount_0f7a4 10 [.int a] st h = Run M_J6_bitCount_0f7a4 11 [.int a] (.int a :: st) h := R_iload_n d_J6_bitCount_0f7a4_10 rfl
theorem d_J6_bitCount_0f7a4_11 : decode (mB M_J6_bitCount_0f7a4) 11 = .ok (.ldc_w 266, 3) := by decide +kernel
theorem r_J6_bitCount_0f7a4_11 {x0 : Value} {st : List Value} {h : AH} : Run M_J6_bitCount_0f7a4 11 [x0] st h = Run M_J6_bitCount_0f7a4 14 [x0] (.int (nI 858993459) :: st) h := R_ldc_w d_J6_bitCount_0f7a4_11 (by decide)
theorem d_J6_bitCount_0f7a4_14 : decode (mB M_J6_bitCount_0f7a4) 14 = .ok (.iand, 1) := by decide +kernel
theorem r_J6_bitCount_0f7a4_14 {x0 : Value} {x y : Int32} {st : List Value} {h : AH} : Run M_J6_bitCount_0f7a4 14 [x0] (.int y :: .int x :: st) h = Run M_J6_bitCount_0f7a4 15 [x0] (.int (x &&& y) :: st) h := R_iand d_J6_bitCount_0f7a4_14
theorem d_J6_bitCount_0f7a4_15 : decode (mB M_J6_bitCount_0f7a4) 15 = .ok (.iload_n 0, 1) := by decide +kernel
theorem r_J6_bitCount_0f7a4_15 {a : Int32} {st : List Value} {h : AH} : Run M_J6_bitCount_0f7a4 15 [.int a] st h = Run M_J6_bitCount_0f7a4 16 [.int a] (.int a :: st) h := R_iload_n d_J6_bitCount_0f7a4_15 rfl
theorem d_J6_bitCount_0f7a4_16 : decode (mB M_J6_bitCount_0f7a4) 16 = .ok (.iconst 2, 1) := by decide +kernel
theorem r_J6_bitCount_0f7a4_16 {x0 : Value} {st : List Value} {h : AH} : Run M_J6_bitCount_0f7a4 16 [x0] st h = Run M_J6_bitCount_0f7a4 17 [x0] (.int (nI 2) :: st) h := R_iconst d_J6_bitCount_0f7a4_16 (by decide)
theorem d_J6_bitCount_0f7a4_17 : decode (mB M_J6_bitCount_0f7a4) 17 = .ok (.iushr, 1) := by decide +kernel
theorem r_J6_bitCount_0f7a4_17 {x0 : Value} {x y : Int32} {st : List Value} {h : AH} : Run M_J6_bitCount_0f7a4 17 [x0] (.int y :: .int x :: st) h = Run M_J6_bitCount_0f7a4 18 [x0] (.int ((x.toUInt32 >>> (y.toUInt32 &&& Int32.toUInt32 31)).toInt32) :: st) h := R_iushr d_J6_bitCount_0f7a4_17
theorem d_J6_bitCount_0f7a4_18 : decode (mB M_J6_bitCount_0f7a4) 18 = .ok (.ldc_w 266, 3) := by decide +kernel
theorem r_J6_bitCount_0f7a4_18 {x0 : Value} {st : List Value} {h : AH} : Run M_J6_bitCount_0f7a4 18 [x0] st h = Run M_J6_bitCount_0f7a4 21 [x0] (.int (nI 858993459) :: st) h := R_ldc_w d_J6_bitCount_0f7a4_18 (by decide)
theorem d_J6_bitCount_0f7a4_21 : decode (mB M_J6_bitCount_0f7a4) 21 = .ok (.iand, 1) := by decide +kernel
theorem r_J6_bitCount_0f7a4_21 {x0 : Value} {x y : Int32} {st : List Value} {h : AH} : Run M_J6_bitCount_0f7a4 21 [x0] (.int y :: .int x :: st) h = Run M_J6_bitCount_0f7a4 22 [x0] (.int (x &&& y) :: st) h := R_iand d_J6_bitCount_0f7a4_21
theorem d_J6_bitCount_0f7a4_22 : decode (mB M_J6_bitCount_0f7a4) 22 = .ok (.iadd, 1) := by decide +kernel
theorem r_J6_bitCount_0f7a4_22 {x0 : Value} {x y : Int32} {st : List Value} {h : AH} : Run M_J6_bitCount_0f7a4 22 [x0] (.int y :: .int x :: st) h = Run M_J6_bitCount_0f7a4 23 [x0] (.int (x + y) :: st) h := R_iadd d_J6_bitCount_0f7a4_22
theorem d_J6_bitCount_0f7a4_23 : decode (mB M_J6_bitCount_0f7a4) 23 = .ok (.istore_n 0, 1) := by decide +kernel
theorem r_J6_bitCount_0f7a4_23 {x0 : Value} {a : Int32} {st : List Value} {h : AH} : Run M_J6_bitCount_0f7a4 23 [x0] (.int a :: st) h = Run M_J6_bitCount_0f7a4 24 [.int a] st h := R_istore_n d_J6_bitCount_0f7a4_23 (Nat.lt_of_lt_of_le (by decide : 0 < 1) (Nat.le_refl 1)) rfl
theorem d_J6_bitCount_0f7a4_24 : decode (mB M_J6_bitCount_0f7a4) 24 = .ok (.iload_n 0, 1) := by decide +kernel
theorem r_J6_bitCount_0f7a4_24 {a : Int32} {st : List Value} {h : AH} : Run M_J6_bitCount_0f7a4 24 [.int a] st h = Run M_J6_bitCount_0f7a4 25 [.int a] (.int a :: st) h := R_iload_n d_J6_bitCount_0f7a4_24 rfl
theorem d_J6_bitCount_0f7a4_25 : decode (mB M_J6_bitCount_0f7a4) 25 = .ok (.iload_n 0, 1) := by decide +kernel
theorem r_J6_bitCount_0f7a4_25 {a : Int32} {st : List Value} {h : AH} : Run M_J6_bitCount_0f7a4 25 [.int a] st h = Run M_J6_bitCount_0f7a4 26 [.int a] (.int a :: st) h := R_iload_n d_J6_bitCount_0f7a4_25 rfl
theorem d_J6_bitCount_0f7a4_26 : decode (mB M_J6_bitCount_0f7a4) 26 = .ok (.iconst 4, 1) := by decide +kernel
theorem r_J6_bitCount_0f7a4_26 {x0 : Value} {st : List Value} {h : AH} : Run M_J6_bitCount_0f7a4 26 [x0] st h = Run M_J6_bitCount_0f7a4 27 [x0] (.int (nI 4) :: st) h := R_iconst d_J6_bitCount_0f7a4_26 (by decide)
theorem d_J6_bitCount_0f7a4_27 : decode (mB M_J6_bitCount_0f7a4) 27 = .ok (.iushr, 1) := by decide +kernel
theorem r_J6_bitCount_0f7a4_27 {x0 : Value} {x y : Int32} {st : List Value} {h : AH} : Run M_J6_bitCount_0f7a4 27 [x0] (.int y :: .int x :: st) h = Run M_J6_bitCount_0f7a4 28 [x0] (.int ((x.toUInt32 >>> (y.toUInt32 &&& Int32.toUInt32 31)).toInt32) :: st) h := R_iushr d_J6_bitCount_0f7a4_27
theorem d_J6_bitCount_0f7a4_28 : decode (mB M_J6_bitCount_0f7a4) 28 = .ok (.iadd, 1) := by decide +kernel
theorem r_J6_bitCount_0f7a4_28 {x0 : Value} {x y : Int32} {st : List Value} {h : AH} : Run M_J6_bitCount_0f7a4 28 [x0] (.int y :: .int x :: st) h = Run M_J6_bitCount_0f7a4 29 [x0] (.int (x + y) :: st) h := R_iadd d_J6_bitCount_0f7a4_28
theorem d_J6_bitCount_0f7a4_29 : decode (mB M_J6_bitCount_0f7a4) 29 = .ok (.ldc_w 267, 3) := by decide +kernel
theorem r_J6_bitCount_0f7a4_29 {x0 : Value} {st : List Value} {h : AH} : Run M_J6_bitCount_0f7a4 29 [x0] st h = Run M_J6_bitCount_0f7a4 32 [x0] (.int (nI 252645135) :: st) h := R_ldc_w d_J6_bitCount_0f7a4_29 (by decide)
theorem d_J6_bitCount_0f7a4_32 : decode (mB M_J6_bitCount_0f7a4) 32 = .ok (.iand, 1) := by decide +kernel
theorem r_J6_bitCount_0f7a4_32 {x0 : Value} {x y : Int32} {st : List Value} {h : AH} : Run M_J6_bitCount_0f7a4 32 [x0] (.int y :: .int x :: st) h = Run M_J6_bitCount_0f7a4 33 [x0] (.int (x &&& y) :: st) h := R_iand d_J6_bitCount_0f7a4_32
theorem d_J6_bitCount_0f7a4_33 : decode (mB M_J6_bitCount_0f7a4) 33 = .ok (.istore_n 0, 1) := by decide +kernel
theorem r_J6_bitCount_0f7a4_33 {x0 : Value} {a : Int32} {st : List Value} {h : AH} : Run M_J6_bitCount_0f7a4 33 [x0] (.int a :: st) h = Run M_J6_bitCount_0f7a4 34 [.int a] st h := R_istore_n d_J6_bitCount_0f7a4_33 (Nat.lt_of_lt_of_le (by decide : 0 < 1) (Nat.le_refl 1)) rfl
theorem d_J6_bitCount_0f7a4_34 : decode (mB M_J6_bitCount_0f7a4) 34 = .ok (.iload_n 0, 1) := by decide +kernel
theorem r_J6_bitCount_0f7a4_34 {a : Int32} {st : List Value} {h : AH} : Run M_J6_bitCount_0f7a4 34 [.int a] st h = Run M_J6_bitCount_0f7a4 35 [.int a] (.int a :: st) h := R_iload_n d_J6_bitCount_0f7a4_34 rfl
theorem d_J6_bitCount_0f7a4_35 : decode (mB M_J6_bitCount_0f7a4) 35 = .ok (.iload_n 0, 1) := by decide +kernel
theorem r_J6_bitCount_0f7a4_35 {a : Int32} {st : List Value} {h : AH} : Run M_J6_bitCount_0f7a4 35 [.int a] st h = Run M_J6_bitCount_0f7a4 36 [.int a] (.int a :: st) h := R_iload_n d_J6_bitCount_0f7a4_35 rfl
theorem d_J6_bitCount_0f7a4_36 : decode (mB M_J6_bitCount_0f7a4) 36 = .ok (.bipush 8, 2) := by decide +kernel
theorem r_J6_bitCount_0f7a4_36 {x0 : Value} {st : List Value} {h : AH} : Run M_J6_bitCount_0f7a4 36 [x0] st h = Run M_J6_bitCount_0f7a4 38 [x0] (.int (nI 8) :: st) h := R_bipush d_J6_bitCount_0f7a4_36 (by decide)
theorem d_J6_bitCount_0f7a4_38 : decode (mB M_J6_bitCount_0f7a4) 38 = .ok (.iushr, 1) := by decide +kernel
theorem r_J6_bitCount_0f7a4_38 {x0 : Value} {x y : Int32} {st : List Value} {h : AH} : Run M_J6_bitCount_0f7a4 38 [x0] (.int y :: .int x :: st) h = Run M_J6_bitCount_0f7a4 39 [x0] (.int ((x.toUInt32 >>> (y.toUInt32 &&& Int32.toUInt32 31)).toInt32) :: st) h := R_iushr d_J6_bitCount_0f7a4_38
theorem d_J6_bitCount_0f7a4_39 : decode (mB M_J6_bitCount_0f7a4) 39 = .ok (.iadd, 1) := by decide +kernel
theorem r_J6_bitCount_0f7a4_39 {x0 : Value} {x y : Int32} {st : List Value} {h : AH} : Run M_J6_bitCount_0f7a4 39 [x0] (.int y :: .int x :: st) h = Run M_J6_bitCount_0f7a4 40 [x0] (.int (x + y) :: st) h := R_iadd d_J6_bitCount_0f7a4_39
theorem d_J6_bitCount_0f7a4_40 : decode (mB M_J6_bitCount_0f7a4) 40 = .ok (.istore_n 0, 1) := by decide +kernel
theorem r_J6_bitCount_0f7a4_40 {x0 : Value} {a : Int32} {st : List Value} {h : AH} : Run M_J6_bitCount_0f7a4 40 [x0] (.int a :: st) h = Run M_J6_bitCount_0f7a4 41 [.int a] st h := R_istore_n d_J6_bitCount_0f7a4_40 (Nat.lt_of_lt_of_le (by decide : 0 < 1) (Nat.le_refl 1)) rfl
theorem d_J6_bitCount_0f7a4_41 : decode (mB M_J6_bitCount_0f7a4) 41 = .ok (.iload_n 0, 1) := by decide +kernel
theorem r_J6_bitCount_0f7a4_41 {a : Int32} {st : List Value} {h : AH} : Run M_J6_bitCount_0f7a4 41 [.int a] st h = Run M_J6_bitCount_0f7a4 42 [.int a] (.int a :: st) h := R_iload_n d_J6_bitCount_0f7a4_41 rfl
theorem d_J6_bitCount_0f7a4_42 : decode (mB M_J6_bitCount_0f7a4) 42 = .ok (.iload_n 0, 1) := by decide +kernel
theorem r_J6_bitCount_0f7a4_42 {a : Int32} {st : List Value} {h : AH} : Run M_J6_bitCount_0f7a4 42 [.int a] st h = Run M_J6_bitCount_0f7a4 43 [.int a] (.int a :: st) h := R_iload_n d_J6_bitCount_0f7a4_42 rfl
theorem d_J6_bitCount_0f7a4_43 : decode (mB M_J6_bitCount_0f7a4) 43 = .ok (.bipush 16, 2) := by decide +kernel
theorem r_J6_bitCount_0f7a4_43 {x0 : Value} {st : List Value} {h : AH} : Run M_J6_bitCount_0f7a4 43 [x0] st h = Run M_J6_bitCount_0f7a4 45 [x0] (.int (nI 16) :: st) h := R_bipush d_J6_bitCount_0f7a4_43 (by decide)
theorem d_J6_bitCount_0f7a4_45 : decode (mB M_J6_bitCount_0f7a4) 45 = .ok (.iushr, 1) := by decide +kernel
theorem r_J6_bitCount_0f7a4_45 {x0 : Value} {x y : Int32} {st : List Value} {h : AH} : Run M_J6_bitCount_0f7a4 45 [x0] (.int y :: .int x :: st) h = Run M_J6_bitCount_0f7a4 46 [x0] (.int ((x.toUInt32 >>> (y.toUInt32 &&& Int32.toUInt32 31)).toInt32) :: st) h := R_iushr d_J6_bitCount_0f7a4_45
theorem d_J6_bitCount_0f7a4_46 : decode (mB M_J6_bitCount_0f7a4) 46 = .ok (.iadd, 1) := by decide +kernel
theorem r_J6_bitCount_0f7a4_46 {x0 : Value} {x y : Int32} {st : List Value} {h : AH} : Run M_J6_bitCount_0f7a4 46 [x0] (.int y :: .int x :: st) h = Run M_J6_bitCount_0f7a4 47 [x0] (.int (x + y) :: st) h := R_iadd d_J6_bitCount_0f7a4_46
theorem d_J6_bitCount_0f7a4_47 : decode (mB M_J6_bitCount_0f7a4) 47 = .ok (.istore_n 0, 1) := by decide +kernel
theorem r_J6_bitCount_0f7a4_47 {x0 : Value} {a : Int32} {st : List Value} {h : AH} : Run M_J6_bitCount_0f7a4 47 [x0] (.int a :: st) h = Run M_J6_bitCount_0f7a4 48 [.int a] st h := R_istore_n d_J6_bitCount_0f7a4_47 (Nat.lt_of_lt_of_le (by decide : 0 < 1) (Nat.le_refl 1)) rfl
theorem d_J6_bitCount_0f7a4_48 : decode (mB M_J6_bitCount_0f7a4) 48 = .ok (.iload_n 0, 1) := by decide +kernel
theorem r_J6_bitCount_0f7a4_48 {a : Int32} {st : List Value} {h : AH} : Run M_J6_bitCount_0f7a4 48 [.int a] st h = Run M_J6_bitCount_0f7a4 49 [.int a] (.int a :: st) h := R_iload_n d_J6_bitCount_0f7a4_48 rfl
theorem d_J6_bitCount_0f7a4_49 : decode (mB M_J6_bitCount_0f7a4) 49 = .ok (.bipush 63, 2) := by decide +kernel
theorem r_J6_bitCount_0f7a4_49 {x0 : Value} {st : List Value} {h : AH} : Run M_J6_bitCount_0f7a4 49 [x0] st h = Run M_J6_bitCount_0f7a4 51 [x0] (.int (nI 63) :: st) h := R_bipush d_J6_bitCount_0f7a4_49 (by decide)
theorem d_J6_bitCount_0f7a4_51 : decode (mB M_J6_bitCount_0f7a4) 51 = .ok (.iand, 1) := by decide +kernel
theorem r_J6_bitCount_0f7a4_51 {x0 : Value} {x y : Int32} {st : List Value} {h : AH} : Run M_J6_bitCount_0f7a4 51 [x0] (.int y :: .int x :: st) h = Run M_J6_bitCount_0f7a4 52 [x0] (.int (x &&& y) :: st) h := R_iand d_J6_bitCount_0f7a4_51
theorem d_J6_bitCount_0f7a4_52 : decode (mB M_J6_bitCount_0f7a4) 52 = .ok (.ireturn, 1) := by decide +kernel
theorem r_J6_bitCount_0f7a4_52 {x0 : Value} {v : Int32} {h : AH} : Run M_J6_bitCount_0f7a4 52 [x0] [.int v] h = some (h, some (.int v)) := R_ireturn d_J6_bitCount_0f7a4_52 rfl rfl
theorem d_J7_fill_d0a16_0 : decode (mB M_J7_fill_d0a16) 0 = .ok (.iconst 0, 1) := by decide +kernel
theorem r_J7_fill_d0a16_0 {x0 x1 x2 x3 x4 : Value} {st : List Value} {h : AH} : Run M_J7_fill_d0a16 0 [x0, x1, x2, x3, x4] st h = Run M_J7_fill_d0a16 1 [x0, x1, x2, x3, x4] (.int (nI 0) :: st) h := R_iconst d_J7_fill_d0a16_0 (by decide)
theorem d_J7_fill_d0a16_1 : decode (mB M_J7_fill_d0a16) 1 = .ok (.istore_n 3, 1) := by decide +kernel
theorem r_J7_fill_d0a16_1 {x0 x1 x2 x3 x4 : Value} {a : Int32} {st : List Value} {h : AH} (hc : x2.category = 1) : Run M_J7_fill_d0a16 1 [x0, x1, x2, x3, x4] (.int a :: st) h = Run M_J7_fill_d0a16 2 [x0, x1, x2, .int a, x4] st h := R_istore_n d_J7_fill_d0a16_1 (Nat.lt_of_lt_of_le (by decide : 3 < 5) (Nat.le_refl 5)) (catP_of rfl hc)
theorem d_J7_fill_d0a16_2 : decode (mB M_J7_fill_d0a16) 2 = .ok (.aload_n 0, 1) := by decide +kernel
theorem r_J7_fill_d0a16_2 {x1 x2 x3 x4 : Value} {a : Nat} {st : List Value} {h : AH} : Run M_J7_fill_d0a16 2 [.ref a, x1, x2, x3, x4] st h = Run M_J7_fill_d0a16 3 [.ref a, x1, x2, x3, x4] (.ref a :: st) h := R_aload_n d_J7_fill_d0a16_2 rfl
theorem d_J7_fill_d0a16_3 : decode (mB M_J7_fill_d0a16) 3 = .ok (.arraylength, 1) := by decide +kernel
theorem r_J7_fill_d0a16_3 {x0 x1 x2 x3 x4 : Value} {a : Nat} {st : List Value} {h : AH} : Run M_J7_fill_d0a16 3 [x0, x1, x2, x3, x4] (.ref a :: st) h = if (gN h a).isSome = true then Run M_J7_fill_d0a16 4 [x0, x1, x2, x3, x4] (.int (Int32.ofNat ((gN h a).getD 0)) :: st) h else none := R_arraylength d_J7_fill_d0a16_3
theorem d_J7_fill_d0a16_4 : decode (mB M_J7_fill_d0a16) 4 = .ok (.istore 4, 2) := by decide +kernel
theorem r_J7_fill_d0a16_4 {x0 x1 x2 x3 x4 : Value} {a : Int32} {st : List Value} {h : AH} (hc : x3.category = 1) : Run M_J7_fill_d0a16 4 [x0, x1, x2, x3, x4] (.int a :: st) h = Run M_J7_fill_d0a16 6 [x0, x1, x2, x3, .int a] st h := R_istore d_J7_fill_d0a16_4 (Nat.lt_of_lt_of_le (by decide : 4 < 5) (Nat.le_refl 5)) (catP_of rfl hc)
theorem d_J7_fill_d0a16_6 : decode (mB M_J7_fill_d0a16) 6 = .ok (.iload_n 3, 1) := by decide +kernel
theorem r_J7_fill_d0a16_6 {x0 x1 x2 x4 : Value} {a : Int32} {st : List Value} {h : AH} : Run M_J7_fill_d0a16 6 [x0, x1, x2, .int a, x4] st h = Run M_J7_fill_d0a16 7 [x0, x1, x2, .int a, x4] (.int a :: st) h := R_iload_n d_J7_fill_d0a16_6 rfl
theorem d_J7_fill_d0a16_7 : decode (mB M_J7_fill_d0a16) 7 = .ok (.iload 4, 2) := by decide +kernel
theorem r_J7_fill_d0a16_7 {x0 x1 x2 x3 : Value} {a : Int32} {st : List Value} {h : AH} : Run M_J7_fill_d0a16 7 [x0, x1, x2, x3, .int a] st h = Run M_J7_fill_d0a16 9 [x0, x1, x2, x3, .int a] (.int a :: st) h := R_iload d_J7_fill_d0a16_7 rfl
theorem d_J7_fill_d0a16_9 : decode (mB M_J7_fill_d0a16) 9 = .ok (.if_icmp .ge 13, 3) := by decide +kernel
theorem r_J7_fill_d0a16_9 {x0 x1 x2 x3 x4 : Value} {x y : Int32} {st : List Value} {h : AH} : Run M_J7_fill_d0a16 9 [x0, x1, x2, x3, x4] (.int y :: .int x :: st) h = if y ≤ x then Run M_J7_fill_d0a16 22 [x0, x1, x2, x3, x4] st h else Run M_J7_fill_d0a16 12 [x0, x1, x2, x3, x4] st h := R_icmp_ge d_J7_fill_d0a16_9 (by decide)
theorem d_J7_fill_d0a16_12 : decode (mB M_J7_fill_d0a16) 12 = .ok (.aload_n 0, 1) := by decide +kernel
theorem r_J7_fill_d0a16_12 {x1 x2 x3 x4 : Value} {a : Nat} {st : List Value} {h : AH} : Run M_J7_fill_d0a16 12 [.ref a, x1, x2, x3, x4] st h = Run M_J7_fill_d0a16 13 [.ref a, x1, x2, x3, x4] (.ref a :: st) h := R_aload_n d_J7_fill_d0a16_12 rfl
theorem d_J7_fill_d0a16_13 : decode (mB M_J7_fill_d0a16) 13 = .ok (.iload_n 3, 1) := by decide +kernel
theorem r_J7_fill_d0a16_13 {x0 x1 x2 x4 : Value} {a : Int32} {st : List Value} {h : AH} : Run M_J7_fill_d0a16 13 [x0, x1, x2, .int a, x4] st h = Run M_J7_fill_d0a16 14 [x0, x1, x2, .int a, x4] (.int a :: st) h := R_iload_n d_J7_fill_d0a16_13 rfl
theorem d_J7_fill_d0a16_14 : decode (mB M_J7_fill_d0a16) 14 = .ok (.lload_n 1, 1) := by decide +kernel
theorem r_J7_fill_d0a16_14 {x0 x2 x3 x4 : Value} {a : Int64} {st : List Value} {h : AH} : Run M_J7_fill_d0a16 14 [x0, .long a, x2, x3, x4] st h = Run M_J7_fill_d0a16 15 [x0, .long a, x2, x3, x4] (.long a :: st) h := R_lload_n d_J7_fill_d0a16_14 rfl
theorem d_J7_fill_d0a16_15 : decode (mB M_J7_fill_d0a16) 15 = .ok (.lastore, 1) := by decide +kernel
theorem r_J7_fill_d0a16_15 {x0 x1 x2 x3 x4 : Value} {a : Nat} {i : Int32} {x : Int64} {st : List Value} {h : AH} : Run M_J7_fill_d0a16 15 [x0, x1, x2, x3, x4] (.long x :: .int i :: .ref a :: st) h = if (pJ h a i x).isSome = true then Run M_J7_fill_d0a16 16 [x0, x1, x2, x3, x4] st ((pJ h a i x).getD h) else none := R_lastore d_J7_fill_d0a16_15
theorem d_J7_fill_d0a16_16 : decode (mB M_J7_fill_d0a16) 16 = .ok (.iinc 3 1, 3) := by decide +kernel
theorem r_J7_fill_d0a16_16 {x0 x1 x2 x4 : Value} {a : Int32} {st : List Value} {h : AH} (hc : x2.category = 1) : Run M_J7_fill_d0a16 16 [x0, x1, x2, .int a, x4] st h = Run M_J7_fill_d0a16 19 [x0, x1, x2, .int (a + (nI 1)), x4] st h := R_iinc d_J7_fill_d0a16_16 (by decide) rfl (catP_of rfl hc)
theorem d_J7_fill_d0a16_19 : decode (mB M_J7_fill_d0a16) 19 = .ok (.goto (-13), 3) := by decide +kernel
theorem r_J7_fill_d0a16_19 {x0 x1 x2 x3 x4 : Value} {st : List Value} {h : AH} : Run M_J7_fill_d0a16 19 [x0, x1, x2, x3, x4] st h = Run M_J7_fill_d0a16 6 [x0, x1, x2, x3, x4] st h := R_goto d_J7_fill_d0a16_19 (by decide)
theorem d_J7_fill_d0a16_22 : decode (mB M_J7_fill_d0a16) 22 = .ok (.return_, 1) := by decide +kernel
theorem r_J7_fill_d0a16_22 {x0 x1 x2 x3 x4 : Value} {h : AH} : Run M_J7_fill_d0a16 22 [x0, x1, x2, x3, x4] [] h = some (h, none) := R_return d_J7_fill_d0a16_22 rfl
theorem d_J7_fill_53178_0 : decode (mB M_J7_fill_53178) 0 = .ok (.iconst 0, 1) := by decide +kernel
theorem r_J7_fill_53178_0 {x0 x1 x2 x3 : Value} {st : List Value} {h : AH} : Run M_J7_fill_53178 0 [x0, x1, x2, x3] st h = Run M_J7_fill_53178 1 [x0, x1, x2, x3] (.int (nI 0) :: st) h := R_iconst d_J7_fill_53178_0 (by decide)
theorem d_J7_fill_53178_1 : decode (mB M_J7_fill_53178) 1 = .ok (.istore_n 2, 1) := by decide +kernel
theorem r_J7_fill_53178_1 {x0 x1 x2 x3 : Value} {a : Int32} {st : List Value} {h : AH} (hc : x1.category = 1) : Run M_J7_fill_53178 1 [x0, x1, x2, x3] (.int a :: st) h = Run M_J7_fill_53178 2 [x0, x1, .int a, x3] st h := R_istore_n d_J7_fill_53178_1 (Nat.lt_of_lt_of_le (by decide : 2 < 4) (Nat.le_refl 4)) (catP_of rfl hc)
theorem d_J7_fill_53178_2 : decode (mB M_J7_fill_53178) 2 = .ok (.aload_n 0, 1) := by decide +kernel
theorem r_J7_fill_53178_2 {x1 x2 x3 : Value} {a : Nat} {st : List Value} {h : AH} : Run M_J7_fill_53178 2 [.ref a, x1, x2, x3] st h = Run M_J7_fill_53178 3 [.ref a, x1, x2, x3] (.ref a :: st) h := R_aload_n d_J7_fill_53178_2 rfl
theorem d_J7_fill_53178_3 : decode (mB M_J7_fill_53178) 3 = .ok (.arraylength, 1) := by decide +kernel
theorem r_J7_fill_53178_3 {x0 x1 x2 x3 : Value} {a : Nat} {st : List Value} {h : AH} : Run M_J7_fill_53178 3 [x0, x1, x2, x3] (.ref a :: st) h = if (gN h a).isSome = true then Run M_J7_fill_53178 4 [x0, x1, x2, x3] (.int (Int32.ofNat ((gN h a).getD 0)) :: st) h else none := R_arraylength d_J7_fill_53178_3
theorem d_J7_fill_53178_4 : decode (mB M_J7_fill_53178) 4 = .ok (.istore_n 3, 1) := by decide +kernel
theorem r_J7_fill_53178_4 {x0 x1 x2 x3 : Value} {a : Int32} {st : List Value} {h : AH} (hc : x2.category = 1) : Run M_J7_fill_53178 4 [x0, x1, x2, x3] (.int a :: st) h = Run M_J7_fill_53178 5 [x0, x1, x2, .int a] st h := R_istore_n d_J7_fill_53178_4 (Nat.lt_of_lt_of_le (by decide : 3 < 4) (Nat.le_refl 4)) (catP_of rfl hc)
theorem d_J7_fill_53178_5 : decode (mB M_J7_fill_53178) 5 = .ok (.iload_n 2, 1) := by decide +kernel
theorem r_J7_fill_53178_5 {x0 x1 x3 : Value} {a : Int32} {st : List Value} {h : AH} : Run M_J7_fill_53178 5 [x0, x1, .int a, x3] st h = Run M_J7_fill_53178 6 [x0, x1, .int a, x3] (.int a :: st) h := R_iload_n d_J7_fill_53178_5 rfl
theorem d_J7_fill_53178_6 : decode (mB M_J7_fill_53178) 6 = .ok (.iload_n 3, 1) := by decide +kernel
theorem r_J7_fill_53178_6 {x0 x1 x2 : Value} {a : Int32} {st : List Value} {h : AH} : Run M_J7_fill_53178 6 [x0, x1, x2, .int a] st h = Run M_J7_fill_53178 7 [x0, x1, x2, .int a] (.int a :: st) h := R_iload_n d_J7_fill_53178_6 rfl
theorem d_J7_fill_53178_7 : decode (mB M_J7_fill_53178) 7 = .ok (.if_icmp .ge 13, 3) := by decide +kernel
theorem r_J7_fill_53178_7 {x0 x1 x2 x3 : Value} {x y : Int32} {st : List Value} {h : AH} : Run M_J7_fill_53178 7 [x0, x1, x2, x3] (.int y :: .int x :: st) h = if y ≤ x then Run M_J7_fill_53178 20 [x0, x1, x2, x3] st h else Run M_J7_fill_53178 10 [x0, x1, x2, x3] st h := R_icmp_ge d_J7_fill_53178_7 (by decide)
theorem d_J7_fill_53178_10 : decode (mB M_J7_fill_53178) 10 = .ok (.aload_n 0, 1) := by decide +kernel
theorem r_J7_fill_53178_10 {x1 x2 x3 : Value} {a : Nat} {st : List Value} {h : AH} : Run M_J7_fill_53178 10 [.ref a, x1, x2, x3] st h = Run M_J7_fill_53178 11 [.ref a, x1, x2, x3] (.ref a :: st) h := R_aload_n d_J7_fill_53178_10 rfl
theorem d_J7_fill_53178_11 : decode (mB M_J7_fill_53178) 11 = .ok (.iload_n 2, 1) := by decide +kernel
theorem r_J7_fill_53178_11 {x0 x1 x3 : Value} {a : Int32} {st : List Value} {h : AH} : Run M_J7_fill_53178 11 [x0, x1, .int a, x3] st h = Run M_J7_fill_53178 12 [x0, x1, .int a, x3] (.int a :: st) h := R_iload_n d_J7_fill_53178_11 rfl
theorem d_J7_fill_53178_12 : decode (mB M_J7_fill_53178) 12 = .ok (.iload_n 1, 1) := by decide +kernel
theorem r_J7_fill_53178_12 {x0 x2 x3 : Value} {a : Int32} {st : List Value} {h : AH} : Run M_J7_fill_53178 12 [x0, .int a, x2, x3] st h = Run M_J7_fill_53178 13 [x0, .int a, x2, x3] (.int a :: st) h := R_iload_n d_J7_fill_53178_12 rfl
theorem d_J7_fill_53178_13 : decode (mB M_J7_fill_53178) 13 = .ok (.iastore, 1) := by decide +kernel
theorem r_J7_fill_53178_13 {x0 x1 x2 x3 : Value} {a : Nat} {i x : Int32} {st : List Value} {h : AH} : Run M_J7_fill_53178 13 [x0, x1, x2, x3] (.int x :: .int i :: .ref a :: st) h = if (pI 0 h a i x).isSome = true then Run M_J7_fill_53178 14 [x0, x1, x2, x3] st ((pI 0 h a i x).getD h) else none := R_iastore d_J7_fill_53178_13
theorem d_J7_fill_53178_14 : decode (mB M_J7_fill_53178) 14 = .ok (.iinc 2 1, 3) := by decide +kernel
theorem r_J7_fill_53178_14 {x0 x1 x3 : Value} {a : Int32} {st : List Value} {h : AH} (hc : x1.category = 1) : Run M_J7_fill_53178 14 [x0, x1, .int a, x3] st h = Run M_J7_fill_53178 17 [x0, x1, .int (a + (nI 1)), x3] st h := R_iinc d_J7_fill_53178_14 (by decide) rfl (catP_of rfl hc)
theorem d_J7_fill_53178_17 : decode (mB M_J7_fill_53178) 17 = .ok (.goto (-12), 3) := by decide +kernel
theorem r_J7_fill_53178_17 {x0 x1 x2 x3 : Value} {st : List Value} {h : AH} : Run M_J7_fill_53178 17 [x0, x1, x2, x3] st h = Run M_J7_fill_53178 5 [x0, x1, x2, x3] st h := R_goto d_J7_fill_53178_17 (by decide)
theorem d_J7_fill_53178_20 : decode (mB M_J7_fill_53178) 20 = .ok (.return_, 1) := by decide +kernel
theorem r_J7_fill_53178_20 {x0 x1 x2 x3 : Value} {h : AH} : Run M_J7_fill_53178 20 [x0, x1, x2, x3] [] h = some (h, none) := R_return d_J7_fill_53178_20 rfl
theorem d_J9_floorMod_7cf53_0 : decode (mB M_J9_floorMod_7cf53) 0 = .ok (.iload_n 0, 1) := by decide +kernel
theorem r_J9_floorMod_7cf53_0 {x1 x2 : Value} {a : Int32} {st : List Value} {h : AH} : Run M_J9_floorMod_7cf53 0 [.int a, x1, x2] st h = Run M_J9_floorMod_7cf53 1 [.int a, x1, x2] (.int a :: st) h := R_iload_n d_J9_floorMod_7cf53_0 rfl
theorem d_J9_floorMod_7cf53_1 : decode (mB M_J9_floorMod_7cf53) 1 = .ok (.iload_n 1, 1) := by decide +kernel
theorem r_J9_floorMod_7cf53_1 {x0 x2 : Value} {a : Int32} {st : List Value} {h : AH} : Run M_J9_floorMod_7cf53 1 [x0, .int a, x2] st h = Run M_J9_floorMod_7cf53 2 [x0, .int a, x2] (.int a :: st) h := R_iload_n d_J9_floorMod_7cf53_1 rfl
theorem d_J9_floorMod_7cf53_2 : decode (mB M_J9_floorMod_7cf53) 2 = .ok (.irem, 1) := by decide +kernel
theorem r_J9_floorMod_7cf53_2 {x0 x1 x2 : Value} {x y : Int32} {st : List Value} {h : AH} (hy : ¬ y = 0) : Run M_J9_floorMod_7cf53 2 [x0, x1, x2] (.int y :: .int x :: st) h = Run M_J9_floorMod_7cf53 3 [x0, x1, x2] (.int (x - x / y * y) :: st) h := R_irem d_J9_floorMod_7cf53_2 hy
theorem d_J9_floorMod_7cf53_3 : decode (mB M_J9_floorMod_7cf53) 3 = .ok (.istore_n 2, 1) := by decide +kernel
theorem r_J9_floorMod_7cf53_3 {x0 x1 x2 : Value} {a : Int32} {st : List Value} {h : AH} (hc : x1.category = 1) : Run M_J9_floorMod_7cf53 3 [x0, x1, x2] (.int a :: st) h = Run M_J9_floorMod_7cf53 4 [x0, x1, .int a] st h := R_istore_n d_J9_floorMod_7cf53_3 (Nat.lt_of_lt_of_le (by decide : 2 < 3) (Nat.le_refl 3)) (catP_of rfl hc)
theorem d_J9_floorMod_7cf53_4 : decode (mB M_J9_floorMod_7cf53) 4 = .ok (.iload_n 0, 1) := by decide +kernel
theorem r_J9_floorMod_7cf53_4 {x1 x2 : Value} {a : Int32} {st : List Value} {h : AH} : Run M_J9_floorMod_7cf53 4 [.int a, x1, x2] st h = Run M_J9_floorMod_7cf53 5 [.int a, x1, x2] (.int a :: st) h := R_iload_n d_J9_floorMod_7cf53_4 rfl
theorem d_J9_floorMod_7cf53_5 : decode (mB M_J9_floorMod_7cf53) 5 = .ok (.iload_n 1, 1) := by decide +kernel
theorem r_J9_floorMod_7cf53_5 {x0 x2 : Value} {a : Int32} {st : List Value} {h : AH} : Run M_J9_floorMod_7cf53 5 [x0, .int a, x2] st h = Run M_J9_floorMod_7cf53 6 [x0, .int a, x2] (.int a :: st) h := R_iload_n d_J9_floorMod_7cf53_5 rfl
theorem d_J9_floorMod_7cf53_6 : decode (mB M_J9_floorMod_7cf53) 6 = .ok (.ixor, 1) := by decide +kernel
theorem r_J9_floorMod_7cf53_6 {x0 x1 x2 : Value} {x y : Int32} {st : List Value} {h : AH} : Run M_J9_floorMod_7cf53 6 [x0, x1, x2] (.int y :: .int x :: st) h = Run M_J9_floorMod_7cf53 7 [x0, x1, x2] (.int (x ^^^ y) :: st) h := R_ixor d_J9_floorMod_7cf53_6
theorem d_J9_floorMod_7cf53_7 : decode (mB M_J9_floorMod_7cf53) 7 = .ok (.ifCond .ge 11, 3) := by decide +kernel
theorem r_J9_floorMod_7cf53_7 {x0 x1 x2 : Value} {x : Int32} {st : List Value} {h : AH} : Run M_J9_floorMod_7cf53 7 [x0, x1, x2] (.int x :: st) h = if nI 0 ≤ x then Run M_J9_floorMod_7cf53 18 [x0, x1, x2] st h else Run M_J9_floorMod_7cf53 10 [x0, x1, x2] st h := R_if_ge d_J9_floorMod_7cf53_7 (by decide)
theorem d_J9_floorMod_7cf53_10 : decode (mB M_J9_floorMod_7cf53) 10 = .ok (.iload_n 2, 1) := by decide +kernel
theorem r_J9_floorMod_7cf53_10 {x0 x1 : Value} {a : Int32} {st : List Value} {h : AH} : Run M_J9_floorMod_7cf53 10 [x0, x1, .int a] st h = Run M_J9_floorMod_7cf53 11 [x0, x1, .int a] (.int a :: st) h := R_iload_n d_J9_floorMod_7cf53_10 rfl
theorem d_J9_floorMod_7cf53_11 : decode (mB M_J9_floorMod_7cf53) 11 = .ok (.ifCond .eq 7, 3) := by decide +kernel
theorem r_J9_floorMod_7cf53_11 {x0 x1 x2 : Value} {x : Int32} {st : List Value} {h : AH} : Run M_J9_floorMod_7cf53 11 [x0, x1, x2] (.int x :: st) h = if x = nI 0 then Run M_J9_floorMod_7cf53 18 [x0, x1, x2] st h else Run M_J9_floorMod_7cf53 14 [x0, x1, x2] st h := R_if_eq d_J9_floorMod_7cf53_11 (by decide)
theorem d_J9_floorMod_7cf53_14 : decode (mB M_J9_floorMod_7cf53) 14 = .ok (.iload_n 2, 1) := by decide +kernel
theorem r_J9_floorMod_7cf53_14 {x0 x1 : Value} {a : Int32} {st : List Value} {h : AH} : Run M_J9_floorMod_7cf53 14 [x0, x1, .int a] st h = Run M_J9_floorMod_7cf53 15 [x0, x1, .int a] (.int a :: st) h := R_iload_n d_J9_floorMod_7cf53_14 rfl
theorem d_J9_floorMod_7cf53_15 : decode (mB M_J9_floorMod_7cf53) 15 = .ok (.iload_n 1, 1) := by decide +kernel
theorem r_J9_floorMod_7cf53_15 {x0 x2 : Value} {a : Int32} {st : List Value} {h : AH} : Run M_J9_floorMod_7cf53 15 [x0, .int a, x2] st h = Run M_J9_floorMod_7cf53 16 [x0, .int a, x2] (.int a :: st) h := R_iload_n d_J9_floorMod_7cf53_15 rfl
theorem d_J9_floorMod_7cf53_16 : decode (mB M_J9_floorMod_7cf53) 16 = .ok (.iadd, 1) := by decide +kernel
theorem r_J9_floorMod_7cf53_16 {x0 x1 x2 : Value} {x y : Int32} {st : List Value} {h : AH} : Run M_J9_floorMod_7cf53 16 [x0, x1, x2] (.int y :: .int x :: st) h = Run M_J9_floorMod_7cf53 17 [x0, x1, x2] (.int (x + y) :: st) h := R_iadd d_J9_floorMod_7cf53_16
theorem d_J9_floorMod_7cf53_17 : decode (mB M_J9_floorMod_7cf53) 17 = .ok (.ireturn, 1) := by decide +kernel
theorem r_J9_floorMod_7cf53_17 {x0 x1 x2 : Value} {v : Int32} {h : AH} : Run M_J9_floorMod_7cf53 17 [x0, x1, x2] [.int v] h = some (h, some (.int v)) := R_ireturn d_J9_floorMod_7cf53_17 rfl rfl
theorem d_J9_floorMod_7cf53_18 : decode (mB M_J9_floorMod_7cf53) 18 = .ok (.iload_n 2, 1) := by decide +kernel
theorem r_J9_floorMod_7cf53_18 {x0 x1 : Value} {a : Int32} {st : List Value} {h : AH} : Run M_J9_floorMod_7cf53 18 [x0, x1, .int a] st h = Run M_J9_floorMod_7cf53 19 [x0, x1, .int a] (.int a :: st) h := R_iload_n d_J9_floorMod_7cf53_18 rfl
theorem d_J9_floorMod_7cf53_19 : decode (mB M_J9_floorMod_7cf53) 19 = .ok (.ireturn, 1) := by decide +kernel
theorem r_J9_floorMod_7cf53_19 {x0 x1 x2 : Value} {v : Int32} {h : AH} : Run M_J9_floorMod_7cf53 19 [x0, x1, x2] [.int v] h = some (h, some (.int v)) := R_ireturn d_J9_floorMod_7cf53_19 rfl rfl
theorem d_J9_max_7cf53_0 : decode (mB M_J9_max_7cf53) 0 = .ok (.iload_n 0, 1) := by decide +kernel
theorem r_J9_max_7cf53_0 {x1 : Value} {a : Int32} {st : List Value} {h : AH} : Run M_J9_max_7cf53 0 [.int a, x1] st h = Run M_J9_max_7cf53 1 [.int a, x1] (.int a :: st) h := R_iload_n d_J9_max_7cf53_0 rfl
theorem d_J9_max_7cf53_1 : decode (mB M_J9_max_7cf53) 1 = .ok (.iload_n 1, 1) := by decide +kernel
theorem r_J9_max_7cf53_1 {x0 : Value} {a : Int32} {st : List Value} {h : AH} : Run M_J9_max_7cf53 1 [x0, .int a] st h = Run M_J9_max_7cf53 2 [x0, .int a] (.int a :: st) h := R_iload_n d_J9_max_7cf53_1 rfl
theorem d_J9_max_7cf53_2 : decode (mB M_J9_max_7cf53) 2 = .ok (.if_icmp .lt 7, 3) := by decide +kernel
theorem r_J9_max_7cf53_2 {x0 x1 : Value} {x y : Int32} {st : List Value} {h : AH} : Run M_J9_max_7cf53 2 [x0, x1] (.int y :: .int x :: st) h = if x < y then Run M_J9_max_7cf53 9 [x0, x1] st h else Run M_J9_max_7cf53 5 [x0, x1] st h := R_icmp_lt d_J9_max_7cf53_2 (by decide)
theorem d_J9_max_7cf53_5 : decode (mB M_J9_max_7cf53) 5 = .ok (.iload_n 0, 1) := by decide +kernel
theorem r_J9_max_7cf53_5 {x1 : Value} {a : Int32} {st : List Value} {h : AH} : Run M_J9_max_7cf53 5 [.int a, x1] st h = Run M_J9_max_7cf53 6 [.int a, x1] (.int a :: st) h := R_iload_n d_J9_max_7cf53_5 rfl
theorem d_J9_max_7cf53_6 : decode (mB M_J9_max_7cf53) 6 = .ok (.goto 4, 3) := by decide +kernel
theorem r_J9_max_7cf53_6 {x0 x1 : Value} {st : List Value} {h : AH} : Run M_J9_max_7cf53 6 [x0, x1] st h = Run M_J9_max_7cf53 10 [x0, x1] st h := R_goto d_J9_max_7cf53_6 (by decide)
theorem d_J9_max_7cf53_9 : decode (mB M_J9_max_7cf53) 9 = .ok (.iload_n 1, 1) := by decide +kernel
theorem r_J9_max_7cf53_9 {x0 : Value} {a : Int32} {st : List Value} {h : AH} : Run M_J9_max_7cf53 9 [x0, .int a] st h = Run M_J9_max_7cf53 10 [x0, .int a] (.int a :: st) h := R_iload_n d_J9_max_7cf53_9 rfl
theorem d_J9_max_7cf53_10 : decode (mB M_J9_max_7cf53) 10 = .ok (.ireturn, 1) := by decide +kernel
theorem r_J9_max_7cf53_10 {x0 x1 : Value} {v : Int32} {h : AH} : Run M_J9_max_7cf53 10 [x0, x1] [.int v] h = some (h, some (.int v)) := R_ireturn d_J9_max_7cf53_10 rfl rfl
theorem d_J9_min_7cf53_0 : decode (mB M_J9_min_7cf53) 0 = .ok (.iload_n 0, 1) := by decide +kernel
theorem r_J9_min_7cf53_0 {x1 : Value} {a : Int32} {st : List Value} {h : AH} : Run M_J9_min_7cf53 0 [.int a, x1] st h = Run M_J9_min_7cf53 1 [.int a, x1] (.int a :: st) h := R_iload_n d_J9_min_7cf53_0 rfl
theorem d_J9_min_7cf53_1 : decode (mB M_J9_min_7cf53) 1 = .ok (.iload_n 1, 1) := by decide +kernel
theorem r_J9_min_7cf53_1 {x0 : Value} {a : Int32} {st : List Value} {h : AH} : Run M_J9_min_7cf53 1 [x0, .int a] st h = Run M_J9_min_7cf53 2 [x0, .int a] (.int a :: st) h := R_iload_n d_J9_min_7cf53_1 rfl
theorem d_J9_min_7cf53_2 : decode (mB M_J9_min_7cf53) 2 = .ok (.if_icmp .gt 7, 3) := by decide +kernel
theorem r_J9_min_7cf53_2 {x0 x1 : Value} {x y : Int32} {st : List Value} {h : AH} : Run M_J9_min_7cf53 2 [x0, x1] (.int y :: .int x :: st) h = if y < x then Run M_J9_min_7cf53 9 [x0, x1] st h else Run M_J9_min_7cf53 5 [x0, x1] st h := R_icmp_gt d_J9_min_7cf53_2 (by decide)
theorem d_J9_min_7cf53_5 : decode (mB M_J9_min_7cf53) 5 = .ok (.iload_n 0, 1) := by decide +kernel
theorem r_J9_min_7cf53_5 {x1 : Value} {a : Int32} {st : List Value} {h : AH} : Run M_J9_min_7cf53 5 [.int a, x1] st h = Run M_J9_min_7cf53 6 [.int a, x1] (.int a :: st) h := R_iload_n d_J9_min_7cf53_5 rfl
theorem d_J9_min_7cf53_6 : decode (mB M_J9_min_7cf53) 6 = .ok (.goto 4, 3) := by decide +kernel
theorem r_J9_min_7cf53_6 {x0 x1 : Value} {st : List Value} {h : AH} : Run M_J9_min_7cf53 6 [x0, x1] st h = Run M_J9_min_7cf53 10 [x0, x1] st h := R_goto d_J9_min_7cf53_6 (by decide)
theorem d_J9_min_7cf53_9 : decode (mB M_J9_min_7cf53) 9 = .ok (.iload_n 1, 1) := by decide +kernel
theorem r_J9_min_7cf53_9 {x0 : Value} {a : Int32} {st : List Value} {h : AH} : Run M_J9_min_7cf53 9 [x0, .int a] st h = Run M_J9_min_7cf53 10 [x0, .int a] (.int a :: st) h := R_iload_n d_J9_min_7cf53_9 rfl
theorem d_J9_min_7cf53_10 : decode (mB M_J9_min_7cf53) 10 = .ok (.ireturn, 1) := by decide +kernel
theorem r_J9_min_7cf53_10 {x0 x1 : Value} {v : Int32} {h : AH} : Run M_J9_min_7cf53 10 [x0, x1] [.int v] h = some (h, some (.int v)) := R_ireturn d_J9_min_7cf53_10 rfl rfl
