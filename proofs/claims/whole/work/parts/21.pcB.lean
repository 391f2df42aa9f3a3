/-! the equations of the run, an instruction each (program: wip/whole/gen_pcs.py) -/
theorem d_X2_init_0 : decode (mB M_X2_init) 0 = .ok (.aload_n 0, 1) := by decide +kernel
theorem r_X2_init_0 {x1 : Value} {a : Nat} {st : List Value} {h : AH} : Run M_X2_init 0 [.ref a, x1] st h = Run M_X2_init 1 [.ref a, x1] (.ref a :: st) h := R_aload_n d_X2_init_0 rfl
theorem d_X2_init_1 : decode (mB M_X2_init) 1 = .ok (.invokespecial 3, 3) := by decide +kernel
theorem r_X2_init_1 {x0 x1 : Value} {a : Nat} {h : AH} : Run M_X2_init 1 [x0, x1] (.ref a :: []) h = Run M_X2_init 4 [x0, x1] [] h := R_obj d_X2_init_1 rfl rfl ⟨by decide, Nat.le_of_ble_eq_true rfl, by decide, by decide⟩
theorem d_X2_init_4 : decode (mB M_X2_init) 4 = .ok (.aload_n 0, 1) := by decide +kernel
theorem r_X2_init_4 {x1 : Value} {a : Nat} {st : List Value} {h : AH} : Run M_X2_init 4 [.ref a, x1] st h = Run M_X2_init 5 [.ref a, x1] (.ref a :: st) h := R_aload_n d_X2_init_4 rfl
theorem d_X2_init_5 : decode (mB M_X2_init) 5 = .ok (.bipush 8, 2) := by decide +kernel
theorem r_X2_init_5 {x0 x1 : Value} {st : List Value} {h : AH} : Run M_X2_init 5 [x0, x1] st h = Run M_X2_init 7 [x0, x1] (.int (nI 8) :: st) h := R_bipush d_X2_init_5 (by decide)
theorem d_X2_init_7 : decode (mB M_X2_init) 7 = .ok (.sipush 421, 3) := by decide +kernel
theorem r_X2_init_7 {x0 x1 : Value} {st : List Value} {h : AH} : Run M_X2_init 7 [x0, x1] st h = Run M_X2_init 10 [x0, x1] (.int (nI 421) :: st) h := R_sipush d_X2_init_7 (by decide)
theorem d_X2_init_10 : decode (mB M_X2_init) 10 = .ok (.multianewarray 9 2, 4) := by decide +kernel
theorem r_X2_init_10 {x0 x1 : Value} {st : List Value} {h : AH} : Run M_X2_init 10 [x0, x1] (.int (nI 421) :: .int (nI 8) :: st) h = Run M_X2_init 14 [x0, x1] (.ref h.1 :: st) (hmul h 8 421) := R_multi d_X2_init_10 ⟨by decide, by decide, by decide, by decide, by decide⟩ (by decide) (by decide)
theorem d_X2_init_14 : decode (mB M_X2_init) 14 = .ok (.putfield 11, 3) := by decide +kernel
theorem r_X2_init_14 {x0 x1 : Value} {v : Nat} {a : Nat} {st : List Value} {h : AH} : Run M_X2_init 14 [x0, x1] (.ref v :: .ref a :: st) h = if (pF h a 2 0 (.ref v)).isSome = true then Run M_X2_init 17 [x0, x1] st ((pF h a 2 0 (.ref v)).getD h) else none := R_putfield d_X2_init_14 rfl (okP_arr rfl (Or.inr ⟨rfl, rfl⟩))
theorem d_X2_init_17 : decode (mB M_X2_init) 17 = .ok (.aload_n 0, 1) := by decide +kernel
theorem r_X2_init_17 {x1 : Value} {a : Nat} {st : List Value} {h : AH} : Run M_X2_init 17 [.ref a, x1] st h = Run M_X2_init 18 [.ref a, x1] (.ref a :: st) h := R_aload_n d_X2_init_17 rfl
theorem d_X2_init_18 : decode (mB M_X2_init) 18 = .ok (.bipush 8, 2) := by decide +kernel
theorem r_X2_init_18 {x0 x1 : Value} {st : List Value} {h : AH} : Run M_X2_init 18 [x0, x1] st h = Run M_X2_init 20 [x0, x1] (.int (nI 8) :: st) h := R_bipush d_X2_init_18 (by decide)
theorem d_X2_init_20 : decode (mB M_X2_init) 20 = .ok (.newarray .long, 2) := by decide +kernel
theorem r_X2_init_20 {x0 x1 : Value} {st : List Value} {h : AH} : Run M_X2_init 20 [x0, x1] (.int (nI 8) :: st) h = Run M_X2_init 22 [x0, x1] (.ref h.1 :: st) (hnew h 8 (jA 8 (fun _ => 0))) := R_newarray d_X2_init_20 rfl ⟨by decide, by decide⟩ (by decide) rfl
theorem d_X2_init_22 : decode (mB M_X2_init) 22 = .ok (.putfield 16, 3) := by decide +kernel
theorem r_X2_init_22 {x0 x1 : Value} {v : Nat} {a : Nat} {st : List Value} {h : AH} : Run M_X2_init 22 [x0, x1] (.ref v :: .ref a :: st) h = if (pF h a 2 1 (.ref v)).isSome = true then Run M_X2_init 25 [x0, x1] st ((pF h a 2 1 (.ref v)).getD h) else none := R_putfield d_X2_init_22 rfl (okP_arr rfl (Or.inr ⟨rfl, rfl⟩))
theorem d_X2_init_25 : decode (mB M_X2_init) 25 = .ok (.aload_n 0, 1) := by decide +kernel
theorem r_X2_init_25 {x1 : Value} {a : Nat} {st : List Value} {h : AH} : Run M_X2_init 25 [.ref a, x1] st h = Run M_X2_init 26 [.ref a, x1] (.ref a :: st) h := R_aload_n d_X2_init_25 rfl
theorem d_X2_init_26 : decode (mB M_X2_init) 26 = .ok (.sipush 421, 3) := by decide +kernel
theorem r_X2_init_26 {x0 x1 : Value} {st : List Value} {h : AH} : Run M_X2_init 26 [x0, x1] st h = Run M_X2_init 29 [x0, x1] (.int (nI 421) :: st) h := R_sipush d_X2_init_26 (by decide)
theorem d_X2_init_29 : decode (mB M_X2_init) 29 = .ok (.newarray .long, 2) := by decide +kernel
theorem r_X2_init_29 {x0 x1 : Value} {st : List Value} {h : AH} : Run M_X2_init 29 [x0, x1] (.int (nI 421) :: st) h = Run M_X2_init 31 [x0, x1] (.ref h.1 :: st) (hnew h 421 (jA 421 (fun _ => 0))) := R_newarray d_X2_init_29 rfl ⟨by decide, by decide⟩ (by decide) rfl
theorem d_X2_init_31 : decode (mB M_X2_init) 31 = .ok (.putfield 20, 3) := by decide +kernel
theorem r_X2_init_31 {x0 x1 : Value} {v : Nat} {a : Nat} {st : List Value} {h : AH} : Run M_X2_init 31 [x0, x1] (.ref v :: .ref a :: st) h = if (pF h a 2 2 (.ref v)).isSome = true then Run M_X2_init 34 [x0, x1] st ((pF h a 2 2 (.ref v)).getD h) else none := R_putfield d_X2_init_31 rfl (okP_arr rfl (Or.inr ⟨rfl, rfl⟩))
theorem d_X2_init_34 : decode (mB M_X2_init) 34 = .ok (.aload_n 0, 1) := by decide +kernel
theorem r_X2_init_34 {x1 : Value} {a : Nat} {st : List Value} {h : AH} : Run M_X2_init 34 [.ref a, x1] st h = Run M_X2_init 35 [.ref a, x1] (.ref a :: st) h := R_aload_n d_X2_init_34 rfl
theorem d_X2_init_35 : decode (mB M_X2_init) 35 = .ok (.sipush 421, 3) := by decide +kernel
theorem r_X2_init_35 {x0 x1 : Value} {st : List Value} {h : AH} : Run M_X2_init 35 [x0, x1] st h = Run M_X2_init 38 [x0, x1] (.int (nI 421) :: st) h := R_sipush d_X2_init_35 (by decide)
theorem d_X2_init_38 : decode (mB M_X2_init) 38 = .ok (.newarray .long, 2) := by decide +kernel
theorem r_X2_init_38 {x0 x1 : Value} {st : List Value} {h : AH} : Run M_X2_init 38 [x0, x1] (.int (nI 421) :: st) h = Run M_X2_init 40 [x0, x1] (.ref h.1 :: st) (hnew h 421 (jA 421 (fun _ => 0))) := R_newarray d_X2_init_38 rfl ⟨by decide, by decide⟩ (by decide) rfl
theorem d_X2_init_40 : decode (mB M_X2_init) 40 = .ok (.putfield 23, 3) := by decide +kernel
theorem r_X2_init_40 {x0 x1 : Value} {v : Nat} {a : Nat} {st : List Value} {h : AH} : Run M_X2_init 40 [x0, x1] (.ref v :: .ref a :: st) h = if (pF h a 2 3 (.ref v)).isSome = true then Run M_X2_init 43 [x0, x1] st ((pF h a 2 3 (.ref v)).getD h) else none := R_putfield d_X2_init_40 rfl (okP_arr rfl (Or.inr ⟨rfl, rfl⟩))
theorem d_X2_init_43 : decode (mB M_X2_init) 43 = .ok (.aload_n 0, 1) := by decide +kernel
theorem r_X2_init_43 {x1 : Value} {a : Nat} {st : List Value} {h : AH} : Run M_X2_init 43 [.ref a, x1] st h = Run M_X2_init 44 [.ref a, x1] (.ref a :: st) h := R_aload_n d_X2_init_43 rfl
theorem d_X2_init_44 : decode (mB M_X2_init) 44 = .ok (.getfield 11, 3) := by decide +kernel
theorem r_X2_init_44 {x0 x1 : Value} {a : Nat} {st : List Value} {h : AH} : Run M_X2_init 44 [x0, x1] (.ref a :: st) h = if (gF h a 2 0).isSome = true then Run M_X2_init 47 [x0, x1] ((gF h a 2 0).getD .null :: st) h else none := R_getfield d_X2_init_44 rfl
theorem d_X2_init_47 : decode (mB M_X2_init) 47 = .ok (.iconst 0, 1) := by decide +kernel
theorem r_X2_init_47 {x0 x1 : Value} {st : List Value} {h : AH} : Run M_X2_init 47 [x0, x1] st h = Run M_X2_init 48 [x0, x1] (.int (nI 0) :: st) h := R_iconst d_X2_init_47 (by decide)
theorem d_X2_init_48 : decode (mB M_X2_init) 48 = .ok (.aaload, 1) := by decide +kernel
theorem r_X2_init_48 {x0 x1 : Value} {a : Nat} {i : Int32} {st : List Value} {h : AH} : Run M_X2_init 48 [x0, x1] (.int i :: .ref a :: st) h = if (gR h a i).isSome = true then Run M_X2_init 49 [x0, x1] (.ref ((gR h a i).getD 0) :: st) h else none := R_aaload d_X2_init_48
theorem d_X2_init_49 : decode (mB M_X2_init) 49 = .ok (.iconst 0, 1) := by decide +kernel
theorem r_X2_init_49 {x0 x1 : Value} {st : List Value} {h : AH} : Run M_X2_init 49 [x0, x1] st h = Run M_X2_init 50 [x0, x1] (.int (nI 0) :: st) h := R_iconst d_X2_init_49 (by decide)
theorem d_X2_init_50 : decode (mB M_X2_init) 50 = .ok (.lconst 1, 1) := by decide +kernel
theorem r_X2_init_50 {x0 x1 : Value} {st : List Value} {h : AH} : Run M_X2_init 50 [x0, x1] st h = Run M_X2_init 51 [x0, x1] (.long (lN 1) :: st) h := R_lconst d_X2_init_50 (by decide)
theorem d_X2_init_51 : decode (mB M_X2_init) 51 = .ok (.lastore, 1) := by decide +kernel
theorem r_X2_init_51 {x0 x1 : Value} {a : Nat} {i : Int32} {x : Int64} {st : List Value} {h : AH} : Run M_X2_init 51 [x0, x1] (.long x :: .int i :: .ref a :: st) h = if (pJ h a i x).isSome = true then Run M_X2_init 52 [x0, x1] st ((pJ h a i x).getD h) else none := R_lastore d_X2_init_51
theorem d_X2_init_52 : decode (mB M_X2_init) 52 = .ok (.aload_n 0, 1) := by decide +kernel
theorem r_X2_init_52 {x1 : Value} {a : Nat} {st : List Value} {h : AH} : Run M_X2_init 52 [.ref a, x1] st h = Run M_X2_init 53 [.ref a, x1] (.ref a :: st) h := R_aload_n d_X2_init_52 rfl
theorem d_X2_init_53 : decode (mB M_X2_init) 53 = .ok (.getfield 16, 3) := by decide +kernel
theorem r_X2_init_53 {x0 x1 : Value} {a : Nat} {st : List Value} {h : AH} : Run M_X2_init 53 [x0, x1] (.ref a :: st) h = if (gF h a 2 1).isSome = true then Run M_X2_init 56 [x0, x1] ((gF h a 2 1).getD .null :: st) h else none := R_getfield d_X2_init_53 rfl
theorem d_X2_init_56 : decode (mB M_X2_init) 56 = .ok (.iconst 0, 1) := by decide +kernel
theorem r_X2_init_56 {x0 x1 : Value} {st : List Value} {h : AH} : Run M_X2_init 56 [x0, x1] st h = Run M_X2_init 57 [x0, x1] (.int (nI 0) :: st) h := R_iconst d_X2_init_56 (by decide)
theorem d_X2_init_57 : decode (mB M_X2_init) 57 = .ok (.lconst 1, 1) := by decide +kernel
theorem r_X2_init_57 {x0 x1 : Value} {st : List Value} {h : AH} : Run M_X2_init 57 [x0, x1] st h = Run M_X2_init 58 [x0, x1] (.long (lN 1) :: st) h := R_lconst d_X2_init_57 (by decide)
theorem d_X2_init_58 : decode (mB M_X2_init) 58 = .ok (.lastore, 1) := by decide +kernel
theorem r_X2_init_58 {x0 x1 : Value} {a : Nat} {i : Int32} {x : Int64} {st : List Value} {h : AH} : Run M_X2_init 58 [x0, x1] (.long x :: .int i :: .ref a :: st) h = if (pJ h a i x).isSome = true then Run M_X2_init 59 [x0, x1] st ((pJ h a i x).getD h) else none := R_lastore d_X2_init_58
theorem d_X2_init_59 : decode (mB M_X2_init) 59 = .ok (.iconst 0, 1) := by decide +kernel
theorem r_X2_init_59 {x0 x1 : Value} {st : List Value} {h : AH} : Run M_X2_init 59 [x0, x1] st h = Run M_X2_init 60 [x0, x1] (.int (nI 0) :: st) h := R_iconst d_X2_init_59 (by decide)
theorem d_X2_init_60 : decode (mB M_X2_init) 60 = .ok (.istore_n 1, 1) := by decide +kernel
theorem r_X2_init_60 {x0 x1 : Value} {a : Int32} {st : List Value} {h : AH} (hc : x0.category = 1) : Run M_X2_init 60 [x0, x1] (.int a :: st) h = Run M_X2_init 61 [x0, .int a] st h := R_istore_n d_X2_init_60 (Nat.lt_of_lt_of_le (by decide : 1 < 2) (Nat.le_refl 2)) (catP_of rfl hc)
theorem d_X2_init_61 : decode (mB M_X2_init) 61 = .ok (.iload_n 1, 1) := by decide +kernel
theorem r_X2_init_61 {x0 : Value} {a : Int32} {st : List Value} {h : AH} : Run M_X2_init 61 [x0, .int a] st h = Run M_X2_init 62 [x0, .int a] (.int a :: st) h := R_iload_n d_X2_init_61 rfl
theorem d_X2_init_62 : decode (mB M_X2_init) 62 = .ok (.sipush 420, 3) := by decide +kernel
theorem r_X2_init_62 {x0 x1 : Value} {st : List Value} {h : AH} : Run M_X2_init 62 [x0, x1] st h = Run M_X2_init 65 [x0, x1] (.int (nI 420) :: st) h := R_sipush d_X2_init_62 (by decide)
theorem d_X2_init_65 : decode (mB M_X2_init) 65 = .ok (.if_icmp .gt 16, 3) := by decide +kernel
theorem r_X2_init_65 {x0 x1 : Value} {x y : Int32} {st : List Value} {h : AH} : Run M_X2_init 65 [x0, x1] (.int y :: .int x :: st) h = if y < x then Run M_X2_init 81 [x0, x1] st h else Run M_X2_init 68 [x0, x1] st h := R_icmp_gt d_X2_init_65 (by decide)
theorem d_X2_init_68 : decode (mB M_X2_init) 68 = .ok (.aload_n 0, 1) := by decide +kernel
theorem r_X2_init_68 {x1 : Value} {a : Nat} {st : List Value} {h : AH} : Run M_X2_init 68 [.ref a, x1] st h = Run M_X2_init 69 [.ref a, x1] (.ref a :: st) h := R_aload_n d_X2_init_68 rfl
theorem d_X2_init_69 : decode (mB M_X2_init) 69 = .ok (.getfield 20, 3) := by decide +kernel
theorem r_X2_init_69 {x0 x1 : Value} {a : Nat} {st : List Value} {h : AH} : Run M_X2_init 69 [x0, x1] (.ref a :: st) h = if (gF h a 2 2).isSome = true then Run M_X2_init 72 [x0, x1] ((gF h a 2 2).getD .null :: st) h else none := R_getfield d_X2_init_69 rfl
theorem d_X2_init_72 : decode (mB M_X2_init) 72 = .ok (.iload_n 1, 1) := by decide +kernel
theorem r_X2_init_72 {x0 : Value} {a : Int32} {st : List Value} {h : AH} : Run M_X2_init 72 [x0, .int a] st h = Run M_X2_init 73 [x0, .int a] (.int a :: st) h := R_iload_n d_X2_init_72 rfl
theorem d_X2_init_73 : decode (mB M_X2_init) 73 = .ok (.lconst 1, 1) := by decide +kernel
theorem r_X2_init_73 {x0 x1 : Value} {st : List Value} {h : AH} : Run M_X2_init 73 [x0, x1] st h = Run M_X2_init 74 [x0, x1] (.long (lN 1) :: st) h := R_lconst d_X2_init_73 (by decide)
theorem d_X2_init_74 : decode (mB M_X2_init) 74 = .ok (.lastore, 1) := by decide +kernel
theorem r_X2_init_74 {x0 x1 : Value} {a : Nat} {i : Int32} {x : Int64} {st : List Value} {h : AH} : Run M_X2_init 74 [x0, x1] (.long x :: .int i :: .ref a :: st) h = if (pJ h a i x).isSome = true then Run M_X2_init 75 [x0, x1] st ((pJ h a i x).getD h) else none := R_lastore d_X2_init_74
theorem d_X2_init_75 : decode (mB M_X2_init) 75 = .ok (.iinc 1 1, 3) := by decide +kernel
theorem r_X2_init_75 {x0 : Value} {a : Int32} {st : List Value} {h : AH} (hc : x0.category = 1) : Run M_X2_init 75 [x0, .int a] st h = Run M_X2_init 78 [x0, .int (a + (nI 1))] st h := R_iinc d_X2_init_75 (by decide) rfl (catP_of rfl hc)
theorem d_X2_init_78 : decode (mB M_X2_init) 78 = .ok (.goto (-17), 3) := by decide +kernel
theorem r_X2_init_78 {x0 x1 : Value} {st : List Value} {h : AH} : Run M_X2_init 78 [x0, x1] st h = Run M_X2_init 61 [x0, x1] st h := R_goto d_X2_init_78 (by decide)
theorem d_X2_init_81 : decode (mB M_X2_init) 81 = .ok (.return_, 1) := by decide +kernel
theorem r_X2_init_81 {x0 x1 : Value} {h : AH} : Run M_X2_init 81 [x0, x1] [] h = some (h, none) := R_return d_X2_init_81 rfl
theorem d_X2_weigh_0 : decode (mB M_X2_weigh) 0 = .ok (.aload_n 0, 1) := by decide +kernel
theorem r_X2_weigh_0 {x1 x2 x3 x4 : Value} {a : Nat} {st : List Value} {h : AH} : Run M_X2_weigh 0 [.ref a, x1, x2, x3, x4] st h = Run M_X2_weigh 1 [.ref a, x1, x2, x3, x4] (.ref a :: st) h := R_aload_n d_X2_weigh_0 rfl
theorem d_X2_weigh_1 : decode (mB M_X2_weigh) 1 = .ok (.aload_n 1, 1) := by decide +kernel
theorem r_X2_weigh_1 {x0 x2 x3 x4 : Value} {a : Nat} {st : List Value} {h : AH} : Run M_X2_weigh 1 [x0, .ref a, x2, x3, x4] st h = Run M_X2_weigh 2 [x0, .ref a, x2, x3, x4] (.ref a :: st) h := R_aload_n d_X2_weigh_1 rfl
theorem d_X2_weigh_2 : decode (mB M_X2_weigh) 2 = .ok (.getfield 26, 3) := by decide +kernel
theorem r_X2_weigh_2 {x0 x1 x2 x3 x4 : Value} {a : Nat} {st : List Value} {h : AH} : Run M_X2_weigh 2 [x0, x1, x2, x3, x4] (.ref a :: st) h = if (gF h a 4 0).isSome = true then Run M_X2_weigh 5 [x0, x1, x2, x3, x4] ((gF h a 4 0).getD .null :: st) h else none := R_getfield d_X2_weigh_2 rfl
theorem d_X2_weigh_5 : decode (mB M_X2_weigh) 5 = .ok (.bipush 7, 2) := by decide +kernel
theorem r_X2_weigh_5 {x0 x1 x2 x3 x4 : Value} {st : List Value} {h : AH} : Run M_X2_weigh 5 [x0, x1, x2, x3, x4] st h = Run M_X2_weigh 7 [x0, x1, x2, x3, x4] (.int (nI 7) :: st) h := R_bipush d_X2_weigh_5 (by decide)
theorem d_X2_weigh_7 : decode (mB M_X2_weigh) 7 = .ok (.invokestatic 32, 3) := by decide +kernel
theorem r_X2_weigh_7 {x0 x1 x2 x3 x4 : Value} {p0 : Int32} {p1 : Int32} {w0 : Value} {h : AH} : Run M_X2_weigh 7 [x0, x1, x2, x3, x4] (.int p1 :: .int p0 :: [w0]) h = if (Call M_J9_min_7cf53 h [.int p0, .int p1]).isSome = true then Run M_X2_weigh 10 [x0, x1, x2, x3, x4] (rL (Call M_J9_min_7cf53 h [.int p0, .int p1]) ++ [w0]) (cH (Call M_J9_min_7cf53 h [.int p0, .int p1])) else none := R_stat d_X2_weigh_7 rfl rfl rfl rfl (Nat.le_of_ble_eq_true rfl)
theorem d_X2_weigh_10 : decode (mB M_X2_weigh) 10 = .ok (.putfield 38, 3) := by decide +kernel
theorem r_X2_weigh_10 {x0 x1 x2 x3 x4 : Value} {v : Int32} {a : Nat} {st : List Value} {h : AH} : Run M_X2_weigh 10 [x0, x1, x2, x3, x4] (.int v :: .ref a :: st) h = if (pF h a 2 4 (.int v)).isSome = true then Run M_X2_weigh 13 [x0, x1, x2, x3, x4] st ((pF h a 2 4 (.int v)).getD h) else none := R_putfield d_X2_weigh_10 rfl (okP_int rfl rfl)
theorem d_X2_weigh_13 : decode (mB M_X2_weigh) 13 = .ok (.iconst 0, 1) := by decide +kernel
theorem r_X2_weigh_13 {x0 x1 x2 x3 x4 : Value} {st : List Value} {h : AH} : Run M_X2_weigh 13 [x0, x1, x2, x3, x4] st h = Run M_X2_weigh 14 [x0, x1, x2, x3, x4] (.int (nI 0) :: st) h := R_iconst d_X2_weigh_13 (by decide)
theorem d_X2_weigh_14 : decode (mB M_X2_weigh) 14 = .ok (.istore_n 2, 1) := by decide +kernel
theorem r_X2_weigh_14 {x0 x1 x2 x3 x4 : Value} {a : Int32} {st : List Value} {h : AH} (hc : x1.category = 1) : Run M_X2_weigh 14 [x0, x1, x2, x3, x4] (.int a :: st) h = Run M_X2_weigh 15 [x0, x1, .int a, x3, x4] st h := R_istore_n d_X2_weigh_14 (Nat.lt_of_lt_of_le (by decide : 2 < 5) (Nat.le_refl 5)) (catP_of rfl hc)
theorem d_X2_weigh_15 : decode (mB M_X2_weigh) 15 = .ok (.iconst 0, 1) := by decide +kernel
theorem r_X2_weigh_15 {x0 x1 x2 x3 x4 : Value} {st : List Value} {h : AH} : Run M_X2_weigh 15 [x0, x1, x2, x3, x4] st h = Run M_X2_weigh 16 [x0, x1, x2, x3, x4] (.int (nI 0) :: st) h := R_iconst d_X2_weigh_15 (by decide)
theorem d_X2_weigh_16 : decode (mB M_X2_weigh) 16 = .ok (.istore_n 3, 1) := by decide +kernel
theorem r_X2_weigh_16 {x0 x1 x2 x3 x4 : Value} {a : Int32} {st : List Value} {h : AH} (hc : x2.category = 1) : Run M_X2_weigh 16 [x0, x1, x2, x3, x4] (.int a :: st) h = Run M_X2_weigh 17 [x0, x1, x2, .int a, x4] st h := R_istore_n d_X2_weigh_16 (Nat.lt_of_lt_of_le (by decide : 3 < 5) (Nat.le_refl 5)) (catP_of rfl hc)
theorem d_X2_weigh_17 : decode (mB M_X2_weigh) 17 = .ok (.iload_n 3, 1) := by decide +kernel
theorem r_X2_weigh_17 {x0 x1 x2 x4 : Value} {a : Int32} {st : List Value} {h : AH} : Run M_X2_weigh 17 [x0, x1, x2, .int a, x4] st h = Run M_X2_weigh 18 [x0, x1, x2, .int a, x4] (.int a :: st) h := R_iload_n d_X2_weigh_17 rfl
theorem d_X2_weigh_18 : decode (mB M_X2_weigh) 18 = .ok (.aload_n 0, 1) := by decide +kernel
theorem r_X2_weigh_18 {x1 x2 x3 x4 : Value} {a : Nat} {st : List Value} {h : AH} : Run M_X2_weigh 18 [.ref a, x1, x2, x3, x4] st h = Run M_X2_weigh 19 [.ref a, x1, x2, x3, x4] (.ref a :: st) h := R_aload_n d_X2_weigh_18 rfl
theorem d_X2_weigh_19 : decode (mB M_X2_weigh) 19 = .ok (.getfield 38, 3) := by decide +kernel
theorem r_X2_weigh_19 {x0 x1 x2 x3 x4 : Value} {a : Nat} {st : List Value} {h : AH} : Run M_X2_weigh 19 [x0, x1, x2, x3, x4] (.ref a :: st) h = if (gF h a 2 4).isSome = true then Run M_X2_weigh 22 [x0, x1, x2, x3, x4] ((gF h a 2 4).getD .null :: st) h else none := R_getfield d_X2_weigh_19 rfl
theorem d_X2_weigh_22 : decode (mB M_X2_weigh) 22 = .ok (.if_icmp .ge 98, 3) := by decide +kernel
theorem r_X2_weigh_22 {x0 x1 x2 x3 x4 : Value} {x y : Int32} {st : List Value} {h : AH} : Run M_X2_weigh 22 [x0, x1, x2, x3, x4] (.int y :: .int x :: st) h = if y ≤ x then Run M_X2_weigh 120 [x0, x1, x2, x3, x4] st h else Run M_X2_weigh 25 [x0, x1, x2, x3, x4] st h := R_icmp_ge d_X2_weigh_22 (by decide)
theorem d_X2_weigh_25 : decode (mB M_X2_weigh) 25 = .ok (.aload_n 1, 1) := by decide +kernel
theorem r_X2_weigh_25 {x0 x2 x3 x4 : Value} {a : Nat} {st : List Value} {h : AH} : Run M_X2_weigh 25 [x0, .ref a, x2, x3, x4] st h = Run M_X2_weigh 26 [x0, .ref a, x2, x3, x4] (.ref a :: st) h := R_aload_n d_X2_weigh_25 rfl
theorem d_X2_weigh_26 : decode (mB M_X2_weigh) 26 = .ok (.getfield 39, 3) := by decide +kernel
theorem r_X2_weigh_26 {x0 x1 x2 x3 x4 : Value} {a : Nat} {st : List Value} {h : AH} : Run M_X2_weigh 26 [x0, x1, x2, x3, x4] (.ref a :: st) h = if (gF h a 4 1).isSome = true then Run M_X2_weigh 29 [x0, x1, x2, x3, x4] ((gF h a 4 1).getD .null :: st) h else none := R_getfield d_X2_weigh_26 rfl
theorem d_X2_weigh_29 : decode (mB M_X2_weigh) 29 = .ok (.iload_n 3, 1) := by decide +kernel
theorem r_X2_weigh_29 {x0 x1 x2 x4 : Value} {a : Int32} {st : List Value} {h : AH} : Run M_X2_weigh 29 [x0, x1, x2, .int a, x4] st h = Run M_X2_weigh 30 [x0, x1, x2, .int a, x4] (.int a :: st) h := R_iload_n d_X2_weigh_29 rfl
theorem d_X2_weigh_30 : decode (mB M_X2_weigh) 30 = .ok (.aaload, 1) := by decide +kernel
theorem r_X2_weigh_30 {x0 x1 x2 x3 x4 : Value} {a : Nat} {i : Int32} {st : List Value} {h : AH} : Run M_X2_weigh 30 [x0, x1, x2, x3, x4] (.int i :: .ref a :: st) h = if (gR h a i).isSome = true then Run M_X2_weigh 31 [x0, x1, x2, x3, x4] (.ref ((gR h a i).getD 0) :: st) h else none := R_aaload d_X2_weigh_30
theorem d_X2_weigh_31 : decode (mB M_X2_weigh) 31 = .ok (.astore 4, 2) := by decide +kernel
theorem r_X2_weigh_31 {x0 x1 x2 x3 x4 : Value} {a : Nat} {st : List Value} {h : AH} (hc : x3.category = 1) : Run M_X2_weigh 31 [x0, x1, x2, x3, x4] (.ref a :: st) h = Run M_X2_weigh 33 [x0, x1, x2, x3, .ref a] st h := R_astore d_X2_weigh_31 (Nat.lt_of_lt_of_le (by decide : 4 < 5) (Nat.le_refl 5)) (catP_of rfl hc)
theorem d_X2_weigh_33 : decode (mB M_X2_weigh) 33 = .ok (.aload_n 0, 1) := by decide +kernel
theorem r_X2_weigh_33 {x1 x2 x3 x4 : Value} {a : Nat} {st : List Value} {h : AH} : Run M_X2_weigh 33 [.ref a, x1, x2, x3, x4] st h = Run M_X2_weigh 34 [.ref a, x1, x2, x3, x4] (.ref a :: st) h := R_aload_n d_X2_weigh_33 rfl
theorem d_X2_weigh_34 : decode (mB M_X2_weigh) 34 = .ok (.getfield 11, 3) := by decide +kernel
theorem r_X2_weigh_34 {x0 x1 x2 x3 x4 : Value} {a : Nat} {st : List Value} {h : AH} : Run M_X2_weigh 34 [x0, x1, x2, x3, x4] (.ref a :: st) h = if (gF h a 2 0).isSome = true then Run M_X2_weigh 37 [x0, x1, x2, x3, x4] ((gF h a 2 0).getD .null :: st) h else none := R_getfield d_X2_weigh_34 rfl
theorem d_X2_weigh_37 : decode (mB M_X2_weigh) 37 = .ok (.iload_n 3, 1) := by decide +kernel
theorem r_X2_weigh_37 {x0 x1 x2 x4 : Value} {a : Int32} {st : List Value} {h : AH} : Run M_X2_weigh 37 [x0, x1, x2, .int a, x4] st h = Run M_X2_weigh 38 [x0, x1, x2, .int a, x4] (.int a :: st) h := R_iload_n d_X2_weigh_37 rfl
theorem d_X2_weigh_38 : decode (mB M_X2_weigh) 38 = .ok (.iconst 1, 1) := by decide +kernel
theorem r_X2_weigh_38 {x0 x1 x2 x3 x4 : Value} {st : List Value} {h : AH} : Run M_X2_weigh 38 [x0, x1, x2, x3, x4] st h = Run M_X2_weigh 39 [x0, x1, x2, x3, x4] (.int (nI 1) :: st) h := R_iconst d_X2_weigh_38 (by decide)
theorem d_X2_weigh_39 : decode (mB M_X2_weigh) 39 = .ok (.iadd, 1) := by decide +kernel
theorem r_X2_weigh_39 {x0 x1 x2 x3 x4 : Value} {x y : Int32} {st : List Value} {h : AH} : Run M_X2_weigh 39 [x0, x1, x2, x3, x4] (.int y :: .int x :: st) h = Run M_X2_weigh 40 [x0, x1, x2, x3, x4] (.int (x + y) :: st) h := R_iadd d_X2_weigh_39
theorem d_X2_weigh_40 : decode (mB M_X2_weigh) 40 = .ok (.aaload, 1) := by decide +kernel
theorem r_X2_weigh_40 {x0 x1 x2 x3 x4 : Value} {a : Nat} {i : Int32} {st : List Value} {h : AH} : Run M_X2_weigh 40 [x0, x1, x2, x3, x4] (.int i :: .ref a :: st) h = if (gR h a i).isSome = true then Run M_X2_weigh 41 [x0, x1, x2, x3, x4] (.ref ((gR h a i).getD 0) :: st) h else none := R_aaload d_X2_weigh_40
theorem d_X2_weigh_41 : decode (mB M_X2_weigh) 41 = .ok (.lconst 0, 1) := by decide +kernel
theorem r_X2_weigh_41 {x0 x1 x2 x3 x4 : Value} {st : List Value} {h : AH} : Run M_X2_weigh 41 [x0, x1, x2, x3, x4] st h = Run M_X2_weigh 42 [x0, x1, x2, x3, x4] (.long (lN 0) :: st) h := R_lconst d_X2_weigh_41 (by decide)
theorem d_X2_weigh_42 : decode (mB M_X2_weigh) 42 = .ok (.invokestatic 43, 3) := by decide +kernel
theorem r_X2_weigh_42 {x0 x1 x2 x3 x4 : Value} {p0 : Nat} {p1 : Int64} {h : AH} : Run M_X2_weigh 42 [x0, x1, x2, x3, x4] (.long p1 :: .ref p0 :: []) h = if (Call M_J7_fill_d0a16 h [.ref p0, .long p1]).isSome = true then Run M_X2_weigh 45 [x0, x1, x2, x3, x4] (rL (Call M_J7_fill_d0a16 h [.ref p0, .long p1]) ++ []) (cH (Call M_J7_fill_d0a16 h [.ref p0, .long p1])) else none := R_stat d_X2_weigh_42 rfl rfl rfl rfl (Nat.le_of_ble_eq_true rfl)
theorem d_X2_weigh_45 : decode (mB M_X2_weigh) 45 = .ok (.aload 4, 2) := by decide +kernel
theorem r_X2_weigh_45 {x0 x1 x2 x3 : Value} {a : Nat} {st : List Value} {h : AH} : Run M_X2_weigh 45 [x0, x1, x2, x3, .ref a] st h = Run M_X2_weigh 47 [x0, x1, x2, x3, .ref a] (.ref a :: st) h := R_aload d_X2_weigh_45 rfl
theorem d_X2_weigh_47 : decode (mB M_X2_weigh) 47 = .ok (.aload_n 0, 1) := by decide +kernel
theorem r_X2_weigh_47 {x1 x2 x3 x4 : Value} {a : Nat} {st : List Value} {h : AH} : Run M_X2_weigh 47 [.ref a, x1, x2, x3, x4] st h = Run M_X2_weigh 48 [.ref a, x1, x2, x3, x4] (.ref a :: st) h := R_aload_n d_X2_weigh_47 rfl
theorem d_X2_weigh_48 : decode (mB M_X2_weigh) 48 = .ok (.getfield 11, 3) := by decide +kernel
theorem r_X2_weigh_48 {x0 x1 x2 x3 x4 : Value} {a : Nat} {st : List Value} {h : AH} : Run M_X2_weigh 48 [x0, x1, x2, x3, x4] (.ref a :: st) h = if (gF h a 2 0).isSome = true then Run M_X2_weigh 51 [x0, x1, x2, x3, x4] ((gF h a 2 0).getD .null :: st) h else none := R_getfield d_X2_weigh_48 rfl
theorem d_X2_weigh_51 : decode (mB M_X2_weigh) 51 = .ok (.iload_n 3, 1) := by decide +kernel
theorem r_X2_weigh_51 {x0 x1 x2 x4 : Value} {a : Int32} {st : List Value} {h : AH} : Run M_X2_weigh 51 [x0, x1, x2, .int a, x4] st h = Run M_X2_weigh 52 [x0, x1, x2, .int a, x4] (.int a :: st) h := R_iload_n d_X2_weigh_51 rfl
theorem d_X2_weigh_52 : decode (mB M_X2_weigh) 52 = .ok (.aaload, 1) := by decide +kernel
theorem r_X2_weigh_52 {x0 x1 x2 x3 x4 : Value} {a : Nat} {i : Int32} {st : List Value} {h : AH} : Run M_X2_weigh 52 [x0, x1, x2, x3, x4] (.int i :: .ref a :: st) h = if (gR h a i).isSome = true then Run M_X2_weigh 53 [x0, x1, x2, x3, x4] (.ref ((gR h a i).getD 0) :: st) h else none := R_aaload d_X2_weigh_52
theorem d_X2_weigh_53 : decode (mB M_X2_weigh) 53 = .ok (.aload_n 0, 1) := by decide +kernel
theorem r_X2_weigh_53 {x1 x2 x3 x4 : Value} {a : Nat} {st : List Value} {h : AH} : Run M_X2_weigh 53 [.ref a, x1, x2, x3, x4] st h = Run M_X2_weigh 54 [.ref a, x1, x2, x3, x4] (.ref a :: st) h := R_aload_n d_X2_weigh_53 rfl
theorem d_X2_weigh_54 : decode (mB M_X2_weigh) 54 = .ok (.getfield 11, 3) := by decide +kernel
theorem r_X2_weigh_54 {x0 x1 x2 x3 x4 : Value} {a : Nat} {st : List Value} {h : AH} : Run M_X2_weigh 54 [x0, x1, x2, x3, x4] (.ref a :: st) h = if (gF h a 2 0).isSome = true then Run M_X2_weigh 57 [x0, x1, x2, x3, x4] ((gF h a 2 0).getD .null :: st) h else none := R_getfield d_X2_weigh_54 rfl
theorem d_X2_weigh_57 : decode (mB M_X2_weigh) 57 = .ok (.iload_n 3, 1) := by decide +kernel
theorem r_X2_weigh_57 {x0 x1 x2 x4 : Value} {a : Int32} {st : List Value} {h : AH} : Run M_X2_weigh 57 [x0, x1, x2, .int a, x4] st h = Run M_X2_weigh 58 [x0, x1, x2, .int a, x4] (.int a :: st) h := R_iload_n d_X2_weigh_57 rfl
theorem d_X2_weigh_58 : decode (mB M_X2_weigh) 58 = .ok (.iconst 1, 1) := by decide +kernel
theorem r_X2_weigh_58 {x0 x1 x2 x3 x4 : Value} {st : List Value} {h : AH} : Run M_X2_weigh 58 [x0, x1, x2, x3, x4] st h = Run M_X2_weigh 59 [x0, x1, x2, x3, x4] (.int (nI 1) :: st) h := R_iconst d_X2_weigh_58 (by decide)
theorem d_X2_weigh_59 : decode (mB M_X2_weigh) 59 = .ok (.iadd, 1) := by decide +kernel
theorem r_X2_weigh_59 {x0 x1 x2 x3 x4 : Value} {x y : Int32} {st : List Value} {h : AH} : Run M_X2_weigh 59 [x0, x1, x2, x3, x4] (.int y :: .int x :: st) h = Run M_X2_weigh 60 [x0, x1, x2, x3, x4] (.int (x + y) :: st) h := R_iadd d_X2_weigh_59
theorem d_X2_weigh_60 : decode (mB M_X2_weigh) 60 = .ok (.aaload, 1) := by decide +kernel
theorem r_X2_weigh_60 {x0 x1 x2 x3 x4 : Value} {a : Nat} {i : Int32} {st : List Value} {h : AH} : Run M_X2_weigh 60 [x0, x1, x2, x3, x4] (.int i :: .ref a :: st) h = if (gR h a i).isSome = true then Run M_X2_weigh 61 [x0, x1, x2, x3, x4] (.ref ((gR h a i).getD 0) :: st) h else none := R_aaload d_X2_weigh_60
theorem d_X2_weigh_61 : decode (mB M_X2_weigh) 61 = .ok (.iload_n 2, 1) := by decide +kernel
theorem r_X2_weigh_61 {x0 x1 x3 x4 : Value} {a : Int32} {st : List Value} {h : AH} : Run M_X2_weigh 61 [x0, x1, .int a, x3, x4] st h = Run M_X2_weigh 62 [x0, x1, .int a, x3, x4] (.int a :: st) h := R_iload_n d_X2_weigh_61 rfl
theorem d_X2_weigh_62 : decode (mB M_X2_weigh) 62 = .ok (.invokevirtual 49, 3) := by decide +kernel
theorem r_X2_weigh_62 {x0 x1 x2 x3 x4 : Value} {p0 : Nat} {p1 : Nat} {p2 : Int32} {a : Nat} {h : AH} : Run M_X2_weigh 62 [x0, x1, x2, x3, x4] (.int p2 :: .ref p1 :: .ref p0 :: .ref a :: []) h = if refO h 6 (some (.ref a)) = true then (if (Call M_X6_addLeftOut h [.ref a, .ref p0, .ref p1, .int p2]).isSome = true then Run M_X2_weigh 65 [x0, x1, x2, x3, x4] (rL (Call M_X6_addLeftOut h [.ref a, .ref p0, .ref p1, .int p2]) ++ []) (cH (Call M_X6_addLeftOut h [.ref a, .ref p0, .ref p1, .int p2])) else none) else none := R_virt d_X2_weigh_62 rfl rfl rfl rfl rfl (Nat.le_of_ble_eq_true rfl)
theorem d_X2_weigh_65 : decode (mB M_X2_weigh) 65 = .ok (.aload 4, 2) := by decide +kernel
theorem r_X2_weigh_65 {x0 x1 x2 x3 : Value} {a : Nat} {st : List Value} {h : AH} : Run M_X2_weigh 65 [x0, x1, x2, x3, .ref a] st h = Run M_X2_weigh 67 [x0, x1, x2, x3, .ref a] (.ref a :: st) h := R_aload d_X2_weigh_65 rfl
theorem d_X2_weigh_67 : decode (mB M_X2_weigh) 67 = .ok (.aload_n 0, 1) := by decide +kernel
theorem r_X2_weigh_67 {x1 x2 x3 x4 : Value} {a : Nat} {st : List Value} {h : AH} : Run M_X2_weigh 67 [.ref a, x1, x2, x3, x4] st h = Run M_X2_weigh 68 [.ref a, x1, x2, x3, x4] (.ref a :: st) h := R_aload_n d_X2_weigh_67 rfl
theorem d_X2_weigh_68 : decode (mB M_X2_weigh) 68 = .ok (.getfield 11, 3) := by decide +kernel
theorem r_X2_weigh_68 {x0 x1 x2 x3 x4 : Value} {a : Nat} {st : List Value} {h : AH} : Run M_X2_weigh 68 [x0, x1, x2, x3, x4] (.ref a :: st) h = if (gF h a 2 0).isSome = true then Run M_X2_weigh 71 [x0, x1, x2, x3, x4] ((gF h a 2 0).getD .null :: st) h else none := R_getfield d_X2_weigh_68 rfl
theorem d_X2_weigh_71 : decode (mB M_X2_weigh) 71 = .ok (.iload_n 3, 1) := by decide +kernel
theorem r_X2_weigh_71 {x0 x1 x2 x4 : Value} {a : Int32} {st : List Value} {h : AH} : Run M_X2_weigh 71 [x0, x1, x2, .int a, x4] st h = Run M_X2_weigh 72 [x0, x1, x2, .int a, x4] (.int a :: st) h := R_iload_n d_X2_weigh_71 rfl
theorem d_X2_weigh_72 : decode (mB M_X2_weigh) 72 = .ok (.aaload, 1) := by decide +kernel
theorem r_X2_weigh_72 {x0 x1 x2 x3 x4 : Value} {a : Nat} {i : Int32} {st : List Value} {h : AH} : Run M_X2_weigh 72 [x0, x1, x2, x3, x4] (.int i :: .ref a :: st) h = if (gR h a i).isSome = true then Run M_X2_weigh 73 [x0, x1, x2, x3, x4] (.ref ((gR h a i).getD 0) :: st) h else none := R_aaload d_X2_weigh_72
theorem d_X2_weigh_73 : decode (mB M_X2_weigh) 73 = .ok (.aload_n 0, 1) := by decide +kernel
theorem r_X2_weigh_73 {x1 x2 x3 x4 : Value} {a : Nat} {st : List Value} {h : AH} : Run M_X2_weigh 73 [.ref a, x1, x2, x3, x4] st h = Run M_X2_weigh 74 [.ref a, x1, x2, x3, x4] (.ref a :: st) h := R_aload_n d_X2_weigh_73 rfl
theorem d_X2_weigh_74 : decode (mB M_X2_weigh) 74 = .ok (.getfield 11, 3) := by decide +kernel
theorem r_X2_weigh_74 {x0 x1 x2 x3 x4 : Value} {a : Nat} {st : List Value} {h : AH} : Run M_X2_weigh 74 [x0, x1, x2, x3, x4] (.ref a :: st) h = if (gF h a 2 0).isSome = true then Run M_X2_weigh 77 [x0, x1, x2, x3, x4] ((gF h a 2 0).getD .null :: st) h else none := R_getfield d_X2_weigh_74 rfl
theorem d_X2_weigh_77 : decode (mB M_X2_weigh) 77 = .ok (.iload_n 3, 1) := by decide +kernel
theorem r_X2_weigh_77 {x0 x1 x2 x4 : Value} {a : Int32} {st : List Value} {h : AH} : Run M_X2_weigh 77 [x0, x1, x2, .int a, x4] st h = Run M_X2_weigh 78 [x0, x1, x2, .int a, x4] (.int a :: st) h := R_iload_n d_X2_weigh_77 rfl
theorem d_X2_weigh_78 : decode (mB M_X2_weigh) 78 = .ok (.iconst 1, 1) := by decide +kernel
theorem r_X2_weigh_78 {x0 x1 x2 x3 x4 : Value} {st : List Value} {h : AH} : Run M_X2_weigh 78 [x0, x1, x2, x3, x4] st h = Run M_X2_weigh 79 [x0, x1, x2, x3, x4] (.int (nI 1) :: st) h := R_iconst d_X2_weigh_78 (by decide)
theorem d_X2_weigh_79 : decode (mB M_X2_weigh) 79 = .ok (.iadd, 1) := by decide +kernel
theorem r_X2_weigh_79 {x0 x1 x2 x3 x4 : Value} {x y : Int32} {st : List Value} {h : AH} : Run M_X2_weigh 79 [x0, x1, x2, x3, x4] (.int y :: .int x :: st) h = Run M_X2_weigh 80 [x0, x1, x2, x3, x4] (.int (x + y) :: st) h := R_iadd d_X2_weigh_79
theorem d_X2_weigh_80 : decode (mB M_X2_weigh) 80 = .ok (.aaload, 1) := by decide +kernel
theorem r_X2_weigh_80 {x0 x1 x2 x3 x4 : Value} {a : Nat} {i : Int32} {st : List Value} {h : AH} : Run M_X2_weigh 80 [x0, x1, x2, x3, x4] (.int i :: .ref a :: st) h = if (gR h a i).isSome = true then Run M_X2_weigh 81 [x0, x1, x2, x3, x4] (.ref ((gR h a i).getD 0) :: st) h else none := R_aaload d_X2_weigh_80
theorem d_X2_weigh_81 : decode (mB M_X2_weigh) 81 = .ok (.iload_n 2, 1) := by decide +kernel
theorem r_X2_weigh_81 {x0 x1 x3 x4 : Value} {a : Int32} {st : List Value} {h : AH} : Run M_X2_weigh 81 [x0, x1, .int a, x3, x4] st h = Run M_X2_weigh 82 [x0, x1, .int a, x3, x4] (.int a :: st) h := R_iload_n d_X2_weigh_81 rfl
theorem d_X2_weigh_82 : decode (mB M_X2_weigh) 82 = .ok (.invokevirtual 55, 3) := by decide +kernel
theorem r_X2_weigh_82 {x0 x1 x2 x3 x4 : Value} {p0 : Nat} {p1 : Nat} {p2 : Int32} {a : Nat} {h : AH} : Run M_X2_weigh 82 [x0, x1, x2, x3, x4] (.int p2 :: .ref p1 :: .ref p0 :: .ref a :: []) h = if refO h 6 (some (.ref a)) = true then (if (Call M_X6_addPlayed h [.ref a, .ref p0, .ref p1, .int p2]).isSome = true then Run M_X2_weigh 85 [x0, x1, x2, x3, x4] (rL (Call M_X6_addPlayed h [.ref a, .ref p0, .ref p1, .int p2]) ++ []) (cH (Call M_X6_addPlayed h [.ref a, .ref p0, .ref p1, .int p2])) else none) else none := R_virt d_X2_weigh_82 rfl rfl rfl rfl rfl (Nat.le_of_ble_eq_true rfl)
theorem d_X2_weigh_85 : decode (mB M_X2_weigh) 85 = .ok (.aload_n 0, 1) := by decide +kernel
theorem r_X2_weigh_85 {x1 x2 x3 x4 : Value} {a : Nat} {st : List Value} {h : AH} : Run M_X2_weigh 85 [.ref a, x1, x2, x3, x4] st h = Run M_X2_weigh 86 [.ref a, x1, x2, x3, x4] (.ref a :: st) h := R_aload_n d_X2_weigh_85 rfl
theorem d_X2_weigh_86 : decode (mB M_X2_weigh) 86 = .ok (.getfield 16, 3) := by decide +kernel
theorem r_X2_weigh_86 {x0 x1 x2 x3 x4 : Value} {a : Nat} {st : List Value} {h : AH} : Run M_X2_weigh 86 [x0, x1, x2, x3, x4] (.ref a :: st) h = if (gF h a 2 1).isSome = true then Run M_X2_weigh 89 [x0, x1, x2, x3, x4] ((gF h a 2 1).getD .null :: st) h else none := R_getfield d_X2_weigh_86 rfl
theorem d_X2_weigh_89 : decode (mB M_X2_weigh) 89 = .ok (.iload_n 3, 1) := by decide +kernel
theorem r_X2_weigh_89 {x0 x1 x2 x4 : Value} {a : Int32} {st : List Value} {h : AH} : Run M_X2_weigh 89 [x0, x1, x2, .int a, x4] st h = Run M_X2_weigh 90 [x0, x1, x2, .int a, x4] (.int a :: st) h := R_iload_n d_X2_weigh_89 rfl
theorem d_X2_weigh_90 : decode (mB M_X2_weigh) 90 = .ok (.iconst 1, 1) := by decide +kernel
theorem r_X2_weigh_90 {x0 x1 x2 x3 x4 : Value} {st : List Value} {h : AH} : Run M_X2_weigh 90 [x0, x1, x2, x3, x4] st h = Run M_X2_weigh 91 [x0, x1, x2, x3, x4] (.int (nI 1) :: st) h := R_iconst d_X2_weigh_90 (by decide)
theorem d_X2_weigh_91 : decode (mB M_X2_weigh) 91 = .ok (.iadd, 1) := by decide +kernel
theorem r_X2_weigh_91 {x0 x1 x2 x3 x4 : Value} {x y : Int32} {st : List Value} {h : AH} : Run M_X2_weigh 91 [x0, x1, x2, x3, x4] (.int y :: .int x :: st) h = Run M_X2_weigh 92 [x0, x1, x2, x3, x4] (.int (x + y) :: st) h := R_iadd d_X2_weigh_91
theorem d_X2_weigh_92 : decode (mB M_X2_weigh) 92 = .ok (.aload_n 0, 1) := by decide +kernel
theorem r_X2_weigh_92 {x1 x2 x3 x4 : Value} {a : Nat} {st : List Value} {h : AH} : Run M_X2_weigh 92 [.ref a, x1, x2, x3, x4] st h = Run M_X2_weigh 93 [.ref a, x1, x2, x3, x4] (.ref a :: st) h := R_aload_n d_X2_weigh_92 rfl
theorem d_X2_weigh_93 : decode (mB M_X2_weigh) 93 = .ok (.getfield 16, 3) := by decide +kernel
theorem r_X2_weigh_93 {x0 x1 x2 x3 x4 : Value} {a : Nat} {st : List Value} {h : AH} : Run M_X2_weigh 93 [x0, x1, x2, x3, x4] (.ref a :: st) h = if (gF h a 2 1).isSome = true then Run M_X2_weigh 96 [x0, x1, x2, x3, x4] ((gF h a 2 1).getD .null :: st) h else none := R_getfield d_X2_weigh_93 rfl
theorem d_X2_weigh_96 : decode (mB M_X2_weigh) 96 = .ok (.iload_n 3, 1) := by decide +kernel
theorem r_X2_weigh_96 {x0 x1 x2 x4 : Value} {a : Int32} {st : List Value} {h : AH} : Run M_X2_weigh 96 [x0, x1, x2, .int a, x4] st h = Run M_X2_weigh 97 [x0, x1, x2, .int a, x4] (.int a :: st) h := R_iload_n d_X2_weigh_96 rfl
theorem d_X2_weigh_97 : decode (mB M_X2_weigh) 97 = .ok (.laload, 1) := by decide +kernel
theorem r_X2_weigh_97 {x0 x1 x2 x3 x4 : Value} {a : Nat} {i : Int32} {st : List Value} {h : AH} : Run M_X2_weigh 97 [x0, x1, x2, x3, x4] (.int i :: .ref a :: st) h = if (gJ h a i).isSome = true then Run M_X2_weigh 98 [x0, x1, x2, x3, x4] (.long ((gJ h a i).getD 0) :: st) h else none := R_laload d_X2_weigh_97
theorem d_X2_weigh_98 : decode (mB M_X2_weigh) 98 = .ok (.aload 4, 2) := by decide +kernel
theorem r_X2_weigh_98 {x0 x1 x2 x3 : Value} {a : Nat} {st : List Value} {h : AH} : Run M_X2_weigh 98 [x0, x1, x2, x3, .ref a] st h = Run M_X2_weigh 100 [x0, x1, x2, x3, .ref a] (.ref a :: st) h := R_aload d_X2_weigh_98 rfl
theorem d_X2_weigh_100 : decode (mB M_X2_weigh) 100 = .ok (.invokevirtual 58, 3) := by decide +kernel
theorem r_X2_weigh_100 {x0 x1 x2 x3 x4 : Value} {a : Nat} {w0 w1 w2 : Value} {h : AH} : Run M_X2_weigh 100 [x0, x1, x2, x3, x4] (.ref a :: [w0, w1, w2]) h = if refO h 6 (some (.ref a)) = true then (if (Call M_X6_choices h [.ref a]).isSome = true then Run M_X2_weigh 103 [x0, x1, x2, x3, x4] (rL (Call M_X6_choices h [.ref a]) ++ [w0, w1, w2]) (cH (Call M_X6_choices h [.ref a])) else none) else none := R_virt d_X2_weigh_100 rfl rfl rfl rfl rfl (Nat.le_of_ble_eq_true rfl)
theorem d_X2_weigh_103 : decode (mB M_X2_weigh) 103 = .ok (.i2l, 1) := by decide +kernel
theorem r_X2_weigh_103 {x0 x1 x2 x3 x4 : Value} {x : Int32} {st : List Value} {h : AH} : Run M_X2_weigh 103 [x0, x1, x2, x3, x4] (.int x :: st) h = Run M_X2_weigh 104 [x0, x1, x2, x3, x4] (.long x.toInt64 :: st) h := R_i2l d_X2_weigh_103
theorem d_X2_weigh_104 : decode (mB M_X2_weigh) 104 = .ok (.lmul, 1) := by decide +kernel
theorem r_X2_weigh_104 {x0 x1 x2 x3 x4 : Value} {x y : Int64} {st : List Value} {h : AH} : Run M_X2_weigh 104 [x0, x1, x2, x3, x4] (.long y :: .long x :: st) h = Run M_X2_weigh 105 [x0, x1, x2, x3, x4] (.long (x * y) :: st) h := R_lmul d_X2_weigh_104
theorem d_X2_weigh_105 : decode (mB M_X2_weigh) 105 = .ok (.lastore, 1) := by decide +kernel
theorem r_X2_weigh_105 {x0 x1 x2 x3 x4 : Value} {a : Nat} {i : Int32} {x : Int64} {st : List Value} {h : AH} : Run M_X2_weigh 105 [x0, x1, x2, x3, x4] (.long x :: .int i :: .ref a :: st) h = if (pJ h a i x).isSome = true then Run M_X2_weigh 106 [x0, x1, x2, x3, x4] st ((pJ h a i x).getD h) else none := R_lastore d_X2_weigh_105
theorem d_X2_weigh_106 : decode (mB M_X2_weigh) 106 = .ok (.iload_n 2, 1) := by decide +kernel
theorem r_X2_weigh_106 {x0 x1 x3 x4 : Value} {a : Int32} {st : List Value} {h : AH} : Run M_X2_weigh 106 [x0, x1, .int a, x3, x4] st h = Run M_X2_weigh 107 [x0, x1, .int a, x3, x4] (.int a :: st) h := R_iload_n d_X2_weigh_106 rfl
theorem d_X2_weigh_107 : decode (mB M_X2_weigh) 107 = .ok (.aload 4, 2) := by decide +kernel
theorem r_X2_weigh_107 {x0 x1 x2 x3 : Value} {a : Nat} {st : List Value} {h : AH} : Run M_X2_weigh 107 [x0, x1, x2, x3, .ref a] st h = Run M_X2_weigh 109 [x0, x1, x2, x3, .ref a] (.ref a :: st) h := R_aload d_X2_weigh_107 rfl
theorem d_X2_weigh_109 : decode (mB M_X2_weigh) 109 = .ok (.invokevirtual 61, 3) := by decide +kernel
theorem r_X2_weigh_109 {x0 x1 x2 x3 x4 : Value} {a : Nat} {w0 : Value} {h : AH} : Run M_X2_weigh 109 [x0, x1, x2, x3, x4] (.ref a :: [w0]) h = if refO h 6 (some (.ref a)) = true then (if (Call M_X6_longest h [.ref a]).isSome = true then Run M_X2_weigh 112 [x0, x1, x2, x3, x4] (rL (Call M_X6_longest h [.ref a]) ++ [w0]) (cH (Call M_X6_longest h [.ref a])) else none) else none := R_virt d_X2_weigh_109 rfl rfl rfl rfl rfl (Nat.le_of_ble_eq_true rfl)
theorem d_X2_weigh_112 : decode (mB M_X2_weigh) 112 = .ok (.iadd, 1) := by decide +kernel
theorem r_X2_weigh_112 {x0 x1 x2 x3 x4 : Value} {x y : Int32} {st : List Value} {h : AH} : Run M_X2_weigh 112 [x0, x1, x2, x3, x4] (.int y :: .int x :: st) h = Run M_X2_weigh 113 [x0, x1, x2, x3, x4] (.int (x + y) :: st) h := R_iadd d_X2_weigh_112
theorem d_X2_weigh_113 : decode (mB M_X2_weigh) 113 = .ok (.istore_n 2, 1) := by decide +kernel
theorem r_X2_weigh_113 {x0 x1 x2 x3 x4 : Value} {a : Int32} {st : List Value} {h : AH} (hc : x1.category = 1) : Run M_X2_weigh 113 [x0, x1, x2, x3, x4] (.int a :: st) h = Run M_X2_weigh 114 [x0, x1, .int a, x3, x4] st h := R_istore_n d_X2_weigh_113 (Nat.lt_of_lt_of_le (by decide : 2 < 5) (Nat.le_refl 5)) (catP_of rfl hc)
theorem d_X2_weigh_114 : decode (mB M_X2_weigh) 114 = .ok (.iinc 3 1, 3) := by decide +kernel
theorem r_X2_weigh_114 {x0 x1 x2 x4 : Value} {a : Int32} {st : List Value} {h : AH} (hc : x2.category = 1) : Run M_X2_weigh 114 [x0, x1, x2, .int a, x4] st h = Run M_X2_weigh 117 [x0, x1, x2, .int (a + (nI 1)), x4] st h := R_iinc d_X2_weigh_114 (by decide) rfl (catP_of rfl hc)
theorem d_X2_weigh_117 : decode (mB M_X2_weigh) 117 = .ok (.goto (-100), 3) := by decide +kernel
theorem r_X2_weigh_117 {x0 x1 x2 x3 x4 : Value} {st : List Value} {h : AH} : Run M_X2_weigh 117 [x0, x1, x2, x3, x4] st h = Run M_X2_weigh 17 [x0, x1, x2, x3, x4] st h := R_goto d_X2_weigh_117 (by decide)
theorem d_X2_weigh_120 : decode (mB M_X2_weigh) 120 = .ok (.aload_n 0, 1) := by decide +kernel
theorem r_X2_weigh_120 {x1 x2 x3 x4 : Value} {a : Nat} {st : List Value} {h : AH} : Run M_X2_weigh 120 [.ref a, x1, x2, x3, x4] st h = Run M_X2_weigh 121 [.ref a, x1, x2, x3, x4] (.ref a :: st) h := R_aload_n d_X2_weigh_120 rfl
theorem d_X2_weigh_121 : decode (mB M_X2_weigh) 121 = .ok (.aload_n 0, 1) := by decide +kernel
theorem r_X2_weigh_121 {x1 x2 x3 x4 : Value} {a : Nat} {st : List Value} {h : AH} : Run M_X2_weigh 121 [.ref a, x1, x2, x3, x4] st h = Run M_X2_weigh 122 [.ref a, x1, x2, x3, x4] (.ref a :: st) h := R_aload_n d_X2_weigh_121 rfl
theorem d_X2_weigh_122 : decode (mB M_X2_weigh) 122 = .ok (.getfield 11, 3) := by decide +kernel
theorem r_X2_weigh_122 {x0 x1 x2 x3 x4 : Value} {a : Nat} {st : List Value} {h : AH} : Run M_X2_weigh 122 [x0, x1, x2, x3, x4] (.ref a :: st) h = if (gF h a 2 0).isSome = true then Run M_X2_weigh 125 [x0, x1, x2, x3, x4] ((gF h a 2 0).getD .null :: st) h else none := R_getfield d_X2_weigh_122 rfl
theorem d_X2_weigh_125 : decode (mB M_X2_weigh) 125 = .ok (.aload_n 0, 1) := by decide +kernel
theorem r_X2_weigh_125 {x1 x2 x3 x4 : Value} {a : Nat} {st : List Value} {h : AH} : Run M_X2_weigh 125 [.ref a, x1, x2, x3, x4] st h = Run M_X2_weigh 126 [.ref a, x1, x2, x3, x4] (.ref a :: st) h := R_aload_n d_X2_weigh_125 rfl
theorem d_X2_weigh_126 : decode (mB M_X2_weigh) 126 = .ok (.getfield 38, 3) := by decide +kernel
theorem r_X2_weigh_126 {x0 x1 x2 x3 x4 : Value} {a : Nat} {st : List Value} {h : AH} : Run M_X2_weigh 126 [x0, x1, x2, x3, x4] (.ref a :: st) h = if (gF h a 2 4).isSome = true then Run M_X2_weigh 129 [x0, x1, x2, x3, x4] ((gF h a 2 4).getD .null :: st) h else none := R_getfield d_X2_weigh_126 rfl
theorem d_X2_weigh_129 : decode (mB M_X2_weigh) 129 = .ok (.aaload, 1) := by decide +kernel
theorem r_X2_weigh_129 {x0 x1 x2 x3 x4 : Value} {a : Nat} {i : Int32} {st : List Value} {h : AH} : Run M_X2_weigh 129 [x0, x1, x2, x3, x4] (.int i :: .ref a :: st) h = if (gR h a i).isSome = true then Run M_X2_weigh 130 [x0, x1, x2, x3, x4] (.ref ((gR h a i).getD 0) :: st) h else none := R_aaload d_X2_weigh_129
theorem d_X2_weigh_130 : decode (mB M_X2_weigh) 130 = .ok (.invokevirtual 64, 3) := by decide +kernel
theorem r_X2_weigh_130 {x0 x1 x2 x3 x4 : Value} {p0 : Nat} {a : Nat} {h : AH} : Run M_X2_weigh 130 [x0, x1, x2, x3, x4] (.ref p0 :: .ref a :: []) h = if refO h 2 (some (.ref a)) = true then (if (Call M_X2_sumUp h [.ref a, .ref p0]).isSome = true then Run M_X2_weigh 133 [x0, x1, x2, x3, x4] (rL (Call M_X2_sumUp h [.ref a, .ref p0]) ++ []) (cH (Call M_X2_sumUp h [.ref a, .ref p0])) else none) else none := R_virt d_X2_weigh_130 rfl rfl rfl rfl rfl (Nat.le_of_ble_eq_true rfl)
theorem d_X2_weigh_133 : decode (mB M_X2_weigh) 133 = .ok (.return_, 1) := by decide +kernel
theorem r_X2_weigh_133 {x0 x1 x2 x3 x4 : Value} {h : AH} : Run M_X2_weigh 133 [x0, x1, x2, x3, x4] [] h = some (h, none) := R_return d_X2_weigh_133 rfl
theorem d_X2_sumUp_0 : decode (mB M_X2_sumUp) 0 = .ok (.lconst 0, 1) := by decide +kernel
theorem r_X2_sumUp_0 {x0 x1 x2 x3 x4 x5 x6 : Value} {st : List Value} {h : AH} : Run M_X2_sumUp 0 [x0, x1, x2, x3, x4, x5, x6] st h = Run M_X2_sumUp 1 [x0, x1, x2, x3, x4, x5, x6] (.long (lN 0) :: st) h := R_lconst d_X2_sumUp_0 (by decide)
theorem d_X2_sumUp_1 : decode (mB M_X2_sumUp) 1 = .ok (.lstore_n 2, 1) := by decide +kernel
theorem r_X2_sumUp_1 {x0 x1 x2 x3 x4 x5 x6 : Value} {a : Int64} {st : List Value} {h : AH} (hc : x1.category = 1) : Run M_X2_sumUp 1 [x0, x1, x2, x3, x4, x5, x6] (.long a :: st) h = Run M_X2_sumUp 2 [x0, x1, .long a, .null, x4, x5, x6] st h := R_lstore_n d_X2_sumUp_1 (Nat.lt_of_lt_of_le (by decide : 3 < 7) (Nat.le_refl 7)) (catP_of rfl hc)
theorem d_X2_sumUp_2 : decode (mB M_X2_sumUp) 2 = .ok (.lconst 0, 1) := by decide +kernel
theorem r_X2_sumUp_2 {x0 x1 x2 x3 x4 x5 x6 : Value} {st : List Value} {h : AH} : Run M_X2_sumUp 2 [x0, x1, x2, x3, x4, x5, x6] st h = Run M_X2_sumUp 3 [x0, x1, x2, x3, x4, x5, x6] (.long (lN 0) :: st) h := R_lconst d_X2_sumUp_2 (by decide)
theorem d_X2_sumUp_3 : decode (mB M_X2_sumUp) 3 = .ok (.lstore 4, 2) := by decide +kernel
theorem r_X2_sumUp_3 {x0 x1 x2 x3 x4 x5 x6 : Value} {a : Int64} {st : List Value} {h : AH} (hc : x3.category = 1) : Run M_X2_sumUp 3 [x0, x1, x2, x3, x4, x5, x6] (.long a :: st) h = Run M_X2_sumUp 5 [x0, x1, x2, x3, .long a, .null, x6] st h := R_lstore d_X2_sumUp_3 (Nat.lt_of_lt_of_le (by decide : 5 < 7) (Nat.le_refl 7)) (catP_of rfl hc)
theorem d_X2_sumUp_5 : decode (mB M_X2_sumUp) 5 = .ok (.iconst 0, 1) := by decide +kernel
theorem r_X2_sumUp_5 {x0 x1 x2 x3 x4 x5 x6 : Value} {st : List Value} {h : AH} : Run M_X2_sumUp 5 [x0, x1, x2, x3, x4, x5, x6] st h = Run M_X2_sumUp 6 [x0, x1, x2, x3, x4, x5, x6] (.int (nI 0) :: st) h := R_iconst d_X2_sumUp_5 (by decide)
theorem d_X2_sumUp_6 : decode (mB M_X2_sumUp) 6 = .ok (.istore 6, 2) := by decide +kernel
theorem r_X2_sumUp_6 {x0 x1 x2 x3 x4 x5 x6 : Value} {a : Int32} {st : List Value} {h : AH} (hc : x5.category = 1) : Run M_X2_sumUp 6 [x0, x1, x2, x3, x4, x5, x6] (.int a :: st) h = Run M_X2_sumUp 8 [x0, x1, x2, x3, x4, x5, .int a] st h := R_istore d_X2_sumUp_6 (Nat.lt_of_lt_of_le (by decide : 6 < 7) (Nat.le_refl 7)) (catP_of rfl hc)
theorem d_X2_sumUp_8 : decode (mB M_X2_sumUp) 8 = .ok (.iload 6, 2) := by decide +kernel
theorem r_X2_sumUp_8 {x0 x1 x2 x3 x4 x5 : Value} {a : Int32} {st : List Value} {h : AH} : Run M_X2_sumUp 8 [x0, x1, x2, x3, x4, x5, .int a] st h = Run M_X2_sumUp 10 [x0, x1, x2, x3, x4, x5, .int a] (.int a :: st) h := R_iload d_X2_sumUp_8 rfl
theorem d_X2_sumUp_10 : decode (mB M_X2_sumUp) 10 = .ok (.sipush 420, 3) := by decide +kernel
theorem r_X2_sumUp_10 {x0 x1 x2 x3 x4 x5 x6 : Value} {st : List Value} {h : AH} : Run M_X2_sumUp 10 [x0, x1, x2, x3, x4, x5, x6] st h = Run M_X2_sumUp 13 [x0, x1, x2, x3, x4, x5, x6] (.int (nI 420) :: st) h := R_sipush d_X2_sumUp_10 (by decide)
theorem d_X2_sumUp_13 : decode (mB M_X2_sumUp) 13 = .ok (.if_icmp .gt 53, 3) := by decide +kernel
theorem r_X2_sumUp_13 {x0 x1 x2 x3 x4 x5 x6 : Value} {x y : Int32} {st : List Value} {h : AH} : Run M_X2_sumUp 13 [x0, x1, x2, x3, x4, x5, x6] (.int y :: .int x :: st) h = if y < x then Run M_X2_sumUp 66 [x0, x1, x2, x3, x4, x5, x6] st h else Run M_X2_sumUp 16 [x0, x1, x2, x3, x4, x5, x6] st h := R_icmp_gt d_X2_sumUp_13 (by decide)
theorem d_X2_sumUp_16 : decode (mB M_X2_sumUp) 16 = .ok (.iload 6, 2) := by decide +kernel
theorem r_X2_sumUp_16 {x0 x1 x2 x3 x4 x5 : Value} {a : Int32} {st : List Value} {h : AH} : Run M_X2_sumUp 16 [x0, x1, x2, x3, x4, x5, .int a] st h = Run M_X2_sumUp 18 [x0, x1, x2, x3, x4, x5, .int a] (.int a :: st) h := R_iload d_X2_sumUp_16 rfl
theorem d_X2_sumUp_18 : decode (mB M_X2_sumUp) 18 = .ok (.aload_n 1, 1) := by decide +kernel
theorem r_X2_sumUp_18 {x0 x2 x3 x4 x5 x6 : Value} {a : Nat} {st : List Value} {h : AH} : Run M_X2_sumUp 18 [x0, .ref a, x2, x3, x4, x5, x6] st h = Run M_X2_sumUp 19 [x0, .ref a, x2, x3, x4, x5, x6] (.ref a :: st) h := R_aload_n d_X2_sumUp_18 rfl
theorem d_X2_sumUp_19 : decode (mB M_X2_sumUp) 19 = .ok (.arraylength, 1) := by decide +kernel
theorem r_X2_sumUp_19 {x0 x1 x2 x3 x4 x5 x6 : Value} {a : Nat} {st : List Value} {h : AH} : Run M_X2_sumUp 19 [x0, x1, x2, x3, x4, x5, x6] (.ref a :: st) h = if (gN h a).isSome = true then Run M_X2_sumUp 20 [x0, x1, x2, x3, x4, x5, x6] (.int (Int32.ofNat ((gN h a).getD 0)) :: st) h else none := R_arraylength d_X2_sumUp_19
theorem d_X2_sumUp_20 : decode (mB M_X2_sumUp) 20 = .ok (.if_icmp .ge 46, 3) := by decide +kernel
theorem r_X2_sumUp_20 {x0 x1 x2 x3 x4 x5 x6 : Value} {x y : Int32} {st : List Value} {h : AH} : Run M_X2_sumUp 20 [x0, x1, x2, x3, x4, x5, x6] (.int y :: .int x :: st) h = if y ≤ x then Run M_X2_sumUp 66 [x0, x1, x2, x3, x4, x5, x6] st h else Run M_X2_sumUp 23 [x0, x1, x2, x3, x4, x5, x6] st h := R_icmp_ge d_X2_sumUp_20 (by decide)
theorem d_X2_sumUp_23 : decode (mB M_X2_sumUp) 23 = .ok (.lload_n 2, 1) := by decide +kernel
theorem r_X2_sumUp_23 {x0 x1 x3 x4 x5 x6 : Value} {a : Int64} {st : List Value} {h : AH} : Run M_X2_sumUp 23 [x0, x1, .long a, x3, x4, x5, x6] st h = Run M_X2_sumUp 24 [x0, x1, .long a, x3, x4, x5, x6] (.long a :: st) h := R_lload_n d_X2_sumUp_23 rfl
theorem d_X2_sumUp_24 : decode (mB M_X2_sumUp) 24 = .ok (.aload_n 1, 1) := by decide +kernel
theorem r_X2_sumUp_24 {x0 x2 x3 x4 x5 x6 : Value} {a : Nat} {st : List Value} {h : AH} : Run M_X2_sumUp 24 [x0, .ref a, x2, x3, x4, x5, x6] st h = Run M_X2_sumUp 25 [x0, .ref a, x2, x3, x4, x5, x6] (.ref a :: st) h := R_aload_n d_X2_sumUp_24 rfl
theorem d_X2_sumUp_25 : decode (mB M_X2_sumUp) 25 = .ok (.iload 6, 2) := by decide +kernel
theorem r_X2_sumUp_25 {x0 x1 x2 x3 x4 x5 : Value} {a : Int32} {st : List Value} {h : AH} : Run M_X2_sumUp 25 [x0, x1, x2, x3, x4, x5, .int a] st h = Run M_X2_sumUp 27 [x0, x1, x2, x3, x4, x5, .int a] (.int a :: st) h := R_iload d_X2_sumUp_25 rfl
theorem d_X2_sumUp_27 : decode (mB M_X2_sumUp) 27 = .ok (.laload, 1) := by decide +kernel
theorem r_X2_sumUp_27 {x0 x1 x2 x3 x4 x5 x6 : Value} {a : Nat} {i : Int32} {st : List Value} {h : AH} : Run M_X2_sumUp 27 [x0, x1, x2, x3, x4, x5, x6] (.int i :: .ref a :: st) h = if (gJ h a i).isSome = true then Run M_X2_sumUp 28 [x0, x1, x2, x3, x4, x5, x6] (.long ((gJ h a i).getD 0) :: st) h else none := R_laload d_X2_sumUp_27
theorem d_X2_sumUp_28 : decode (mB M_X2_sumUp) 28 = .ok (.ladd, 1) := by decide +kernel
theorem r_X2_sumUp_28 {x0 x1 x2 x3 x4 x5 x6 : Value} {x y : Int64} {st : List Value} {h : AH} : Run M_X2_sumUp 28 [x0, x1, x2, x3, x4, x5, x6] (.long y :: .long x :: st) h = Run M_X2_sumUp 29 [x0, x1, x2, x3, x4, x5, x6] (.long (x + y) :: st) h := R_ladd d_X2_sumUp_28
theorem d_X2_sumUp_29 : decode (mB M_X2_sumUp) 29 = .ok (.lstore_n 2, 1) := by decide +kernel
theorem r_X2_sumUp_29 {x0 x1 x2 x3 x4 x5 x6 : Value} {a : Int64} {st : List Value} {h : AH} (hc : x1.category = 1) : Run M_X2_sumUp 29 [x0, x1, x2, x3, x4, x5, x6] (.long a :: st) h = Run M_X2_sumUp 30 [x0, x1, .long a, .null, x4, x5, x6] st h := R_lstore_n d_X2_sumUp_29 (Nat.lt_of_lt_of_le (by decide : 3 < 7) (Nat.le_refl 7)) (catP_of rfl hc)
theorem d_X2_sumUp_30 : decode (mB M_X2_sumUp) 30 = .ok (.lload 4, 2) := by decide +kernel
theorem r_X2_sumUp_30 {x0 x1 x2 x3 x5 x6 : Value} {a : Int64} {st : List Value} {h : AH} : Run M_X2_sumUp 30 [x0, x1, x2, x3, .long a, x5, x6] st h = Run M_X2_sumUp 32 [x0, x1, x2, x3, .long a, x5, x6] (.long a :: st) h := R_lload d_X2_sumUp_30 rfl
theorem d_X2_sumUp_32 : decode (mB M_X2_sumUp) 32 = .ok (.aload_n 1, 1) := by decide +kernel
theorem r_X2_sumUp_32 {x0 x2 x3 x4 x5 x6 : Value} {a : Nat} {st : List Value} {h : AH} : Run M_X2_sumUp 32 [x0, .ref a, x2, x3, x4, x5, x6] st h = Run M_X2_sumUp 33 [x0, .ref a, x2, x3, x4, x5, x6] (.ref a :: st) h := R_aload_n d_X2_sumUp_32 rfl
theorem d_X2_sumUp_33 : decode (mB M_X2_sumUp) 33 = .ok (.iload 6, 2) := by decide +kernel
theorem r_X2_sumUp_33 {x0 x1 x2 x3 x4 x5 : Value} {a : Int32} {st : List Value} {h : AH} : Run M_X2_sumUp 33 [x0, x1, x2, x3, x4, x5, .int a] st h = Run M_X2_sumUp 35 [x0, x1, x2, x3, x4, x5, .int a] (.int a :: st) h := R_iload d_X2_sumUp_33 rfl
theorem d_X2_sumUp_35 : decode (mB M_X2_sumUp) 35 = .ok (.laload, 1) := by decide +kernel
theorem r_X2_sumUp_35 {x0 x1 x2 x3 x4 x5 x6 : Value} {a : Nat} {i : Int32} {st : List Value} {h : AH} : Run M_X2_sumUp 35 [x0, x1, x2, x3, x4, x5, x6] (.int i :: .ref a :: st) h = if (gJ h a i).isSome = true then Run M_X2_sumUp 36 [x0, x1, x2, x3, x4, x5, x6] (.long ((gJ h a i).getD 0) :: st) h else none := R_laload d_X2_sumUp_35
theorem d_X2_sumUp_36 : decode (mB M_X2_sumUp) 36 = .ok (.iload 6, 2) := by decide +kernel
theorem r_X2_sumUp_36 {x0 x1 x2 x3 x4 x5 : Value} {a : Int32} {st : List Value} {h : AH} : Run M_X2_sumUp 36 [x0, x1, x2, x3, x4, x5, .int a] st h = Run M_X2_sumUp 38 [x0, x1, x2, x3, x4, x5, .int a] (.int a :: st) h := R_iload d_X2_sumUp_36 rfl
theorem d_X2_sumUp_38 : decode (mB M_X2_sumUp) 38 = .ok (.i2l, 1) := by decide +kernel
theorem r_X2_sumUp_38 {x0 x1 x2 x3 x4 x5 x6 : Value} {x : Int32} {st : List Value} {h : AH} : Run M_X2_sumUp 38 [x0, x1, x2, x3, x4, x5, x6] (.int x :: st) h = Run M_X2_sumUp 39 [x0, x1, x2, x3, x4, x5, x6] (.long x.toInt64 :: st) h := R_i2l d_X2_sumUp_38
theorem d_X2_sumUp_39 : decode (mB M_X2_sumUp) 39 = .ok (.lmul, 1) := by decide +kernel
theorem r_X2_sumUp_39 {x0 x1 x2 x3 x4 x5 x6 : Value} {x y : Int64} {st : List Value} {h : AH} : Run M_X2_sumUp 39 [x0, x1, x2, x3, x4, x5, x6] (.long y :: .long x :: st) h = Run M_X2_sumUp 40 [x0, x1, x2, x3, x4, x5, x6] (.long (x * y) :: st) h := R_lmul d_X2_sumUp_39
theorem d_X2_sumUp_40 : decode (mB M_X2_sumUp) 40 = .ok (.ladd, 1) := by decide +kernel
theorem r_X2_sumUp_40 {x0 x1 x2 x3 x4 x5 x6 : Value} {x y : Int64} {st : List Value} {h : AH} : Run M_X2_sumUp 40 [x0, x1, x2, x3, x4, x5, x6] (.long y :: .long x :: st) h = Run M_X2_sumUp 41 [x0, x1, x2, x3, x4, x5, x6] (.long (x + y) :: st) h := R_ladd d_X2_sumUp_40
theorem d_X2_sumUp_41 : decode (mB M_X2_sumUp) 41 = .ok (.lstore 4, 2) := by decide +kernel
theorem r_X2_sumUp_41 {x0 x1 x2 x3 x4 x5 x6 : Value} {a : Int64} {st : List Value} {h : AH} (hc : x3.category = 1) : Run M_X2_sumUp 41 [x0, x1, x2, x3, x4, x5, x6] (.long a :: st) h = Run M_X2_sumUp 43 [x0, x1, x2, x3, .long a, .null, x6] st h := R_lstore d_X2_sumUp_41 (Nat.lt_of_lt_of_le (by decide : 5 < 7) (Nat.le_refl 7)) (catP_of rfl hc)
theorem d_X2_sumUp_43 : decode (mB M_X2_sumUp) 43 = .ok (.aload_n 0, 1) := by decide +kernel
theorem r_X2_sumUp_43 {x1 x2 x3 x4 x5 x6 : Value} {a : Nat} {st : List Value} {h : AH} : Run M_X2_sumUp 43 [.ref a, x1, x2, x3, x4, x5, x6] st h = Run M_X2_sumUp 44 [.ref a, x1, x2, x3, x4, x5, x6] (.ref a :: st) h := R_aload_n d_X2_sumUp_43 rfl
theorem d_X2_sumUp_44 : decode (mB M_X2_sumUp) 44 = .ok (.getfield 20, 3) := by decide +kernel
theorem r_X2_sumUp_44 {x0 x1 x2 x3 x4 x5 x6 : Value} {a : Nat} {st : List Value} {h : AH} : Run M_X2_sumUp 44 [x0, x1, x2, x3, x4, x5, x6] (.ref a :: st) h = if (gF h a 2 2).isSome = true then Run M_X2_sumUp 47 [x0, x1, x2, x3, x4, x5, x6] ((gF h a 2 2).getD .null :: st) h else none := R_getfield d_X2_sumUp_44 rfl
theorem d_X2_sumUp_47 : decode (mB M_X2_sumUp) 47 = .ok (.iload 6, 2) := by decide +kernel
theorem r_X2_sumUp_47 {x0 x1 x2 x3 x4 x5 : Value} {a : Int32} {st : List Value} {h : AH} : Run M_X2_sumUp 47 [x0, x1, x2, x3, x4, x5, .int a] st h = Run M_X2_sumUp 49 [x0, x1, x2, x3, x4, x5, .int a] (.int a :: st) h := R_iload d_X2_sumUp_47 rfl
theorem d_X2_sumUp_49 : decode (mB M_X2_sumUp) 49 = .ok (.lload_n 2, 1) := by decide +kernel
theorem r_X2_sumUp_49 {x0 x1 x3 x4 x5 x6 : Value} {a : Int64} {st : List Value} {h : AH} : Run M_X2_sumUp 49 [x0, x1, .long a, x3, x4, x5, x6] st h = Run M_X2_sumUp 50 [x0, x1, .long a, x3, x4, x5, x6] (.long a :: st) h := R_lload_n d_X2_sumUp_49 rfl
theorem d_X2_sumUp_50 : decode (mB M_X2_sumUp) 50 = .ok (.lastore, 1) := by decide +kernel
theorem r_X2_sumUp_50 {x0 x1 x2 x3 x4 x5 x6 : Value} {a : Nat} {i : Int32} {x : Int64} {st : List Value} {h : AH} : Run M_X2_sumUp 50 [x0, x1, x2, x3, x4, x5, x6] (.long x :: .int i :: .ref a :: st) h = if (pJ h a i x).isSome = true then Run M_X2_sumUp 51 [x0, x1, x2, x3, x4, x5, x6] st ((pJ h a i x).getD h) else none := R_lastore d_X2_sumUp_50
theorem d_X2_sumUp_51 : decode (mB M_X2_sumUp) 51 = .ok (.aload_n 0, 1) := by decide +kernel
theorem r_X2_sumUp_51 {x1 x2 x3 x4 x5 x6 : Value} {a : Nat} {st : List Value} {h : AH} : Run M_X2_sumUp 51 [.ref a, x1, x2, x3, x4, x5, x6] st h = Run M_X2_sumUp 52 [.ref a, x1, x2, x3, x4, x5, x6] (.ref a :: st) h := R_aload_n d_X2_sumUp_51 rfl
theorem d_X2_sumUp_52 : decode (mB M_X2_sumUp) 52 = .ok (.getfield 23, 3) := by decide +kernel
theorem r_X2_sumUp_52 {x0 x1 x2 x3 x4 x5 x6 : Value} {a : Nat} {st : List Value} {h : AH} : Run M_X2_sumUp 52 [x0, x1, x2, x3, x4, x5, x6] (.ref a :: st) h = if (gF h a 2 3).isSome = true then Run M_X2_sumUp 55 [x0, x1, x2, x3, x4, x5, x6] ((gF h a 2 3).getD .null :: st) h else none := R_getfield d_X2_sumUp_52 rfl
theorem d_X2_sumUp_55 : decode (mB M_X2_sumUp) 55 = .ok (.iload 6, 2) := by decide +kernel
theorem r_X2_sumUp_55 {x0 x1 x2 x3 x4 x5 : Value} {a : Int32} {st : List Value} {h : AH} : Run M_X2_sumUp 55 [x0, x1, x2, x3, x4, x5, .int a] st h = Run M_X2_sumUp 57 [x0, x1, x2, x3, x4, x5, .int a] (.int a :: st) h := R_iload d_X2_sumUp_55 rfl
theorem d_X2_sumUp_57 : decode (mB M_X2_sumUp) 57 = .ok (.lload 4, 2) := by decide +kernel
theorem r_X2_sumUp_57 {x0 x1 x2 x3 x5 x6 : Value} {a : Int64} {st : List Value} {h : AH} : Run M_X2_sumUp 57 [x0, x1, x2, x3, .long a, x5, x6] st h = Run M_X2_sumUp 59 [x0, x1, x2, x3, .long a, x5, x6] (.long a :: st) h := R_lload d_X2_sumUp_57 rfl
theorem d_X2_sumUp_59 : decode (mB M_X2_sumUp) 59 = .ok (.lastore, 1) := by decide +kernel
theorem r_X2_sumUp_59 {x0 x1 x2 x3 x4 x5 x6 : Value} {a : Nat} {i : Int32} {x : Int64} {st : List Value} {h : AH} : Run M_X2_sumUp 59 [x0, x1, x2, x3, x4, x5, x6] (.long x :: .int i :: .ref a :: st) h = if (pJ h a i x).isSome = true then Run M_X2_sumUp 60 [x0, x1, x2, x3, x4, x5, x6] st ((pJ h a i x).getD h) else none := R_lastore d_X2_sumUp_59
theorem d_X2_sumUp_60 : decode (mB M_X2_sumUp) 60 = .ok (.iinc 6 1, 3) := by decide +kernel
theorem r_X2_sumUp_60 {x0 x1 x2 x3 x4 x5 : Value} {a : Int32} {st : List Value} {h : AH} (hc : x5.category = 1) : Run M_X2_sumUp 60 [x0, x1, x2, x3, x4, x5, .int a] st h = Run M_X2_sumUp 63 [x0, x1, x2, x3, x4, x5, .int (a + (nI 1))] st h := R_iinc d_X2_sumUp_60 (by decide) rfl (catP_of rfl hc)
theorem d_X2_sumUp_63 : decode (mB M_X2_sumUp) 63 = .ok (.goto (-55), 3) := by decide +kernel
theorem r_X2_sumUp_63 {x0 x1 x2 x3 x4 x5 x6 : Value} {st : List Value} {h : AH} : Run M_X2_sumUp 63 [x0, x1, x2, x3, x4, x5, x6] st h = Run M_X2_sumUp 8 [x0, x1, x2, x3, x4, x5, x6] st h := R_goto d_X2_sumUp_63 (by decide)
theorem d_X2_sumUp_66 : decode (mB M_X2_sumUp) 66 = .ok (.return_, 1) := by decide +kernel
theorem r_X2_sumUp_66 {x0 x1 x2 x3 x4 x5 x6 : Value} {h : AH} : Run M_X2_sumUp 66 [x0, x1, x2, x3, x4, x5, x6] [] h = some (h, none) := R_return d_X2_sumUp_66 rfl
theorem d_X2_all_0 : decode (mB M_X2_all) 0 = .ok (.aload_n 0, 1) := by decide +kernel
theorem r_X2_all_0 {a : Nat} {st : List Value} {h : AH} : Run M_X2_all 0 [.ref a] st h = Run M_X2_all 1 [.ref a] (.ref a :: st) h := R_aload_n d_X2_all_0 rfl
theorem d_X2_all_1 : decode (mB M_X2_all) 1 = .ok (.getfield 20, 3) := by decide +kernel
theorem r_X2_all_1 {x0 : Value} {a : Nat} {st : List Value} {h : AH} : Run M_X2_all 1 [x0] (.ref a :: st) h = if (gF h a 2 2).isSome = true then Run M_X2_all 4 [x0] ((gF h a 2 2).getD .null :: st) h else none := R_getfield d_X2_all_1 rfl
theorem d_X2_all_4 : decode (mB M_X2_all) 4 = .ok (.sipush 420, 3) := by decide +kernel
theorem r_X2_all_4 {x0 : Value} {st : List Value} {h : AH} : Run M_X2_all 4 [x0] st h = Run M_X2_all 7 [x0] (.int (nI 420) :: st) h := R_sipush d_X2_all_4 (by decide)
theorem d_X2_all_7 : decode (mB M_X2_all) 7 = .ok (.laload, 1) := by decide +kernel
theorem r_X2_all_7 {x0 : Value} {a : Nat} {i : Int32} {st : List Value} {h : AH} : Run M_X2_all 7 [x0] (.int i :: .ref a :: st) h = if (gJ h a i).isSome = true then Run M_X2_all 8 [x0] (.long ((gJ h a i).getD 0) :: st) h else none := R_laload d_X2_all_7
theorem d_X2_all_8 : decode (mB M_X2_all) 8 = .ok (.lreturn, 1) := by decide +kernel
theorem r_X2_all_8 {x0 : Value} {v : Int64} {h : AH} : Run M_X2_all 8 [x0] [.long v] h = some (h, some (.long v)) := R_lreturn d_X2_all_8 rfl
theorem d_X2_allAhead_0 : decode (mB M_X2_allAhead) 0 = .ok (.iload_n 1, 1) := by decide +kernel
theorem r_X2_allAhead_0 {x0 : Value} {a : Int32} {st : List Value} {h : AH} : Run M_X2_allAhead 0 [x0, .int a] st h = Run M_X2_allAhead 1 [x0, .int a] (.int a :: st) h := R_iload_n d_X2_allAhead_0 rfl
theorem d_X2_allAhead_1 : decode (mB M_X2_allAhead) 1 = .ok (.iconst 0, 1) := by decide +kernel
theorem r_X2_allAhead_1 {x0 x1 : Value} {st : List Value} {h : AH} : Run M_X2_allAhead 1 [x0, x1] st h = Run M_X2_allAhead 2 [x0, x1] (.int (nI 0) :: st) h := R_iconst d_X2_allAhead_1 (by decide)
theorem d_X2_allAhead_2 : decode (mB M_X2_allAhead) 2 = .ok (.bipush 7, 2) := by decide +kernel
theorem r_X2_allAhead_2 {x0 x1 : Value} {st : List Value} {h : AH} : Run M_X2_allAhead 2 [x0, x1] st h = Run M_X2_allAhead 4 [x0, x1] (.int (nI 7) :: st) h := R_bipush d_X2_allAhead_2 (by decide)
theorem d_X2_allAhead_4 : decode (mB M_X2_allAhead) 4 = .ok (.invokestatic 68, 3) := by decide +kernel
theorem r_X2_allAhead_4 {x0 x1 : Value} {p0 : Int32} {p1 : Int32} {p2 : Int32} {h : AH} : Run M_X2_allAhead 4 [x0, x1] (.int p2 :: .int p1 :: .int p0 :: []) h = if (Call M_X8_within h [.int p0, .int p1, .int p2]).isSome = true then Run M_X2_allAhead 7 [x0, x1] (rL (Call M_X8_within h [.int p0, .int p1, .int p2]) ++ []) (cH (Call M_X8_within h [.int p0, .int p1, .int p2])) else none := R_statN d_X2_allAhead_4 rfl rfl rfl rfl rfl (Nat.le_of_ble_eq_true rfl)
theorem d_X2_allAhead_7 : decode (mB M_X2_allAhead) 7 = .ok (.ifCond .eq 12, 3) := by decide +kernel
theorem r_X2_allAhead_7 {x0 x1 : Value} {x : Int32} {st : List Value} {h : AH} : Run M_X2_allAhead 7 [x0, x1] (.int x :: st) h = if x = nI 0 then Run M_X2_allAhead 19 [x0, x1] st h else Run M_X2_allAhead 10 [x0, x1] st h := R_if_eq d_X2_allAhead_7 (by decide)
theorem d_X2_allAhead_10 : decode (mB M_X2_allAhead) 10 = .ok (.aload_n 0, 1) := by decide +kernel
theorem r_X2_allAhead_10 {x1 : Value} {a : Nat} {st : List Value} {h : AH} : Run M_X2_allAhead 10 [.ref a, x1] st h = Run M_X2_allAhead 11 [.ref a, x1] (.ref a :: st) h := R_aload_n d_X2_allAhead_10 rfl
theorem d_X2_allAhead_11 : decode (mB M_X2_allAhead) 11 = .ok (.getfield 16, 3) := by decide +kernel
theorem r_X2_allAhead_11 {x0 x1 : Value} {a : Nat} {st : List Value} {h : AH} : Run M_X2_allAhead 11 [x0, x1] (.ref a :: st) h = if (gF h a 2 1).isSome = true then Run M_X2_allAhead 14 [x0, x1] ((gF h a 2 1).getD .null :: st) h else none := R_getfield d_X2_allAhead_11 rfl
theorem d_X2_allAhead_14 : decode (mB M_X2_allAhead) 14 = .ok (.iload_n 1, 1) := by decide +kernel
theorem r_X2_allAhead_14 {x0 : Value} {a : Int32} {st : List Value} {h : AH} : Run M_X2_allAhead 14 [x0, .int a] st h = Run M_X2_allAhead 15 [x0, .int a] (.int a :: st) h := R_iload_n d_X2_allAhead_14 rfl
theorem d_X2_allAhead_15 : decode (mB M_X2_allAhead) 15 = .ok (.laload, 1) := by decide +kernel
theorem r_X2_allAhead_15 {x0 x1 : Value} {a : Nat} {i : Int32} {st : List Value} {h : AH} : Run M_X2_allAhead 15 [x0, x1] (.int i :: .ref a :: st) h = if (gJ h a i).isSome = true then Run M_X2_allAhead 16 [x0, x1] (.long ((gJ h a i).getD 0) :: st) h else none := R_laload d_X2_allAhead_15
theorem d_X2_allAhead_16 : decode (mB M_X2_allAhead) 16 = .ok (.goto 4, 3) := by decide +kernel
theorem r_X2_allAhead_16 {x0 x1 : Value} {st : List Value} {h : AH} : Run M_X2_allAhead 16 [x0, x1] st h = Run M_X2_allAhead 20 [x0, x1] st h := R_goto d_X2_allAhead_16 (by decide)
theorem d_X2_allAhead_19 : decode (mB M_X2_allAhead) 19 = .ok (.lconst 1, 1) := by decide +kernel
theorem r_X2_allAhead_19 {x0 x1 : Value} {st : List Value} {h : AH} : Run M_X2_allAhead 19 [x0, x1] st h = Run M_X2_allAhead 20 [x0, x1] (.long (lN 1) :: st) h := R_lconst d_X2_allAhead_19 (by decide)
theorem d_X2_allAhead_20 : decode (mB M_X2_allAhead) 20 = .ok (.lreturn, 1) := by decide +kernel
theorem r_X2_allAhead_20 {x0 x1 : Value} {v : Int64} {h : AH} : Run M_X2_allAhead 20 [x0, x1] [.long v] h = some (h, some (.long v)) := R_lreturn d_X2_allAhead_20 rfl
theorem d_X2_allBehind_0 : decode (mB M_X2_allBehind) 0 = .ok (.aload_n 0, 1) := by decide +kernel
theorem r_X2_allBehind_0 {x1 x2 x3 : Value} {a : Nat} {st : List Value} {h : AH} : Run M_X2_allBehind 0 [.ref a, x1, x2, x3] st h = Run M_X2_allBehind 1 [.ref a, x1, x2, x3] (.ref a :: st) h := R_aload_n d_X2_allBehind_0 rfl
theorem d_X2_allBehind_1 : decode (mB M_X2_allBehind) 1 = .ok (.iload_n 1, 1) := by decide +kernel
theorem r_X2_allBehind_1 {x0 x2 x3 : Value} {a : Int32} {st : List Value} {h : AH} : Run M_X2_allBehind 1 [x0, .int a, x2, x3] st h = Run M_X2_allBehind 2 [x0, .int a, x2, x3] (.int a :: st) h := R_iload_n d_X2_allBehind_1 rfl
theorem d_X2_allBehind_2 : decode (mB M_X2_allBehind) 2 = .ok (.iconst 1, 1) := by decide +kernel
theorem r_X2_allBehind_2 {x0 x1 x2 x3 : Value} {st : List Value} {h : AH} : Run M_X2_allBehind 2 [x0, x1, x2, x3] st h = Run M_X2_allBehind 3 [x0, x1, x2, x3] (.int (nI 1) :: st) h := R_iconst d_X2_allBehind_2 (by decide)
theorem d_X2_allBehind_3 : decode (mB M_X2_allBehind) 3 = .ok (.iadd, 1) := by decide +kernel
theorem r_X2_allBehind_3 {x0 x1 x2 x3 : Value} {x y : Int32} {st : List Value} {h : AH} : Run M_X2_allBehind 3 [x0, x1, x2, x3] (.int y :: .int x :: st) h = Run M_X2_allBehind 4 [x0, x1, x2, x3] (.int (x + y) :: st) h := R_iadd d_X2_allBehind_3
theorem d_X2_allBehind_4 : decode (mB M_X2_allBehind) 4 = .ok (.invokevirtual 72, 3) := by decide +kernel
theorem r_X2_allBehind_4 {x0 x1 x2 x3 : Value} {p0 : Int32} {a : Nat} {h : AH} : Run M_X2_allBehind 4 [x0, x1, x2, x3] (.int p0 :: .ref a :: []) h = if refO h 2 (some (.ref a)) = true then (if (Call M_X2_allAhead h [.ref a, .int p0]).isSome = true then Run M_X2_allBehind 7 [x0, x1, x2, x3] (rL (Call M_X2_allAhead h [.ref a, .int p0]) ++ []) (cH (Call M_X2_allAhead h [.ref a, .int p0])) else none) else none := R_virt d_X2_allBehind_4 rfl rfl rfl rfl rfl (Nat.le_of_ble_eq_true rfl)
theorem d_X2_allBehind_7 : decode (mB M_X2_allBehind) 7 = .ok (.lstore_n 2, 1) := by decide +kernel
theorem r_X2_allBehind_7 {x0 x1 x2 x3 : Value} {a : Int64} {st : List Value} {h : AH} (hc : x1.category = 1) : Run M_X2_allBehind 7 [x0, x1, x2, x3] (.long a :: st) h = Run M_X2_allBehind 8 [x0, x1, .long a, .null] st h := R_lstore_n d_X2_allBehind_7 (Nat.lt_of_lt_of_le (by decide : 3 < 4) (Nat.le_refl 4)) (catP_of rfl hc)
theorem d_X2_allBehind_8 : decode (mB M_X2_allBehind) 8 = .ok (.lload_n 2, 1) := by decide +kernel
theorem r_X2_allBehind_8 {x0 x1 x3 : Value} {a : Int64} {st : List Value} {h : AH} : Run M_X2_allBehind 8 [x0, x1, .long a, x3] st h = Run M_X2_allBehind 9 [x0, x1, .long a, x3] (.long a :: st) h := R_lload_n d_X2_allBehind_8 rfl
theorem d_X2_allBehind_9 : decode (mB M_X2_allBehind) 9 = .ok (.lconst 0, 1) := by decide +kernel
theorem r_X2_allBehind_9 {x0 x1 x2 x3 : Value} {st : List Value} {h : AH} : Run M_X2_allBehind 9 [x0, x1, x2, x3] st h = Run M_X2_allBehind 10 [x0, x1, x2, x3] (.long (lN 0) :: st) h := R_lconst d_X2_allBehind_9 (by decide)
theorem d_X2_allBehind_10 : decode (mB M_X2_allBehind) 10 = .ok (.lcmp, 1) := by decide +kernel
theorem r_X2_allBehind_10 {x0 x1 x2 x3 : Value} {x y : Int64} {st : List Value} {h : AH} : Run M_X2_allBehind 10 [x0, x1, x2, x3] (.long y :: .long x :: st) h = Run M_X2_allBehind 11 [x0, x1, x2, x3] (.int (lg_cmp x y) :: st) h := R_lcmp d_X2_allBehind_10
theorem d_X2_allBehind_11 : decode (mB M_X2_allBehind) 11 = .ok (.ifCond .ne 7, 3) := by decide +kernel
theorem r_X2_allBehind_11 {x0 x1 x2 x3 : Value} {x : Int32} {st : List Value} {h : AH} : Run M_X2_allBehind 11 [x0, x1, x2, x3] (.int x :: st) h = if x = nI 0 then Run M_X2_allBehind 14 [x0, x1, x2, x3] st h else Run M_X2_allBehind 18 [x0, x1, x2, x3] st h := R_if_ne d_X2_allBehind_11 (by decide)
theorem d_X2_allBehind_14 : decode (mB M_X2_allBehind) 14 = .ok (.lconst 0, 1) := by decide +kernel
theorem r_X2_allBehind_14 {x0 x1 x2 x3 : Value} {st : List Value} {h : AH} : Run M_X2_allBehind 14 [x0, x1, x2, x3] st h = Run M_X2_allBehind 15 [x0, x1, x2, x3] (.long (lN 0) :: st) h := R_lconst d_X2_allBehind_14 (by decide)
theorem d_X2_allBehind_15 : decode (mB M_X2_allBehind) 15 = .ok (.goto 9, 3) := by decide +kernel
theorem r_X2_allBehind_15 {x0 x1 x2 x3 : Value} {st : List Value} {h : AH} : Run M_X2_allBehind 15 [x0, x1, x2, x3] st h = Run M_X2_allBehind 24 [x0, x1, x2, x3] st h := R_goto d_X2_allBehind_15 (by decide)
theorem d_X2_allBehind_18 : decode (mB M_X2_allBehind) 18 = .ok (.aload_n 0, 1) := by decide +kernel
theorem r_X2_allBehind_18 {x1 x2 x3 : Value} {a : Nat} {st : List Value} {h : AH} : Run M_X2_allBehind 18 [.ref a, x1, x2, x3] st h = Run M_X2_allBehind 19 [.ref a, x1, x2, x3] (.ref a :: st) h := R_aload_n d_X2_allBehind_18 rfl
theorem d_X2_allBehind_19 : decode (mB M_X2_allBehind) 19 = .ok (.invokevirtual 76, 3) := by decide +kernel
theorem r_X2_allBehind_19 {x0 x1 x2 x3 : Value} {a : Nat} {h : AH} : Run M_X2_allBehind 19 [x0, x1, x2, x3] (.ref a :: []) h = if refO h 2 (some (.ref a)) = true then (if (Call M_X2_all h [.ref a]).isSome = true then Run M_X2_allBehind 22 [x0, x1, x2, x3] (rL (Call M_X2_all h [.ref a]) ++ []) (cH (Call M_X2_all h [.ref a])) else none) else none := R_virt d_X2_allBehind_19 rfl rfl rfl rfl rfl (Nat.le_of_ble_eq_true rfl)
theorem d_X2_allBehind_22 : decode (mB M_X2_allBehind) 22 = .ok (.lload_n 2, 1) := by decide +kernel
theorem r_X2_allBehind_22 {x0 x1 x3 : Value} {a : Int64} {st : List Value} {h : AH} : Run M_X2_allBehind 22 [x0, x1, .long a, x3] st h = Run M_X2_allBehind 23 [x0, x1, .long a, x3] (.long a :: st) h := R_lload_n d_X2_allBehind_22 rfl
theorem d_X2_allBehind_23 : decode (mB M_X2_allBehind) 23 = .ok (.ldiv, 1) := by decide +kernel
theorem r_X2_allBehind_23 {x0 x1 x2 x3 : Value} {x y : Int64} {st : List Value} {h : AH} (hy : ¬ y = 0) : Run M_X2_allBehind 23 [x0, x1, x2, x3] (.long y :: .long x :: st) h = Run M_X2_allBehind 24 [x0, x1, x2, x3] (.long (x / y) :: st) h := R_ldiv d_X2_allBehind_23 hy
theorem d_X2_allBehind_24 : decode (mB M_X2_allBehind) 24 = .ok (.lreturn, 1) := by decide +kernel
theorem r_X2_allBehind_24 {x0 x1 x2 x3 : Value} {v : Int64} {h : AH} : Run M_X2_allBehind 24 [x0, x1, x2, x3] [.long v] h = some (h, some (.long v)) := R_lreturn d_X2_allBehind_24 rfl
theorem d_X2_beginning_0 : decode (mB M_X2_beginning) 0 = .ok (.iload_n 1, 1) := by decide +kernel
theorem r_X2_beginning_0 {x0 x2 : Value} {a : Int32} {st : List Value} {h : AH} : Run M_X2_beginning 0 [x0, .int a, x2] st h = Run M_X2_beginning 1 [x0, .int a, x2] (.int a :: st) h := R_iload_n d_X2_beginning_0 rfl
theorem d_X2_beginning_1 : decode (mB M_X2_beginning) 1 = .ok (.iconst 0, 1) := by decide +kernel
theorem r_X2_beginning_1 {x0 x1 x2 : Value} {st : List Value} {h : AH} : Run M_X2_beginning 1 [x0, x1, x2] st h = Run M_X2_beginning 2 [x0, x1, x2] (.int (nI 0) :: st) h := R_iconst d_X2_beginning_1 (by decide)
theorem d_X2_beginning_2 : decode (mB M_X2_beginning) 2 = .ok (.bipush 7, 2) := by decide +kernel
theorem r_X2_beginning_2 {x0 x1 x2 : Value} {st : List Value} {h : AH} : Run M_X2_beginning 2 [x0, x1, x2] st h = Run M_X2_beginning 4 [x0, x1, x2] (.int (nI 7) :: st) h := R_bipush d_X2_beginning_2 (by decide)
theorem d_X2_beginning_4 : decode (mB M_X2_beginning) 4 = .ok (.invokestatic 68, 3) := by decide +kernel
theorem r_X2_beginning_4 {x0 x1 x2 : Value} {p0 : Int32} {p1 : Int32} {p2 : Int32} {h : AH} : Run M_X2_beginning 4 [x0, x1, x2] (.int p2 :: .int p1 :: .int p0 :: []) h = if (Call M_X8_within h [.int p0, .int p1, .int p2]).isSome = true then Run M_X2_beginning 7 [x0, x1, x2] (rL (Call M_X8_within h [.int p0, .int p1, .int p2]) ++ []) (cH (Call M_X8_within h [.int p0, .int p1, .int p2])) else none := R_statN d_X2_beginning_4 rfl rfl rfl rfl rfl (Nat.le_of_ble_eq_true rfl)
theorem d_X2_beginning_7 : decode (mB M_X2_beginning) 7 = .ok (.ifCond .eq 21, 3) := by decide +kernel
theorem r_X2_beginning_7 {x0 x1 x2 : Value} {x : Int32} {st : List Value} {h : AH} : Run M_X2_beginning 7 [x0, x1, x2] (.int x :: st) h = if x = nI 0 then Run M_X2_beginning 28 [x0, x1, x2] st h else Run M_X2_beginning 10 [x0, x1, x2] st h := R_if_eq d_X2_beginning_7 (by decide)
theorem d_X2_beginning_10 : decode (mB M_X2_beginning) 10 = .ok (.iload_n 2, 1) := by decide +kernel
theorem r_X2_beginning_10 {x0 x1 : Value} {a : Int32} {st : List Value} {h : AH} : Run M_X2_beginning 10 [x0, x1, .int a] st h = Run M_X2_beginning 11 [x0, x1, .int a] (.int a :: st) h := R_iload_n d_X2_beginning_10 rfl
theorem d_X2_beginning_11 : decode (mB M_X2_beginning) 11 = .ok (.invokestatic 80, 3) := by decide +kernel
theorem r_X2_beginning_11 {x0 x1 x2 : Value} {p0 : Int32} {h : AH} : Run M_X2_beginning 11 [x0, x1, x2] (.int p0 :: []) h = if (Call M_X8_isTenth h [.int p0]).isSome = true then Run M_X2_beginning 14 [x0, x1, x2] (rL (Call M_X8_isTenth h [.int p0]) ++ []) (cH (Call M_X8_isTenth h [.int p0])) else none := R_statN d_X2_beginning_11 rfl rfl rfl rfl rfl (Nat.le_of_ble_eq_true rfl)
theorem d_X2_beginning_14 : decode (mB M_X2_beginning) 14 = .ok (.ifCond .eq 14, 3) := by decide +kernel
theorem r_X2_beginning_14 {x0 x1 x2 : Value} {x : Int32} {st : List Value} {h : AH} : Run M_X2_beginning 14 [x0, x1, x2] (.int x :: st) h = if x = nI 0 then Run M_X2_beginning 28 [x0, x1, x2] st h else Run M_X2_beginning 17 [x0, x1, x2] st h := R_if_eq d_X2_beginning_14 (by decide)
theorem d_X2_beginning_17 : decode (mB M_X2_beginning) 17 = .ok (.aload_n 0, 1) := by decide +kernel
theorem r_X2_beginning_17 {x1 x2 : Value} {a : Nat} {st : List Value} {h : AH} : Run M_X2_beginning 17 [.ref a, x1, x2] st h = Run M_X2_beginning 18 [.ref a, x1, x2] (.ref a :: st) h := R_aload_n d_X2_beginning_17 rfl
theorem d_X2_beginning_18 : decode (mB M_X2_beginning) 18 = .ok (.getfield 11, 3) := by decide +kernel
theorem r_X2_beginning_18 {x0 x1 x2 : Value} {a : Nat} {st : List Value} {h : AH} : Run M_X2_beginning 18 [x0, x1, x2] (.ref a :: st) h = if (gF h a 2 0).isSome = true then Run M_X2_beginning 21 [x0, x1, x2] ((gF h a 2 0).getD .null :: st) h else none := R_getfield d_X2_beginning_18 rfl
theorem d_X2_beginning_21 : decode (mB M_X2_beginning) 21 = .ok (.iload_n 1, 1) := by decide +kernel
theorem r_X2_beginning_21 {x0 x2 : Value} {a : Int32} {st : List Value} {h : AH} : Run M_X2_beginning 21 [x0, .int a, x2] st h = Run M_X2_beginning 22 [x0, .int a, x2] (.int a :: st) h := R_iload_n d_X2_beginning_21 rfl
theorem d_X2_beginning_22 : decode (mB M_X2_beginning) 22 = .ok (.aaload, 1) := by decide +kernel
theorem r_X2_beginning_22 {x0 x1 x2 : Value} {a : Nat} {i : Int32} {st : List Value} {h : AH} : Run M_X2_beginning 22 [x0, x1, x2] (.int i :: .ref a :: st) h = if (gR h a i).isSome = true then Run M_X2_beginning 23 [x0, x1, x2] (.ref ((gR h a i).getD 0) :: st) h else none := R_aaload d_X2_beginning_22
theorem d_X2_beginning_23 : decode (mB M_X2_beginning) 23 = .ok (.iload_n 2, 1) := by decide +kernel
theorem r_X2_beginning_23 {x0 x1 : Value} {a : Int32} {st : List Value} {h : AH} : Run M_X2_beginning 23 [x0, x1, .int a] st h = Run M_X2_beginning 24 [x0, x1, .int a] (.int a :: st) h := R_iload_n d_X2_beginning_23 rfl
theorem d_X2_beginning_24 : decode (mB M_X2_beginning) 24 = .ok (.laload, 1) := by decide +kernel
theorem r_X2_beginning_24 {x0 x1 x2 : Value} {a : Nat} {i : Int32} {st : List Value} {h : AH} : Run M_X2_beginning 24 [x0, x1, x2] (.int i :: .ref a :: st) h = if (gJ h a i).isSome = true then Run M_X2_beginning 25 [x0, x1, x2] (.long ((gJ h a i).getD 0) :: st) h else none := R_laload d_X2_beginning_24
theorem d_X2_beginning_25 : decode (mB M_X2_beginning) 25 = .ok (.goto 4, 3) := by decide +kernel
theorem r_X2_beginning_25 {x0 x1 x2 : Value} {st : List Value} {h : AH} : Run M_X2_beginning 25 [x0, x1, x2] st h = Run M_X2_beginning 29 [x0, x1, x2] st h := R_goto d_X2_beginning_25 (by decide)
theorem d_X2_beginning_28 : decode (mB M_X2_beginning) 28 = .ok (.lconst 0, 1) := by decide +kernel
theorem r_X2_beginning_28 {x0 x1 x2 : Value} {st : List Value} {h : AH} : Run M_X2_beginning 28 [x0, x1, x2] st h = Run M_X2_beginning 29 [x0, x1, x2] (.long (lN 0) :: st) h := R_lconst d_X2_beginning_28 (by decide)
theorem d_X2_beginning_29 : decode (mB M_X2_beginning) 29 = .ok (.lreturn, 1) := by decide +kernel
theorem r_X2_beginning_29 {x0 x1 x2 : Value} {v : Int64} {h : AH} : Run M_X2_beginning 29 [x0, x1, x2] [.long v] h = some (h, some (.long v)) := R_lreturn d_X2_beginning_29 rfl
theorem d_X2_endingAt_0 : decode (mB M_X2_endingAt) 0 = .ok (.aload_n 0, 1) := by decide +kernel
theorem r_X2_endingAt_0 {x1 : Value} {a : Nat} {st : List Value} {h : AH} : Run M_X2_endingAt 0 [.ref a, x1] st h = Run M_X2_endingAt 1 [.ref a, x1] (.ref a :: st) h := R_aload_n d_X2_endingAt_0 rfl
theorem d_X2_endingAt_1 : decode (mB M_X2_endingAt) 1 = .ok (.aload_n 0, 1) := by decide +kernel
theorem r_X2_endingAt_1 {x1 : Value} {a : Nat} {st : List Value} {h : AH} : Run M_X2_endingAt 1 [.ref a, x1] st h = Run M_X2_endingAt 2 [.ref a, x1] (.ref a :: st) h := R_aload_n d_X2_endingAt_1 rfl
theorem d_X2_endingAt_2 : decode (mB M_X2_endingAt) 2 = .ok (.getfield 38, 3) := by decide +kernel
theorem r_X2_endingAt_2 {x0 x1 : Value} {a : Nat} {st : List Value} {h : AH} : Run M_X2_endingAt 2 [x0, x1] (.ref a :: st) h = if (gF h a 2 4).isSome = true then Run M_X2_endingAt 5 [x0, x1] ((gF h a 2 4).getD .null :: st) h else none := R_getfield d_X2_endingAt_2 rfl
theorem d_X2_endingAt_5 : decode (mB M_X2_endingAt) 5 = .ok (.iload_n 1, 1) := by decide +kernel
theorem r_X2_endingAt_5 {x0 : Value} {a : Int32} {st : List Value} {h : AH} : Run M_X2_endingAt 5 [x0, .int a] st h = Run M_X2_endingAt 6 [x0, .int a] (.int a :: st) h := R_iload_n d_X2_endingAt_5 rfl
theorem d_X2_endingAt_6 : decode (mB M_X2_endingAt) 6 = .ok (.invokevirtual 84, 3) := by decide +kernel
theorem r_X2_endingAt_6 {x0 x1 : Value} {p0 : Int32} {p1 : Int32} {a : Nat} {h : AH} : Run M_X2_endingAt 6 [x0, x1] (.int p1 :: .int p0 :: .ref a :: []) h = if refO h 2 (some (.ref a)) = true then (if (Call M_X2_beginning h [.ref a, .int p0, .int p1]).isSome = true then Run M_X2_endingAt 9 [x0, x1] (rL (Call M_X2_beginning h [.ref a, .int p0, .int p1]) ++ []) (cH (Call M_X2_beginning h [.ref a, .int p0, .int p1])) else none) else none := R_virt d_X2_endingAt_6 rfl rfl rfl rfl rfl (Nat.le_of_ble_eq_true rfl)
theorem d_X2_endingAt_9 : decode (mB M_X2_endingAt) 9 = .ok (.lreturn, 1) := by decide +kernel
theorem r_X2_endingAt_9 {x0 x1 : Value} {v : Int64} {h : AH} : Run M_X2_endingAt 9 [x0, x1] [.long v] h = some (h, some (.long v)) := R_lreturn d_X2_endingAt_9 rfl
theorem d_X2_endedBy_0 : decode (mB M_X2_endedBy) 0 = .ok (.iload_n 1, 1) := by decide +kernel
theorem r_X2_endedBy_0 {x0 : Value} {a : Int32} {st : List Value} {h : AH} : Run M_X2_endedBy 0 [x0, .int a] st h = Run M_X2_endedBy 1 [x0, .int a] (.int a :: st) h := R_iload_n d_X2_endedBy_0 rfl
theorem d_X2_endedBy_1 : decode (mB M_X2_endedBy) 1 = .ok (.ifCond .ge 7, 3) := by decide +kernel
theorem r_X2_endedBy_1 {x0 x1 : Value} {x : Int32} {st : List Value} {h : AH} : Run M_X2_endedBy 1 [x0, x1] (.int x :: st) h = if nI 0 ≤ x then Run M_X2_endedBy 8 [x0, x1] st h else Run M_X2_endedBy 4 [x0, x1] st h := R_if_ge d_X2_endedBy_1 (by decide)
theorem d_X2_endedBy_4 : decode (mB M_X2_endedBy) 4 = .ok (.lconst 0, 1) := by decide +kernel
theorem r_X2_endedBy_4 {x0 x1 : Value} {st : List Value} {h : AH} : Run M_X2_endedBy 4 [x0, x1] st h = Run M_X2_endedBy 5 [x0, x1] (.long (lN 0) :: st) h := R_lconst d_X2_endedBy_4 (by decide)
theorem d_X2_endedBy_5 : decode (mB M_X2_endedBy) 5 = .ok (.goto 15, 3) := by decide +kernel
theorem r_X2_endedBy_5 {x0 x1 : Value} {st : List Value} {h : AH} : Run M_X2_endedBy 5 [x0, x1] st h = Run M_X2_endedBy 20 [x0, x1] st h := R_goto d_X2_endedBy_5 (by decide)
theorem d_X2_endedBy_8 : decode (mB M_X2_endedBy) 8 = .ok (.aload_n 0, 1) := by decide +kernel
theorem r_X2_endedBy_8 {x1 : Value} {a : Nat} {st : List Value} {h : AH} : Run M_X2_endedBy 8 [.ref a, x1] st h = Run M_X2_endedBy 9 [.ref a, x1] (.ref a :: st) h := R_aload_n d_X2_endedBy_8 rfl
theorem d_X2_endedBy_9 : decode (mB M_X2_endedBy) 9 = .ok (.getfield 20, 3) := by decide +kernel
theorem r_X2_endedBy_9 {x0 x1 : Value} {a : Nat} {st : List Value} {h : AH} : Run M_X2_endedBy 9 [x0, x1] (.ref a :: st) h = if (gF h a 2 2).isSome = true then Run M_X2_endedBy 12 [x0, x1] ((gF h a 2 2).getD .null :: st) h else none := R_getfield d_X2_endedBy_9 rfl
theorem d_X2_endedBy_12 : decode (mB M_X2_endedBy) 12 = .ok (.iload_n 1, 1) := by decide +kernel
theorem r_X2_endedBy_12 {x0 : Value} {a : Int32} {st : List Value} {h : AH} : Run M_X2_endedBy 12 [x0, .int a] st h = Run M_X2_endedBy 13 [x0, .int a] (.int a :: st) h := R_iload_n d_X2_endedBy_12 rfl
theorem d_X2_endedBy_13 : decode (mB M_X2_endedBy) 13 = .ok (.sipush 420, 3) := by decide +kernel
theorem r_X2_endedBy_13 {x0 x1 : Value} {st : List Value} {h : AH} : Run M_X2_endedBy 13 [x0, x1] st h = Run M_X2_endedBy 16 [x0, x1] (.int (nI 420) :: st) h := R_sipush d_X2_endedBy_13 (by decide)
theorem d_X2_endedBy_16 : decode (mB M_X2_endedBy) 16 = .ok (.invokestatic 32, 3) := by decide +kernel
theorem r_X2_endedBy_16 {x0 x1 : Value} {p0 : Int32} {p1 : Int32} {w0 : Value} {h : AH} : Run M_X2_endedBy 16 [x0, x1] (.int p1 :: .int p0 :: [w0]) h = if (Call M_J9_min_7cf53 h [.int p0, .int p1]).isSome = true then Run M_X2_endedBy 19 [x0, x1] (rL (Call M_J9_min_7cf53 h [.int p0, .int p1]) ++ [w0]) (cH (Call M_J9_min_7cf53 h [.int p0, .int p1])) else none := R_stat d_X2_endedBy_16 rfl rfl rfl rfl (Nat.le_of_ble_eq_true rfl)
theorem d_X2_endedBy_19 : decode (mB M_X2_endedBy) 19 = .ok (.laload, 1) := by decide +kernel
theorem r_X2_endedBy_19 {x0 x1 : Value} {a : Nat} {i : Int32} {st : List Value} {h : AH} : Run M_X2_endedBy 19 [x0, x1] (.int i :: .ref a :: st) h = if (gJ h a i).isSome = true then Run M_X2_endedBy 20 [x0, x1] (.long ((gJ h a i).getD 0) :: st) h else none := R_laload d_X2_endedBy_19
theorem d_X2_endedBy_20 : decode (mB M_X2_endedBy) 20 = .ok (.lreturn, 1) := by decide +kernel
theorem r_X2_endedBy_20 {x0 x1 : Value} {v : Int64} {h : AH} : Run M_X2_endedBy 20 [x0, x1] [.long v] h = some (h, some (.long v)) := R_lreturn d_X2_endedBy_20 rfl
theorem d_X2_tenthsBy_0 : decode (mB M_X2_tenthsBy) 0 = .ok (.iload_n 1, 1) := by decide +kernel
theorem r_X2_tenthsBy_0 {x0 : Value} {a : Int32} {st : List Value} {h : AH} : Run M_X2_tenthsBy 0 [x0, .int a] st h = Run M_X2_tenthsBy 1 [x0, .int a] (.int a :: st) h := R_iload_n d_X2_tenthsBy_0 rfl
theorem d_X2_tenthsBy_1 : decode (mB M_X2_tenthsBy) 1 = .ok (.ifCond .ge 7, 3) := by decide +kernel
theorem r_X2_tenthsBy_1 {x0 x1 : Value} {x : Int32} {st : List Value} {h : AH} : Run M_X2_tenthsBy 1 [x0, x1] (.int x :: st) h = if nI 0 ≤ x then Run M_X2_tenthsBy 8 [x0, x1] st h else Run M_X2_tenthsBy 4 [x0, x1] st h := R_if_ge d_X2_tenthsBy_1 (by decide)
theorem d_X2_tenthsBy_4 : decode (mB M_X2_tenthsBy) 4 = .ok (.lconst 0, 1) := by decide +kernel
theorem r_X2_tenthsBy_4 {x0 x1 : Value} {st : List Value} {h : AH} : Run M_X2_tenthsBy 4 [x0, x1] st h = Run M_X2_tenthsBy 5 [x0, x1] (.long (lN 0) :: st) h := R_lconst d_X2_tenthsBy_4 (by decide)
theorem d_X2_tenthsBy_5 : decode (mB M_X2_tenthsBy) 5 = .ok (.goto 15, 3) := by decide +kernel
theorem r_X2_tenthsBy_5 {x0 x1 : Value} {st : List Value} {h : AH} : Run M_X2_tenthsBy 5 [x0, x1] st h = Run M_X2_tenthsBy 20 [x0, x1] st h := R_goto d_X2_tenthsBy_5 (by decide)
theorem d_X2_tenthsBy_8 : decode (mB M_X2_tenthsBy) 8 = .ok (.aload_n 0, 1) := by decide +kernel
theorem r_X2_tenthsBy_8 {x1 : Value} {a : Nat} {st : List Value} {h : AH} : Run M_X2_tenthsBy 8 [.ref a, x1] st h = Run M_X2_tenthsBy 9 [.ref a, x1] (.ref a :: st) h := R_aload_n d_X2_tenthsBy_8 rfl
theorem d_X2_tenthsBy_9 : decode (mB M_X2_tenthsBy) 9 = .ok (.getfield 23, 3) := by decide +kernel
theorem r_X2_tenthsBy_9 {x0 x1 : Value} {a : Nat} {st : List Value} {h : AH} : Run M_X2_tenthsBy 9 [x0, x1] (.ref a :: st) h = if (gF h a 2 3).isSome = true then Run M_X2_tenthsBy 12 [x0, x1] ((gF h a 2 3).getD .null :: st) h else none := R_getfield d_X2_tenthsBy_9 rfl
theorem d_X2_tenthsBy_12 : decode (mB M_X2_tenthsBy) 12 = .ok (.iload_n 1, 1) := by decide +kernel
theorem r_X2_tenthsBy_12 {x0 : Value} {a : Int32} {st : List Value} {h : AH} : Run M_X2_tenthsBy 12 [x0, .int a] st h = Run M_X2_tenthsBy 13 [x0, .int a] (.int a :: st) h := R_iload_n d_X2_tenthsBy_12 rfl
theorem d_X2_tenthsBy_13 : decode (mB M_X2_tenthsBy) 13 = .ok (.sipush 420, 3) := by decide +kernel
theorem r_X2_tenthsBy_13 {x0 x1 : Value} {st : List Value} {h : AH} : Run M_X2_tenthsBy 13 [x0, x1] st h = Run M_X2_tenthsBy 16 [x0, x1] (.int (nI 420) :: st) h := R_sipush d_X2_tenthsBy_13 (by decide)
theorem d_X2_tenthsBy_16 : decode (mB M_X2_tenthsBy) 16 = .ok (.invokestatic 32, 3) := by decide +kernel
theorem r_X2_tenthsBy_16 {x0 x1 : Value} {p0 : Int32} {p1 : Int32} {w0 : Value} {h : AH} : Run M_X2_tenthsBy 16 [x0, x1] (.int p1 :: .int p0 :: [w0]) h = if (Call M_J9_min_7cf53 h [.int p0, .int p1]).isSome = true then Run M_X2_tenthsBy 19 [x0, x1] (rL (Call M_J9_min_7cf53 h [.int p0, .int p1]) ++ [w0]) (cH (Call M_J9_min_7cf53 h [.int p0, .int p1])) else none := R_stat d_X2_tenthsBy_16 rfl rfl rfl rfl (Nat.le_of_ble_eq_true rfl)
theorem d_X2_tenthsBy_19 : decode (mB M_X2_tenthsBy) 19 = .ok (.laload, 1) := by decide +kernel
theorem r_X2_tenthsBy_19 {x0 x1 : Value} {a : Nat} {i : Int32} {st : List Value} {h : AH} : Run M_X2_tenthsBy 19 [x0, x1] (.int i :: .ref a :: st) h = if (gJ h a i).isSome = true then Run M_X2_tenthsBy 20 [x0, x1] (.long ((gJ h a i).getD 0) :: st) h else none := R_laload d_X2_tenthsBy_19
theorem d_X2_tenthsBy_20 : decode (mB M_X2_tenthsBy) 20 = .ok (.lreturn, 1) := by decide +kernel
theorem r_X2_tenthsBy_20 {x0 x1 : Value} {v : Int64} {h : AH} : Run M_X2_tenthsBy 20 [x0, x1] [.long v] h = some (h, some (.long v)) := R_lreturn d_X2_tenthsBy_20 rfl
theorem d_X2_firstTenthWith_0 : decode (mB M_X2_firstTenthWith) 0 = .ok (.iconst 0, 1) := by decide +kernel
theorem r_X2_firstTenthWith_0 {x0 x1 x2 x3 : Value} {st : List Value} {h : AH} : Run M_X2_firstTenthWith 0 [x0, x1, x2, x3] st h = Run M_X2_firstTenthWith 1 [x0, x1, x2, x3] (.int (nI 0) :: st) h := R_iconst d_X2_firstTenthWith_0 (by decide)
theorem d_X2_firstTenthWith_1 : decode (mB M_X2_firstTenthWith) 1 = .ok (.istore_n 3, 1) := by decide +kernel
theorem r_X2_firstTenthWith_1 {x0 x1 x2 x3 : Value} {a : Int32} {st : List Value} {h : AH} (hc : x2.category = 1) : Run M_X2_firstTenthWith 1 [x0, x1, x2, x3] (.int a :: st) h = Run M_X2_firstTenthWith 2 [x0, x1, x2, .int a] st h := R_istore_n d_X2_firstTenthWith_1 (Nat.lt_of_lt_of_le (by decide : 3 < 4) (Nat.le_refl 4)) (catP_of rfl hc)
theorem d_X2_firstTenthWith_2 : decode (mB M_X2_firstTenthWith) 2 = .ok (.iload_n 3, 1) := by decide +kernel
theorem r_X2_firstTenthWith_2 {x0 x1 x2 : Value} {a : Int32} {st : List Value} {h : AH} : Run M_X2_firstTenthWith 2 [x0, x1, x2, .int a] st h = Run M_X2_firstTenthWith 3 [x0, x1, x2, .int a] (.int a :: st) h := R_iload_n d_X2_firstTenthWith_2 rfl
theorem d_X2_firstTenthWith_3 : decode (mB M_X2_firstTenthWith) 3 = .ok (.sipush 420, 3) := by decide +kernel
theorem r_X2_firstTenthWith_3 {x0 x1 x2 x3 : Value} {st : List Value} {h : AH} : Run M_X2_firstTenthWith 3 [x0, x1, x2, x3] st h = Run M_X2_firstTenthWith 6 [x0, x1, x2, x3] (.int (nI 420) :: st) h := R_sipush d_X2_firstTenthWith_3 (by decide)
theorem d_X2_firstTenthWith_6 : decode (mB M_X2_firstTenthWith) 6 = .ok (.if_icmp .ge 22, 3) := by decide +kernel
theorem r_X2_firstTenthWith_6 {x0 x1 x2 x3 : Value} {x y : Int32} {st : List Value} {h : AH} : Run M_X2_firstTenthWith 6 [x0, x1, x2, x3] (.int y :: .int x :: st) h = if y ≤ x then Run M_X2_firstTenthWith 28 [x0, x1, x2, x3] st h else Run M_X2_firstTenthWith 9 [x0, x1, x2, x3] st h := R_icmp_ge d_X2_firstTenthWith_6 (by decide)
theorem d_X2_firstTenthWith_9 : decode (mB M_X2_firstTenthWith) 9 = .ok (.aload_n 0, 1) := by decide +kernel
theorem r_X2_firstTenthWith_9 {x1 x2 x3 : Value} {a : Nat} {st : List Value} {h : AH} : Run M_X2_firstTenthWith 9 [.ref a, x1, x2, x3] st h = Run M_X2_firstTenthWith 10 [.ref a, x1, x2, x3] (.ref a :: st) h := R_aload_n d_X2_firstTenthWith_9 rfl
theorem d_X2_firstTenthWith_10 : decode (mB M_X2_firstTenthWith) 10 = .ok (.getfield 20, 3) := by decide +kernel
theorem r_X2_firstTenthWith_10 {x0 x1 x2 x3 : Value} {a : Nat} {st : List Value} {h : AH} : Run M_X2_firstTenthWith 10 [x0, x1, x2, x3] (.ref a :: st) h = if (gF h a 2 2).isSome = true then Run M_X2_firstTenthWith 13 [x0, x1, x2, x3] ((gF h a 2 2).getD .null :: st) h else none := R_getfield d_X2_firstTenthWith_10 rfl
theorem d_X2_firstTenthWith_13 : decode (mB M_X2_firstTenthWith) 13 = .ok (.iload_n 3, 1) := by decide +kernel
theorem r_X2_firstTenthWith_13 {x0 x1 x2 : Value} {a : Int32} {st : List Value} {h : AH} : Run M_X2_firstTenthWith 13 [x0, x1, x2, .int a] st h = Run M_X2_firstTenthWith 14 [x0, x1, x2, .int a] (.int a :: st) h := R_iload_n d_X2_firstTenthWith_13 rfl
theorem d_X2_firstTenthWith_14 : decode (mB M_X2_firstTenthWith) 14 = .ok (.laload, 1) := by decide +kernel
theorem r_X2_firstTenthWith_14 {x0 x1 x2 x3 : Value} {a : Nat} {i : Int32} {st : List Value} {h : AH} : Run M_X2_firstTenthWith 14 [x0, x1, x2, x3] (.int i :: .ref a :: st) h = if (gJ h a i).isSome = true then Run M_X2_firstTenthWith 15 [x0, x1, x2, x3] (.long ((gJ h a i).getD 0) :: st) h else none := R_laload d_X2_firstTenthWith_14
theorem d_X2_firstTenthWith_15 : decode (mB M_X2_firstTenthWith) 15 = .ok (.lload_n 1, 1) := by decide +kernel
theorem r_X2_firstTenthWith_15 {x0 x2 x3 : Value} {a : Int64} {st : List Value} {h : AH} : Run M_X2_firstTenthWith 15 [x0, .long a, x2, x3] st h = Run M_X2_firstTenthWith 16 [x0, .long a, x2, x3] (.long a :: st) h := R_lload_n d_X2_firstTenthWith_15 rfl
theorem d_X2_firstTenthWith_16 : decode (mB M_X2_firstTenthWith) 16 = .ok (.lcmp, 1) := by decide +kernel
theorem r_X2_firstTenthWith_16 {x0 x1 x2 x3 : Value} {x y : Int64} {st : List Value} {h : AH} : Run M_X2_firstTenthWith 16 [x0, x1, x2, x3] (.long y :: .long x :: st) h = Run M_X2_firstTenthWith 17 [x0, x1, x2, x3] (.int (lg_cmp x y) :: st) h := R_lcmp d_X2_firstTenthWith_16
theorem d_X2_firstTenthWith_17 : decode (mB M_X2_firstTenthWith) 17 = .ok (.ifCond .lt 5, 3) := by decide +kernel
theorem r_X2_firstTenthWith_17 {x0 x1 x2 x3 : Value} {x : Int32} {st : List Value} {h : AH} : Run M_X2_firstTenthWith 17 [x0, x1, x2, x3] (.int x :: st) h = if x < nI 0 then Run M_X2_firstTenthWith 22 [x0, x1, x2, x3] st h else Run M_X2_firstTenthWith 20 [x0, x1, x2, x3] st h := R_if_lt d_X2_firstTenthWith_17 (by decide)
theorem d_X2_firstTenthWith_20 : decode (mB M_X2_firstTenthWith) 20 = .ok (.iload_n 3, 1) := by decide +kernel
theorem r_X2_firstTenthWith_20 {x0 x1 x2 : Value} {a : Int32} {st : List Value} {h : AH} : Run M_X2_firstTenthWith 20 [x0, x1, x2, .int a] st h = Run M_X2_firstTenthWith 21 [x0, x1, x2, .int a] (.int a :: st) h := R_iload_n d_X2_firstTenthWith_20 rfl
theorem d_X2_firstTenthWith_21 : decode (mB M_X2_firstTenthWith) 21 = .ok (.ireturn, 1) := by decide +kernel
theorem r_X2_firstTenthWith_21 {x0 x1 x2 x3 : Value} {v : Int32} {h : AH} : Run M_X2_firstTenthWith 21 [x0, x1, x2, x3] [.int v] h = some (h, some (.int v)) := R_ireturn d_X2_firstTenthWith_21 rfl rfl
theorem d_X2_firstTenthWith_22 : decode (mB M_X2_firstTenthWith) 22 = .ok (.iinc 3 1, 3) := by decide +kernel
theorem r_X2_firstTenthWith_22 {x0 x1 x2 : Value} {a : Int32} {st : List Value} {h : AH} (hc : x2.category = 1) : Run M_X2_firstTenthWith 22 [x0, x1, x2, .int a] st h = Run M_X2_firstTenthWith 25 [x0, x1, x2, .int (a + (nI 1))] st h := R_iinc d_X2_firstTenthWith_22 (by decide) rfl (catP_of rfl hc)
theorem d_X2_firstTenthWith_25 : decode (mB M_X2_firstTenthWith) 25 = .ok (.goto (-23), 3) := by decide +kernel
theorem r_X2_firstTenthWith_25 {x0 x1 x2 x3 : Value} {st : List Value} {h : AH} : Run M_X2_firstTenthWith 25 [x0, x1, x2, x3] st h = Run M_X2_firstTenthWith 2 [x0, x1, x2, x3] st h := R_goto d_X2_firstTenthWith_25 (by decide)
theorem d_X2_firstTenthWith_28 : decode (mB M_X2_firstTenthWith) 28 = .ok (.sipush 420, 3) := by decide +kernel
theorem r_X2_firstTenthWith_28 {x0 x1 x2 x3 : Value} {st : List Value} {h : AH} : Run M_X2_firstTenthWith 28 [x0, x1, x2, x3] st h = Run M_X2_firstTenthWith 31 [x0, x1, x2, x3] (.int (nI 420) :: st) h := R_sipush d_X2_firstTenthWith_28 (by decide)
theorem d_X2_firstTenthWith_31 : decode (mB M_X2_firstTenthWith) 31 = .ok (.ireturn, 1) := by decide +kernel
theorem r_X2_firstTenthWith_31 {x0 x1 x2 x3 : Value} {v : Int32} {h : AH} : Run M_X2_firstTenthWith 31 [x0, x1, x2, x3] [.int v] h = some (h, some (.int v)) := R_ireturn d_X2_firstTenthWith_31 rfl rfl
theorem d_X2_cost_0 : decode (mB M_X2_cost) 0 = .ok (.aload_n 0, 1) := by decide +kernel
theorem r_X2_cost_0 {x1 x2 x3 x4 x5 x6 x7 x8 x9 : Value} {a : Nat} {st : List Value} {h : AH} : Run M_X2_cost 0 [.ref a, x1, x2, x3, x4, x5, x6, x7, x8, x9] st h = Run M_X2_cost 1 [.ref a, x1, x2, x3, x4, x5, x6, x7, x8, x9] (.ref a :: st) h := R_aload_n d_X2_cost_0 rfl
theorem d_X2_cost_1 : decode (mB M_X2_cost) 1 = .ok (.sipush 420, 3) := by decide +kernel
theorem r_X2_cost_1 {x0 x1 x2 x3 x4 x5 x6 x7 x8 x9 : Value} {st : List Value} {h : AH} : Run M_X2_cost 1 [x0, x1, x2, x3, x4, x5, x6, x7, x8, x9] st h = Run M_X2_cost 4 [x0, x1, x2, x3, x4, x5, x6, x7, x8, x9] (.int (nI 420) :: st) h := R_sipush d_X2_cost_1 (by decide)
theorem d_X2_cost_4 : decode (mB M_X2_cost) 4 = .ok (.invokevirtual 88, 3) := by decide +kernel
theorem r_X2_cost_4 {x0 x1 x2 x3 x4 x5 x6 x7 x8 x9 : Value} {p0 : Int32} {a : Nat} {h : AH} : Run M_X2_cost 4 [x0, x1, x2, x3, x4, x5, x6, x7, x8, x9] (.int p0 :: .ref a :: []) h = if refO h 2 (some (.ref a)) = true then (if (Call M_X2_tenthsBy h [.ref a, .int p0]).isSome = true then Run M_X2_cost 7 [x0, x1, x2, x3, x4, x5, x6, x7, x8, x9] (rL (Call M_X2_tenthsBy h [.ref a, .int p0]) ++ []) (cH (Call M_X2_tenthsBy h [.ref a, .int p0])) else none) else none := R_virt d_X2_cost_4 rfl rfl rfl rfl rfl (Nat.le_of_ble_eq_true rfl)
theorem d_X2_cost_7 : decode (mB M_X2_cost) 7 = .ok (.aload_n 0, 1) := by decide +kernel
theorem r_X2_cost_7 {x1 x2 x3 x4 x5 x6 x7 x8 x9 : Value} {a : Nat} {st : List Value} {h : AH} : Run M_X2_cost 7 [.ref a, x1, x2, x3, x4, x5, x6, x7, x8, x9] st h = Run M_X2_cost 8 [.ref a, x1, x2, x3, x4, x5, x6, x7, x8, x9] (.ref a :: st) h := R_aload_n d_X2_cost_7 rfl
theorem d_X2_cost_8 : decode (mB M_X2_cost) 8 = .ok (.iload_n 3, 1) := by decide +kernel
theorem r_X2_cost_8 {x0 x1 x2 x4 x5 x6 x7 x8 x9 : Value} {a : Int32} {st : List Value} {h : AH} : Run M_X2_cost 8 [x0, x1, x2, .int a, x4, x5, x6, x7, x8, x9] st h = Run M_X2_cost 9 [x0, x1, x2, .int a, x4, x5, x6, x7, x8, x9] (.int a :: st) h := R_iload_n d_X2_cost_8 rfl
theorem d_X2_cost_9 : decode (mB M_X2_cost) 9 = .ok (.invokevirtual 88, 3) := by decide +kernel
theorem r_X2_cost_9 {x0 x1 x2 x3 x4 x5 x6 x7 x8 x9 : Value} {p0 : Int32} {a : Nat} {w0 : Value} {h : AH} : Run M_X2_cost 9 [x0, x1, x2, x3, x4, x5, x6, x7, x8, x9] (.int p0 :: .ref a :: [w0]) h = if refO h 2 (some (.ref a)) = true then (if (Call M_X2_tenthsBy h [.ref a, .int p0]).isSome = true then Run M_X2_cost 12 [x0, x1, x2, x3, x4, x5, x6, x7, x8, x9] (rL (Call M_X2_tenthsBy h [.ref a, .int p0]) ++ [w0]) (cH (Call M_X2_tenthsBy h [.ref a, .int p0])) else none) else none := R_virt d_X2_cost_9 rfl rfl rfl rfl rfl (Nat.le_of_ble_eq_true rfl)
theorem d_X2_cost_12 : decode (mB M_X2_cost) 12 = .ok (.lsub, 1) := by decide +kernel
theorem r_X2_cost_12 {x0 x1 x2 x3 x4 x5 x6 x7 x8 x9 : Value} {x y : Int64} {st : List Value} {h : AH} : Run M_X2_cost 12 [x0, x1, x2, x3, x4, x5, x6, x7, x8, x9] (.long y :: .long x :: st) h = Run M_X2_cost 13 [x0, x1, x2, x3, x4, x5, x6, x7, x8, x9] (.long (x - y) :: st) h := R_lsub d_X2_cost_12
theorem d_X2_cost_13 : decode (mB M_X2_cost) 13 = .ok (.iload_n 3, 1) := by decide +kernel
theorem r_X2_cost_13 {x0 x1 x2 x4 x5 x6 x7 x8 x9 : Value} {a : Int32} {st : List Value} {h : AH} : Run M_X2_cost 13 [x0, x1, x2, .int a, x4, x5, x6, x7, x8, x9] st h = Run M_X2_cost 14 [x0, x1, x2, .int a, x4, x5, x6, x7, x8, x9] (.int a :: st) h := R_iload_n d_X2_cost_13 rfl
theorem d_X2_cost_14 : decode (mB M_X2_cost) 14 = .ok (.i2l, 1) := by decide +kernel
theorem r_X2_cost_14 {x0 x1 x2 x3 x4 x5 x6 x7 x8 x9 : Value} {x : Int32} {st : List Value} {h : AH} : Run M_X2_cost 14 [x0, x1, x2, x3, x4, x5, x6, x7, x8, x9] (.int x :: st) h = Run M_X2_cost 15 [x0, x1, x2, x3, x4, x5, x6, x7, x8, x9] (.long x.toInt64 :: st) h := R_i2l d_X2_cost_14
theorem d_X2_cost_15 : decode (mB M_X2_cost) 15 = .ok (.aload_n 0, 1) := by decide +kernel
theorem r_X2_cost_15 {x1 x2 x3 x4 x5 x6 x7 x8 x9 : Value} {a : Nat} {st : List Value} {h : AH} : Run M_X2_cost 15 [.ref a, x1, x2, x3, x4, x5, x6, x7, x8, x9] st h = Run M_X2_cost 16 [.ref a, x1, x2, x3, x4, x5, x6, x7, x8, x9] (.ref a :: st) h := R_aload_n d_X2_cost_15 rfl
theorem d_X2_cost_16 : decode (mB M_X2_cost) 16 = .ok (.invokevirtual 76, 3) := by decide +kernel
theorem r_X2_cost_16 {x0 x1 x2 x3 x4 x5 x6 x7 x8 x9 : Value} {a : Nat} {w0 w1 : Value} {h : AH} : Run M_X2_cost 16 [x0, x1, x2, x3, x4, x5, x6, x7, x8, x9] (.ref a :: [w0, w1]) h = if refO h 2 (some (.ref a)) = true then (if (Call M_X2_all h [.ref a]).isSome = true then Run M_X2_cost 19 [x0, x1, x2, x3, x4, x5, x6, x7, x8, x9] (rL (Call M_X2_all h [.ref a]) ++ [w0, w1]) (cH (Call M_X2_all h [.ref a])) else none) else none := R_virt d_X2_cost_16 rfl rfl rfl rfl rfl (Nat.le_of_ble_eq_true rfl)
theorem d_X2_cost_19 : decode (mB M_X2_cost) 19 = .ok (.aload_n 0, 1) := by decide +kernel
theorem r_X2_cost_19 {x1 x2 x3 x4 x5 x6 x7 x8 x9 : Value} {a : Nat} {st : List Value} {h : AH} : Run M_X2_cost 19 [.ref a, x1, x2, x3, x4, x5, x6, x7, x8, x9] st h = Run M_X2_cost 20 [.ref a, x1, x2, x3, x4, x5, x6, x7, x8, x9] (.ref a :: st) h := R_aload_n d_X2_cost_19 rfl
theorem d_X2_cost_20 : decode (mB M_X2_cost) 20 = .ok (.iload_n 3, 1) := by decide +kernel
theorem r_X2_cost_20 {x0 x1 x2 x4 x5 x6 x7 x8 x9 : Value} {a : Int32} {st : List Value} {h : AH} : Run M_X2_cost 20 [x0, x1, x2, .int a, x4, x5, x6, x7, x8, x9] st h = Run M_X2_cost 21 [x0, x1, x2, .int a, x4, x5, x6, x7, x8, x9] (.int a :: st) h := R_iload_n d_X2_cost_20 rfl
theorem d_X2_cost_21 : decode (mB M_X2_cost) 21 = .ok (.invokevirtual 91, 3) := by decide +kernel
theorem r_X2_cost_21 {x0 x1 x2 x3 x4 x5 x6 x7 x8 x9 : Value} {p0 : Int32} {a : Nat} {w0 w1 w2 : Value} {h : AH} : Run M_X2_cost 21 [x0, x1, x2, x3, x4, x5, x6, x7, x8, x9] (.int p0 :: .ref a :: [w0, w1, w2]) h = if refO h 2 (some (.ref a)) = true then (if (Call M_X2_endedBy h [.ref a, .int p0]).isSome = true then Run M_X2_cost 24 [x0, x1, x2, x3, x4, x5, x6, x7, x8, x9] (rL (Call M_X2_endedBy h [.ref a, .int p0]) ++ [w0, w1, w2]) (cH (Call M_X2_endedBy h [.ref a, .int p0])) else none) else none := R_virt d_X2_cost_21 rfl rfl rfl rfl rfl (Nat.le_of_ble_eq_true rfl)
theorem d_X2_cost_24 : decode (mB M_X2_cost) 24 = .ok (.lsub, 1) := by decide +kernel
theorem r_X2_cost_24 {x0 x1 x2 x3 x4 x5 x6 x7 x8 x9 : Value} {x y : Int64} {st : List Value} {h : AH} : Run M_X2_cost 24 [x0, x1, x2, x3, x4, x5, x6, x7, x8, x9] (.long y :: .long x :: st) h = Run M_X2_cost 25 [x0, x1, x2, x3, x4, x5, x6, x7, x8, x9] (.long (x - y) :: st) h := R_lsub d_X2_cost_24
theorem d_X2_cost_25 : decode (mB M_X2_cost) 25 = .ok (.lmul, 1) := by decide +kernel
theorem r_X2_cost_25 {x0 x1 x2 x3 x4 x5 x6 x7 x8 x9 : Value} {x y : Int64} {st : List Value} {h : AH} : Run M_X2_cost 25 [x0, x1, x2, x3, x4, x5, x6, x7, x8, x9] (.long y :: .long x :: st) h = Run M_X2_cost 26 [x0, x1, x2, x3, x4, x5, x6, x7, x8, x9] (.long (x * y) :: st) h := R_lmul d_X2_cost_25
theorem d_X2_cost_26 : decode (mB M_X2_cost) 26 = .ok (.lsub, 1) := by decide +kernel
theorem r_X2_cost_26 {x0 x1 x2 x3 x4 x5 x6 x7 x8 x9 : Value} {x y : Int64} {st : List Value} {h : AH} : Run M_X2_cost 26 [x0, x1, x2, x3, x4, x5, x6, x7, x8, x9] (.long y :: .long x :: st) h = Run M_X2_cost 27 [x0, x1, x2, x3, x4, x5, x6, x7, x8, x9] (.long (x - y) :: st) h := R_lsub d_X2_cost_26
theorem d_X2_cost_27 : decode (mB M_X2_cost) 27 = .ok (.lstore 5, 2) := by decide +kernel
theorem r_X2_cost_27 {x0 x1 x2 x3 x4 x5 x6 x7 x8 x9 : Value} {a : Int64} {st : List Value} {h : AH} (hc : x4.category = 1) : Run M_X2_cost 27 [x0, x1, x2, x3, x4, x5, x6, x7, x8, x9] (.long a :: st) h = Run M_X2_cost 29 [x0, x1, x2, x3, x4, .long a, .null, x7, x8, x9] st h := R_lstore d_X2_cost_27 (Nat.lt_of_lt_of_le (by decide : 6 < 10) (Nat.le_refl 10)) (catP_of rfl hc)
theorem d_X2_cost_29 : decode (mB M_X2_cost) 29 = .ok (.iload_n 3, 1) := by decide +kernel
theorem r_X2_cost_29 {x0 x1 x2 x4 x5 x6 x7 x8 x9 : Value} {a : Int32} {st : List Value} {h : AH} : Run M_X2_cost 29 [x0, x1, x2, .int a, x4, x5, x6, x7, x8, x9] st h = Run M_X2_cost 30 [x0, x1, x2, .int a, x4, x5, x6, x7, x8, x9] (.int a :: st) h := R_iload_n d_X2_cost_29 rfl
theorem d_X2_cost_30 : decode (mB M_X2_cost) 30 = .ok (.iload 4, 2) := by decide +kernel
theorem r_X2_cost_30 {x0 x1 x2 x3 x5 x6 x7 x8 x9 : Value} {a : Int32} {st : List Value} {h : AH} : Run M_X2_cost 30 [x0, x1, x2, x3, .int a, x5, x6, x7, x8, x9] st h = Run M_X2_cost 32 [x0, x1, x2, x3, .int a, x5, x6, x7, x8, x9] (.int a :: st) h := R_iload d_X2_cost_30 rfl
theorem d_X2_cost_32 : decode (mB M_X2_cost) 32 = .ok (.iadd, 1) := by decide +kernel
theorem r_X2_cost_32 {x0 x1 x2 x3 x4 x5 x6 x7 x8 x9 : Value} {x y : Int32} {st : List Value} {h : AH} : Run M_X2_cost 32 [x0, x1, x2, x3, x4, x5, x6, x7, x8, x9] (.int y :: .int x :: st) h = Run M_X2_cost 33 [x0, x1, x2, x3, x4, x5, x6, x7, x8, x9] (.int (x + y) :: st) h := R_iadd d_X2_cost_32
theorem d_X2_cost_33 : decode (mB M_X2_cost) 33 = .ok (.istore 7, 2) := by decide +kernel
theorem r_X2_cost_33 {x0 x1 x2 x3 x4 x5 x6 x7 x8 x9 : Value} {a : Int32} {st : List Value} {h : AH} (hc : x6.category = 1) : Run M_X2_cost 33 [x0, x1, x2, x3, x4, x5, x6, x7, x8, x9] (.int a :: st) h = Run M_X2_cost 35 [x0, x1, x2, x3, x4, x5, x6, .int a, x8, x9] st h := R_istore d_X2_cost_33 (Nat.lt_of_lt_of_le (by decide : 7 < 10) (Nat.le_refl 10)) (catP_of rfl hc)
theorem d_X2_cost_35 : decode (mB M_X2_cost) 35 = .ok (.iload 7, 2) := by decide +kernel
theorem r_X2_cost_35 {x0 x1 x2 x3 x4 x5 x6 x8 x9 : Value} {a : Int32} {st : List Value} {h : AH} : Run M_X2_cost 35 [x0, x1, x2, x3, x4, x5, x6, .int a, x8, x9] st h = Run M_X2_cost 37 [x0, x1, x2, x3, x4, x5, x6, .int a, x8, x9] (.int a :: st) h := R_iload d_X2_cost_35 rfl
theorem d_X2_cost_37 : decode (mB M_X2_cost) 37 = .ok (.i2l, 1) := by decide +kernel
theorem r_X2_cost_37 {x0 x1 x2 x3 x4 x5 x6 x7 x8 x9 : Value} {x : Int32} {st : List Value} {h : AH} : Run M_X2_cost 37 [x0, x1, x2, x3, x4, x5, x6, x7, x8, x9] (.int x :: st) h = Run M_X2_cost 38 [x0, x1, x2, x3, x4, x5, x6, x7, x8, x9] (.long x.toInt64 :: st) h := R_i2l d_X2_cost_37
theorem d_X2_cost_38 : decode (mB M_X2_cost) 38 = .ok (.aload_n 0, 1) := by decide +kernel
theorem r_X2_cost_38 {x1 x2 x3 x4 x5 x6 x7 x8 x9 : Value} {a : Nat} {st : List Value} {h : AH} : Run M_X2_cost 38 [.ref a, x1, x2, x3, x4, x5, x6, x7, x8, x9] st h = Run M_X2_cost 39 [.ref a, x1, x2, x3, x4, x5, x6, x7, x8, x9] (.ref a :: st) h := R_aload_n d_X2_cost_38 rfl
theorem d_X2_cost_39 : decode (mB M_X2_cost) 39 = .ok (.iload 7, 2) := by decide +kernel
theorem r_X2_cost_39 {x0 x1 x2 x3 x4 x5 x6 x8 x9 : Value} {a : Int32} {st : List Value} {h : AH} : Run M_X2_cost 39 [x0, x1, x2, x3, x4, x5, x6, .int a, x8, x9] st h = Run M_X2_cost 41 [x0, x1, x2, x3, x4, x5, x6, .int a, x8, x9] (.int a :: st) h := R_iload d_X2_cost_39 rfl
theorem d_X2_cost_41 : decode (mB M_X2_cost) 41 = .ok (.invokevirtual 91, 3) := by decide +kernel
theorem r_X2_cost_41 {x0 x1 x2 x3 x4 x5 x6 x7 x8 x9 : Value} {p0 : Int32} {a : Nat} {w0 : Value} {h : AH} : Run M_X2_cost 41 [x0, x1, x2, x3, x4, x5, x6, x7, x8, x9] (.int p0 :: .ref a :: [w0]) h = if refO h 2 (some (.ref a)) = true then (if (Call M_X2_endedBy h [.ref a, .int p0]).isSome = true then Run M_X2_cost 44 [x0, x1, x2, x3, x4, x5, x6, x7, x8, x9] (rL (Call M_X2_endedBy h [.ref a, .int p0]) ++ [w0]) (cH (Call M_X2_endedBy h [.ref a, .int p0])) else none) else none := R_virt d_X2_cost_41 rfl rfl rfl rfl rfl (Nat.le_of_ble_eq_true rfl)
theorem d_X2_cost_44 : decode (mB M_X2_cost) 44 = .ok (.lmul, 1) := by decide +kernel
theorem r_X2_cost_44 {x0 x1 x2 x3 x4 x5 x6 x7 x8 x9 : Value} {x y : Int64} {st : List Value} {h : AH} : Run M_X2_cost 44 [x0, x1, x2, x3, x4, x5, x6, x7, x8, x9] (.long y :: .long x :: st) h = Run M_X2_cost 45 [x0, x1, x2, x3, x4, x5, x6, x7, x8, x9] (.long (x * y) :: st) h := R_lmul d_X2_cost_44
theorem d_X2_cost_45 : decode (mB M_X2_cost) 45 = .ok (.aload_n 0, 1) := by decide +kernel
theorem r_X2_cost_45 {x1 x2 x3 x4 x5 x6 x7 x8 x9 : Value} {a : Nat} {st : List Value} {h : AH} : Run M_X2_cost 45 [.ref a, x1, x2, x3, x4, x5, x6, x7, x8, x9] st h = Run M_X2_cost 46 [.ref a, x1, x2, x3, x4, x5, x6, x7, x8, x9] (.ref a :: st) h := R_aload_n d_X2_cost_45 rfl
theorem d_X2_cost_46 : decode (mB M_X2_cost) 46 = .ok (.iload 7, 2) := by decide +kernel
theorem r_X2_cost_46 {x0 x1 x2 x3 x4 x5 x6 x8 x9 : Value} {a : Int32} {st : List Value} {h : AH} : Run M_X2_cost 46 [x0, x1, x2, x3, x4, x5, x6, .int a, x8, x9] st h = Run M_X2_cost 48 [x0, x1, x2, x3, x4, x5, x6, .int a, x8, x9] (.int a :: st) h := R_iload d_X2_cost_46 rfl
theorem d_X2_cost_48 : decode (mB M_X2_cost) 48 = .ok (.invokevirtual 88, 3) := by decide +kernel
theorem r_X2_cost_48 {x0 x1 x2 x3 x4 x5 x6 x7 x8 x9 : Value} {p0 : Int32} {a : Nat} {w0 : Value} {h : AH} : Run M_X2_cost 48 [x0, x1, x2, x3, x4, x5, x6, x7, x8, x9] (.int p0 :: .ref a :: [w0]) h = if refO h 2 (some (.ref a)) = true then (if (Call M_X2_tenthsBy h [.ref a, .int p0]).isSome = true then Run M_X2_cost 51 [x0, x1, x2, x3, x4, x5, x6, x7, x8, x9] (rL (Call M_X2_tenthsBy h [.ref a, .int p0]) ++ [w0]) (cH (Call M_X2_tenthsBy h [.ref a, .int p0])) else none) else none := R_virt d_X2_cost_48 rfl rfl rfl rfl rfl (Nat.le_of_ble_eq_true rfl)
theorem d_X2_cost_51 : decode (mB M_X2_cost) 51 = .ok (.lsub, 1) := by decide +kernel
theorem r_X2_cost_51 {x0 x1 x2 x3 x4 x5 x6 x7 x8 x9 : Value} {x y : Int64} {st : List Value} {h : AH} : Run M_X2_cost 51 [x0, x1, x2, x3, x4, x5, x6, x7, x8, x9] (.long y :: .long x :: st) h = Run M_X2_cost 52 [x0, x1, x2, x3, x4, x5, x6, x7, x8, x9] (.long (x - y) :: st) h := R_lsub d_X2_cost_51
theorem d_X2_cost_52 : decode (mB M_X2_cost) 52 = .ok (.lstore 8, 2) := by decide +kernel
theorem r_X2_cost_52 {x0 x1 x2 x3 x4 x5 x6 x7 x8 x9 : Value} {a : Int64} {st : List Value} {h : AH} (hc : x7.category = 1) : Run M_X2_cost 52 [x0, x1, x2, x3, x4, x5, x6, x7, x8, x9] (.long a :: st) h = Run M_X2_cost 54 [x0, x1, x2, x3, x4, x5, x6, x7, .long a, .null] st h := R_lstore d_X2_cost_52 (Nat.lt_of_lt_of_le (by decide : 9 < 10) (Nat.le_refl 10)) (catP_of rfl hc)
theorem d_X2_cost_54 : decode (mB M_X2_cost) 54 = .ok (.iload_n 1, 1) := by decide +kernel
theorem r_X2_cost_54 {x0 x2 x3 x4 x5 x6 x7 x8 x9 : Value} {a : Int32} {st : List Value} {h : AH} : Run M_X2_cost 54 [x0, .int a, x2, x3, x4, x5, x6, x7, x8, x9] st h = Run M_X2_cost 55 [x0, .int a, x2, x3, x4, x5, x6, x7, x8, x9] (.int a :: st) h := R_iload_n d_X2_cost_54 rfl
theorem d_X2_cost_55 : decode (mB M_X2_cost) 55 = .ok (.i2l, 1) := by decide +kernel
theorem r_X2_cost_55 {x0 x1 x2 x3 x4 x5 x6 x7 x8 x9 : Value} {x : Int32} {st : List Value} {h : AH} : Run M_X2_cost 55 [x0, x1, x2, x3, x4, x5, x6, x7, x8, x9] (.int x :: st) h = Run M_X2_cost 56 [x0, x1, x2, x3, x4, x5, x6, x7, x8, x9] (.long x.toInt64 :: st) h := R_i2l d_X2_cost_55
theorem d_X2_cost_56 : decode (mB M_X2_cost) 56 = .ok (.lload 5, 2) := by decide +kernel
theorem r_X2_cost_56 {x0 x1 x2 x3 x4 x6 x7 x8 x9 : Value} {a : Int64} {st : List Value} {h : AH} : Run M_X2_cost 56 [x0, x1, x2, x3, x4, .long a, x6, x7, x8, x9] st h = Run M_X2_cost 58 [x0, x1, x2, x3, x4, .long a, x6, x7, x8, x9] (.long a :: st) h := R_lload d_X2_cost_56 rfl
theorem d_X2_cost_58 : decode (mB M_X2_cost) 58 = .ok (.lmul, 1) := by decide +kernel
theorem r_X2_cost_58 {x0 x1 x2 x3 x4 x5 x6 x7 x8 x9 : Value} {x y : Int64} {st : List Value} {h : AH} : Run M_X2_cost 58 [x0, x1, x2, x3, x4, x5, x6, x7, x8, x9] (.long y :: .long x :: st) h = Run M_X2_cost 59 [x0, x1, x2, x3, x4, x5, x6, x7, x8, x9] (.long (x * y) :: st) h := R_lmul d_X2_cost_58
theorem d_X2_cost_59 : decode (mB M_X2_cost) 59 = .ok (.iload_n 2, 1) := by decide +kernel
theorem r_X2_cost_59 {x0 x1 x3 x4 x5 x6 x7 x8 x9 : Value} {a : Int32} {st : List Value} {h : AH} : Run M_X2_cost 59 [x0, x1, .int a, x3, x4, x5, x6, x7, x8, x9] st h = Run M_X2_cost 60 [x0, x1, .int a, x3, x4, x5, x6, x7, x8, x9] (.int a :: st) h := R_iload_n d_X2_cost_59 rfl
theorem d_X2_cost_60 : decode (mB M_X2_cost) 60 = .ok (.i2l, 1) := by decide +kernel
theorem r_X2_cost_60 {x0 x1 x2 x3 x4 x5 x6 x7 x8 x9 : Value} {x : Int32} {st : List Value} {h : AH} : Run M_X2_cost 60 [x0, x1, x2, x3, x4, x5, x6, x7, x8, x9] (.int x :: st) h = Run M_X2_cost 61 [x0, x1, x2, x3, x4, x5, x6, x7, x8, x9] (.long x.toInt64 :: st) h := R_i2l d_X2_cost_60
theorem d_X2_cost_61 : decode (mB M_X2_cost) 61 = .ok (.lload 8, 2) := by decide +kernel
theorem r_X2_cost_61 {x0 x1 x2 x3 x4 x5 x6 x7 x9 : Value} {a : Int64} {st : List Value} {h : AH} : Run M_X2_cost 61 [x0, x1, x2, x3, x4, x5, x6, x7, .long a, x9] st h = Run M_X2_cost 63 [x0, x1, x2, x3, x4, x5, x6, x7, .long a, x9] (.long a :: st) h := R_lload d_X2_cost_61 rfl
theorem d_X2_cost_63 : decode (mB M_X2_cost) 63 = .ok (.lmul, 1) := by decide +kernel
theorem r_X2_cost_63 {x0 x1 x2 x3 x4 x5 x6 x7 x8 x9 : Value} {x y : Int64} {st : List Value} {h : AH} : Run M_X2_cost 63 [x0, x1, x2, x3, x4, x5, x6, x7, x8, x9] (.long y :: .long x :: st) h = Run M_X2_cost 64 [x0, x1, x2, x3, x4, x5, x6, x7, x8, x9] (.long (x * y) :: st) h := R_lmul d_X2_cost_63
theorem d_X2_cost_64 : decode (mB M_X2_cost) 64 = .ok (.ladd, 1) := by decide +kernel
theorem r_X2_cost_64 {x0 x1 x2 x3 x4 x5 x6 x7 x8 x9 : Value} {x y : Int64} {st : List Value} {h : AH} : Run M_X2_cost 64 [x0, x1, x2, x3, x4, x5, x6, x7, x8, x9] (.long y :: .long x :: st) h = Run M_X2_cost 65 [x0, x1, x2, x3, x4, x5, x6, x7, x8, x9] (.long (x + y) :: st) h := R_ladd d_X2_cost_64
theorem d_X2_cost_65 : decode (mB M_X2_cost) 65 = .ok (.lreturn, 1) := by decide +kernel
theorem r_X2_cost_65 {x0 x1 x2 x3 x4 x5 x6 x7 x8 x9 : Value} {v : Int64} {h : AH} : Run M_X2_cost 65 [x0, x1, x2, x3, x4, x5, x6, x7, x8, x9] [.long v] h = some (h, some (.long v)) := R_lreturn d_X2_cost_65 rfl
theorem d_X2_cheapest_0 : decode (mB M_X2_cheapest) 0 = .ok (.iconst 0, 1) := by decide +kernel
theorem r_X2_cheapest_0 {x0 x1 x2 x3 x4 x5 x6 x7 x8 x9 : Value} {st : List Value} {h : AH} : Run M_X2_cheapest 0 [x0, x1, x2, x3, x4, x5, x6, x7, x8, x9] st h = Run M_X2_cheapest 1 [x0, x1, x2, x3, x4, x5, x6, x7, x8, x9] (.int (nI 0) :: st) h := R_iconst d_X2_cheapest_0 (by decide)
theorem d_X2_cheapest_1 : decode (mB M_X2_cheapest) 1 = .ok (.istore 4, 2) := by decide +kernel
theorem r_X2_cheapest_1 {x0 x1 x2 x3 x4 x5 x6 x7 x8 x9 : Value} {a : Int32} {st : List Value} {h : AH} (hc : x3.category = 1) : Run M_X2_cheapest 1 [x0, x1, x2, x3, x4, x5, x6, x7, x8, x9] (.int a :: st) h = Run M_X2_cheapest 3 [x0, x1, x2, x3, .int a, x5, x6, x7, x8, x9] st h := R_istore d_X2_cheapest_1 (Nat.lt_of_lt_of_le (by decide : 4 < 10) (Nat.le_refl 10)) (catP_of rfl hc)
theorem d_X2_cheapest_3 : decode (mB M_X2_cheapest) 3 = .ok (.aload_n 0, 1) := by decide +kernel
theorem r_X2_cheapest_3 {x1 x2 x3 x4 x5 x6 x7 x8 x9 : Value} {a : Nat} {st : List Value} {h : AH} : Run M_X2_cheapest 3 [.ref a, x1, x2, x3, x4, x5, x6, x7, x8, x9] st h = Run M_X2_cheapest 4 [.ref a, x1, x2, x3, x4, x5, x6, x7, x8, x9] (.ref a :: st) h := R_aload_n d_X2_cheapest_3 rfl
theorem d_X2_cheapest_4 : decode (mB M_X2_cheapest) 4 = .ok (.iload_n 1, 1) := by decide +kernel
theorem r_X2_cheapest_4 {x0 x2 x3 x4 x5 x6 x7 x8 x9 : Value} {a : Int32} {st : List Value} {h : AH} : Run M_X2_cheapest 4 [x0, .int a, x2, x3, x4, x5, x6, x7, x8, x9] st h = Run M_X2_cheapest 5 [x0, .int a, x2, x3, x4, x5, x6, x7, x8, x9] (.int a :: st) h := R_iload_n d_X2_cheapest_4 rfl
theorem d_X2_cheapest_5 : decode (mB M_X2_cheapest) 5 = .ok (.iload_n 2, 1) := by decide +kernel
theorem r_X2_cheapest_5 {x0 x1 x3 x4 x5 x6 x7 x8 x9 : Value} {a : Int32} {st : List Value} {h : AH} : Run M_X2_cheapest 5 [x0, x1, .int a, x3, x4, x5, x6, x7, x8, x9] st h = Run M_X2_cheapest 6 [x0, x1, .int a, x3, x4, x5, x6, x7, x8, x9] (.int a :: st) h := R_iload_n d_X2_cheapest_5 rfl
theorem d_X2_cheapest_6 : decode (mB M_X2_cheapest) 6 = .ok (.iconst 0, 1) := by decide +kernel
theorem r_X2_cheapest_6 {x0 x1 x2 x3 x4 x5 x6 x7 x8 x9 : Value} {st : List Value} {h : AH} : Run M_X2_cheapest 6 [x0, x1, x2, x3, x4, x5, x6, x7, x8, x9] st h = Run M_X2_cheapest 7 [x0, x1, x2, x3, x4, x5, x6, x7, x8, x9] (.int (nI 0) :: st) h := R_iconst d_X2_cheapest_6 (by decide)
theorem d_X2_cheapest_7 : decode (mB M_X2_cheapest) 7 = .ok (.iload_n 3, 1) := by decide +kernel
theorem r_X2_cheapest_7 {x0 x1 x2 x4 x5 x6 x7 x8 x9 : Value} {a : Int32} {st : List Value} {h : AH} : Run M_X2_cheapest 7 [x0, x1, x2, .int a, x4, x5, x6, x7, x8, x9] st h = Run M_X2_cheapest 8 [x0, x1, x2, .int a, x4, x5, x6, x7, x8, x9] (.int a :: st) h := R_iload_n d_X2_cheapest_7 rfl
theorem d_X2_cheapest_8 : decode (mB M_X2_cheapest) 8 = .ok (.invokevirtual 94, 3) := by decide +kernel
theorem r_X2_cheapest_8 {x0 x1 x2 x3 x4 x5 x6 x7 x8 x9 : Value} {p0 : Int32} {p1 : Int32} {p2 : Int32} {p3 : Int32} {a : Nat} {h : AH} : Run M_X2_cheapest 8 [x0, x1, x2, x3, x4, x5, x6, x7, x8, x9] (.int p3 :: .int p2 :: .int p1 :: .int p0 :: .ref a :: []) h = if refO h 2 (some (.ref a)) = true then (if (Call M_X2_cost h [.ref a, .int p0, .int p1, .int p2, .int p3]).isSome = true then Run M_X2_cheapest 11 [x0, x1, x2, x3, x4, x5, x6, x7, x8, x9] (rL (Call M_X2_cost h [.ref a, .int p0, .int p1, .int p2, .int p3]) ++ []) (cH (Call M_X2_cost h [.ref a, .int p0, .int p1, .int p2, .int p3])) else none) else none := R_virt d_X2_cheapest_8 rfl rfl rfl rfl rfl (Nat.le_of_ble_eq_true rfl)
theorem d_X2_cheapest_11 : decode (mB M_X2_cheapest) 11 = .ok (.lstore 5, 2) := by decide +kernel
theorem r_X2_cheapest_11 {x0 x1 x2 x3 x4 x5 x6 x7 x8 x9 : Value} {a : Int64} {st : List Value} {h : AH} (hc : x4.category = 1) : Run M_X2_cheapest 11 [x0, x1, x2, x3, x4, x5, x6, x7, x8, x9] (.long a :: st) h = Run M_X2_cheapest 13 [x0, x1, x2, x3, x4, .long a, .null, x7, x8, x9] st h := R_lstore d_X2_cheapest_11 (Nat.lt_of_lt_of_le (by decide : 6 < 10) (Nat.le_refl 10)) (catP_of rfl hc)
theorem d_X2_cheapest_13 : decode (mB M_X2_cheapest) 13 = .ok (.iconst 1, 1) := by decide +kernel
theorem r_X2_cheapest_13 {x0 x1 x2 x3 x4 x5 x6 x7 x8 x9 : Value} {st : List Value} {h : AH} : Run M_X2_cheapest 13 [x0, x1, x2, x3, x4, x5, x6, x7, x8, x9] st h = Run M_X2_cheapest 14 [x0, x1, x2, x3, x4, x5, x6, x7, x8, x9] (.int (nI 1) :: st) h := R_iconst d_X2_cheapest_13 (by decide)
theorem d_X2_cheapest_14 : decode (mB M_X2_cheapest) 14 = .ok (.istore 7, 2) := by decide +kernel
theorem r_X2_cheapest_14 {x0 x1 x2 x3 x4 x5 x6 x7 x8 x9 : Value} {a : Int32} {st : List Value} {h : AH} (hc : x6.category = 1) : Run M_X2_cheapest 14 [x0, x1, x2, x3, x4, x5, x6, x7, x8, x9] (.int a :: st) h = Run M_X2_cheapest 16 [x0, x1, x2, x3, x4, x5, x6, .int a, x8, x9] st h := R_istore d_X2_cheapest_14 (Nat.lt_of_lt_of_le (by decide : 7 < 10) (Nat.le_refl 10)) (catP_of rfl hc)
theorem d_X2_cheapest_16 : decode (mB M_X2_cheapest) 16 = .ok (.iload 7, 2) := by decide +kernel
theorem r_X2_cheapest_16 {x0 x1 x2 x3 x4 x5 x6 x8 x9 : Value} {a : Int32} {st : List Value} {h : AH} : Run M_X2_cheapest 16 [x0, x1, x2, x3, x4, x5, x6, .int a, x8, x9] st h = Run M_X2_cheapest 18 [x0, x1, x2, x3, x4, x5, x6, .int a, x8, x9] (.int a :: st) h := R_iload d_X2_cheapest_16 rfl
theorem d_X2_cheapest_18 : decode (mB M_X2_cheapest) 18 = .ok (.sipush 420, 3) := by decide +kernel
theorem r_X2_cheapest_18 {x0 x1 x2 x3 x4 x5 x6 x7 x8 x9 : Value} {st : List Value} {h : AH} : Run M_X2_cheapest 18 [x0, x1, x2, x3, x4, x5, x6, x7, x8, x9] st h = Run M_X2_cheapest 21 [x0, x1, x2, x3, x4, x5, x6, x7, x8, x9] (.int (nI 420) :: st) h := R_sipush d_X2_cheapest_18 (by decide)
theorem d_X2_cheapest_21 : decode (mB M_X2_cheapest) 21 = .ok (.if_icmp .gt 36, 3) := by decide +kernel
theorem r_X2_cheapest_21 {x0 x1 x2 x3 x4 x5 x6 x7 x8 x9 : Value} {x y : Int32} {st : List Value} {h : AH} : Run M_X2_cheapest 21 [x0, x1, x2, x3, x4, x5, x6, x7, x8, x9] (.int y :: .int x :: st) h = if y < x then Run M_X2_cheapest 57 [x0, x1, x2, x3, x4, x5, x6, x7, x8, x9] st h else Run M_X2_cheapest 24 [x0, x1, x2, x3, x4, x5, x6, x7, x8, x9] st h := R_icmp_gt d_X2_cheapest_21 (by decide)
theorem d_X2_cheapest_24 : decode (mB M_X2_cheapest) 24 = .ok (.aload_n 0, 1) := by decide +kernel
theorem r_X2_cheapest_24 {x1 x2 x3 x4 x5 x6 x7 x8 x9 : Value} {a : Nat} {st : List Value} {h : AH} : Run M_X2_cheapest 24 [.ref a, x1, x2, x3, x4, x5, x6, x7, x8, x9] st h = Run M_X2_cheapest 25 [.ref a, x1, x2, x3, x4, x5, x6, x7, x8, x9] (.ref a :: st) h := R_aload_n d_X2_cheapest_24 rfl
theorem d_X2_cheapest_25 : decode (mB M_X2_cheapest) 25 = .ok (.iload_n 1, 1) := by decide +kernel
theorem r_X2_cheapest_25 {x0 x2 x3 x4 x5 x6 x7 x8 x9 : Value} {a : Int32} {st : List Value} {h : AH} : Run M_X2_cheapest 25 [x0, .int a, x2, x3, x4, x5, x6, x7, x8, x9] st h = Run M_X2_cheapest 26 [x0, .int a, x2, x3, x4, x5, x6, x7, x8, x9] (.int a :: st) h := R_iload_n d_X2_cheapest_25 rfl
theorem d_X2_cheapest_26 : decode (mB M_X2_cheapest) 26 = .ok (.iload_n 2, 1) := by decide +kernel
theorem r_X2_cheapest_26 {x0 x1 x3 x4 x5 x6 x7 x8 x9 : Value} {a : Int32} {st : List Value} {h : AH} : Run M_X2_cheapest 26 [x0, x1, .int a, x3, x4, x5, x6, x7, x8, x9] st h = Run M_X2_cheapest 27 [x0, x1, .int a, x3, x4, x5, x6, x7, x8, x9] (.int a :: st) h := R_iload_n d_X2_cheapest_26 rfl
theorem d_X2_cheapest_27 : decode (mB M_X2_cheapest) 27 = .ok (.iload 7, 2) := by decide +kernel
theorem r_X2_cheapest_27 {x0 x1 x2 x3 x4 x5 x6 x8 x9 : Value} {a : Int32} {st : List Value} {h : AH} : Run M_X2_cheapest 27 [x0, x1, x2, x3, x4, x5, x6, .int a, x8, x9] st h = Run M_X2_cheapest 29 [x0, x1, x2, x3, x4, x5, x6, .int a, x8, x9] (.int a :: st) h := R_iload d_X2_cheapest_27 rfl
theorem d_X2_cheapest_29 : decode (mB M_X2_cheapest) 29 = .ok (.iload_n 3, 1) := by decide +kernel
theorem r_X2_cheapest_29 {x0 x1 x2 x4 x5 x6 x7 x8 x9 : Value} {a : Int32} {st : List Value} {h : AH} : Run M_X2_cheapest 29 [x0, x1, x2, .int a, x4, x5, x6, x7, x8, x9] st h = Run M_X2_cheapest 30 [x0, x1, x2, .int a, x4, x5, x6, x7, x8, x9] (.int a :: st) h := R_iload_n d_X2_cheapest_29 rfl
theorem d_X2_cheapest_30 : decode (mB M_X2_cheapest) 30 = .ok (.invokevirtual 94, 3) := by decide +kernel
theorem r_X2_cheapest_30 {x0 x1 x2 x3 x4 x5 x6 x7 x8 x9 : Value} {p0 : Int32} {p1 : Int32} {p2 : Int32} {p3 : Int32} {a : Nat} {h : AH} : Run M_X2_cheapest 30 [x0, x1, x2, x3, x4, x5, x6, x7, x8, x9] (.int p3 :: .int p2 :: .int p1 :: .int p0 :: .ref a :: []) h = if refO h 2 (some (.ref a)) = true then (if (Call M_X2_cost h [.ref a, .int p0, .int p1, .int p2, .int p3]).isSome = true then Run M_X2_cheapest 33 [x0, x1, x2, x3, x4, x5, x6, x7, x8, x9] (rL (Call M_X2_cost h [.ref a, .int p0, .int p1, .int p2, .int p3]) ++ []) (cH (Call M_X2_cost h [.ref a, .int p0, .int p1, .int p2, .int p3])) else none) else none := R_virt d_X2_cheapest_30 rfl rfl rfl rfl rfl (Nat.le_of_ble_eq_true rfl)
theorem d_X2_cheapest_33 : decode (mB M_X2_cheapest) 33 = .ok (.lstore 8, 2) := by decide +kernel
theorem r_X2_cheapest_33 {x0 x1 x2 x3 x4 x5 x6 x7 x8 x9 : Value} {a : Int64} {st : List Value} {h : AH} (hc : x7.category = 1) : Run M_X2_cheapest 33 [x0, x1, x2, x3, x4, x5, x6, x7, x8, x9] (.long a :: st) h = Run M_X2_cheapest 35 [x0, x1, x2, x3, x4, x5, x6, x7, .long a, .null] st h := R_lstore d_X2_cheapest_33 (Nat.lt_of_lt_of_le (by decide : 9 < 10) (Nat.le_refl 10)) (catP_of rfl hc)
theorem d_X2_cheapest_35 : decode (mB M_X2_cheapest) 35 = .ok (.lload 8, 2) := by decide +kernel
theorem r_X2_cheapest_35 {x0 x1 x2 x3 x4 x5 x6 x7 x9 : Value} {a : Int64} {st : List Value} {h : AH} : Run M_X2_cheapest 35 [x0, x1, x2, x3, x4, x5, x6, x7, .long a, x9] st h = Run M_X2_cheapest 37 [x0, x1, x2, x3, x4, x5, x6, x7, .long a, x9] (.long a :: st) h := R_lload d_X2_cheapest_35 rfl
theorem d_X2_cheapest_37 : decode (mB M_X2_cheapest) 37 = .ok (.lload 5, 2) := by decide +kernel
theorem r_X2_cheapest_37 {x0 x1 x2 x3 x4 x6 x7 x8 x9 : Value} {a : Int64} {st : List Value} {h : AH} : Run M_X2_cheapest 37 [x0, x1, x2, x3, x4, .long a, x6, x7, x8, x9] st h = Run M_X2_cheapest 39 [x0, x1, x2, x3, x4, .long a, x6, x7, x8, x9] (.long a :: st) h := R_lload d_X2_cheapest_37 rfl
theorem d_X2_cheapest_39 : decode (mB M_X2_cheapest) 39 = .ok (.lcmp, 1) := by decide +kernel
theorem r_X2_cheapest_39 {x0 x1 x2 x3 x4 x5 x6 x7 x8 x9 : Value} {x y : Int64} {st : List Value} {h : AH} : Run M_X2_cheapest 39 [x0, x1, x2, x3, x4, x5, x6, x7, x8, x9] (.long y :: .long x :: st) h = Run M_X2_cheapest 40 [x0, x1, x2, x3, x4, x5, x6, x7, x8, x9] (.int (lg_cmp x y) :: st) h := R_lcmp d_X2_cheapest_39
theorem d_X2_cheapest_40 : decode (mB M_X2_cheapest) 40 = .ok (.ifCond .ge 11, 3) := by decide +kernel
theorem r_X2_cheapest_40 {x0 x1 x2 x3 x4 x5 x6 x7 x8 x9 : Value} {x : Int32} {st : List Value} {h : AH} : Run M_X2_cheapest 40 [x0, x1, x2, x3, x4, x5, x6, x7, x8, x9] (.int x :: st) h = if nI 0 ≤ x then Run M_X2_cheapest 51 [x0, x1, x2, x3, x4, x5, x6, x7, x8, x9] st h else Run M_X2_cheapest 43 [x0, x1, x2, x3, x4, x5, x6, x7, x8, x9] st h := R_if_ge d_X2_cheapest_40 (by decide)
theorem d_X2_cheapest_43 : decode (mB M_X2_cheapest) 43 = .ok (.lload 8, 2) := by decide +kernel
theorem r_X2_cheapest_43 {x0 x1 x2 x3 x4 x5 x6 x7 x9 : Value} {a : Int64} {st : List Value} {h : AH} : Run M_X2_cheapest 43 [x0, x1, x2, x3, x4, x5, x6, x7, .long a, x9] st h = Run M_X2_cheapest 45 [x0, x1, x2, x3, x4, x5, x6, x7, .long a, x9] (.long a :: st) h := R_lload d_X2_cheapest_43 rfl
theorem d_X2_cheapest_45 : decode (mB M_X2_cheapest) 45 = .ok (.lstore 5, 2) := by decide +kernel
theorem r_X2_cheapest_45 {x0 x1 x2 x3 x4 x5 x6 x7 x8 x9 : Value} {a : Int64} {st : List Value} {h : AH} (hc : x4.category = 1) : Run M_X2_cheapest 45 [x0, x1, x2, x3, x4, x5, x6, x7, x8, x9] (.long a :: st) h = Run M_X2_cheapest 47 [x0, x1, x2, x3, x4, .long a, .null, x7, x8, x9] st h := R_lstore d_X2_cheapest_45 (Nat.lt_of_lt_of_le (by decide : 6 < 10) (Nat.le_refl 10)) (catP_of rfl hc)
theorem d_X2_cheapest_47 : decode (mB M_X2_cheapest) 47 = .ok (.iload 7, 2) := by decide +kernel
theorem r_X2_cheapest_47 {x0 x1 x2 x3 x4 x5 x6 x8 x9 : Value} {a : Int32} {st : List Value} {h : AH} : Run M_X2_cheapest 47 [x0, x1, x2, x3, x4, x5, x6, .int a, x8, x9] st h = Run M_X2_cheapest 49 [x0, x1, x2, x3, x4, x5, x6, .int a, x8, x9] (.int a :: st) h := R_iload d_X2_cheapest_47 rfl
theorem d_X2_cheapest_49 : decode (mB M_X2_cheapest) 49 = .ok (.istore 4, 2) := by decide +kernel
theorem r_X2_cheapest_49 {x0 x1 x2 x3 x4 x5 x6 x7 x8 x9 : Value} {a : Int32} {st : List Value} {h : AH} (hc : x3.category = 1) : Run M_X2_cheapest 49 [x0, x1, x2, x3, x4, x5, x6, x7, x8, x9] (.int a :: st) h = Run M_X2_cheapest 51 [x0, x1, x2, x3, .int a, x5, x6, x7, x8, x9] st h := R_istore d_X2_cheapest_49 (Nat.lt_of_lt_of_le (by decide : 4 < 10) (Nat.le_refl 10)) (catP_of rfl hc)
theorem d_X2_cheapest_51 : decode (mB M_X2_cheapest) 51 = .ok (.iinc 7 1, 3) := by decide +kernel
theorem r_X2_cheapest_51 {x0 x1 x2 x3 x4 x5 x6 x8 x9 : Value} {a : Int32} {st : List Value} {h : AH} (hc : x6.category = 1) : Run M_X2_cheapest 51 [x0, x1, x2, x3, x4, x5, x6, .int a, x8, x9] st h = Run M_X2_cheapest 54 [x0, x1, x2, x3, x4, x5, x6, .int (a + (nI 1)), x8, x9] st h := R_iinc d_X2_cheapest_51 (by decide) rfl (catP_of rfl hc)
theorem d_X2_cheapest_54 : decode (mB M_X2_cheapest) 54 = .ok (.goto (-38), 3) := by decide +kernel
theorem r_X2_cheapest_54 {x0 x1 x2 x3 x4 x5 x6 x7 x8 x9 : Value} {st : List Value} {h : AH} : Run M_X2_cheapest 54 [x0, x1, x2, x3, x4, x5, x6, x7, x8, x9] st h = Run M_X2_cheapest 16 [x0, x1, x2, x3, x4, x5, x6, x7, x8, x9] st h := R_goto d_X2_cheapest_54 (by decide)
theorem d_X2_cheapest_57 : decode (mB M_X2_cheapest) 57 = .ok (.iload 4, 2) := by decide +kernel
theorem r_X2_cheapest_57 {x0 x1 x2 x3 x5 x6 x7 x8 x9 : Value} {a : Int32} {st : List Value} {h : AH} : Run M_X2_cheapest 57 [x0, x1, x2, x3, .int a, x5, x6, x7, x8, x9] st h = Run M_X2_cheapest 59 [x0, x1, x2, x3, .int a, x5, x6, x7, x8, x9] (.int a :: st) h := R_iload d_X2_cheapest_57 rfl
theorem d_X2_cheapest_59 : decode (mB M_X2_cheapest) 59 = .ok (.ireturn, 1) := by decide +kernel
theorem r_X2_cheapest_59 {x0 x1 x2 x3 x4 x5 x6 x7 x8 x9 : Value} {v : Int32} {h : AH} : Run M_X2_cheapest 59 [x0, x1, x2, x3, x4, x5, x6, x7, x8, x9] [.int v] h = some (h, some (.int v)) := R_ireturn d_X2_cheapest_59 rfl rfl
theorem d_X4_init_0 : decode (mB M_X4_init) 0 = .ok (.aload_n 0, 1) := by decide +kernel
theorem r_X4_init_0 {x1 : Value} {a : Nat} {st : List Value} {h : AH} : Run M_X4_init 0 [.ref a, x1] st h = Run M_X4_init 1 [.ref a, x1] (.ref a :: st) h := R_aload_n d_X4_init_0 rfl
theorem d_X4_init_1 : decode (mB M_X4_init) 1 = .ok (.invokespecial 3, 3) := by decide +kernel
theorem r_X4_init_1 {x0 x1 : Value} {a : Nat} {h : AH} : Run M_X4_init 1 [x0, x1] (.ref a :: []) h = Run M_X4_init 4 [x0, x1] [] h := R_obj d_X4_init_1 rfl rfl ⟨by decide, Nat.le_of_ble_eq_true rfl, by decide, by decide⟩
theorem d_X4_init_4 : decode (mB M_X4_init) 4 = .ok (.aload_n 0, 1) := by decide +kernel
theorem r_X4_init_4 {x1 : Value} {a : Nat} {st : List Value} {h : AH} : Run M_X4_init 4 [.ref a, x1] st h = Run M_X4_init 5 [.ref a, x1] (.ref a :: st) h := R_aload_n d_X4_init_4 rfl
theorem d_X4_init_5 : decode (mB M_X4_init) 5 = .ok (.bipush 7, 2) := by decide +kernel
theorem r_X4_init_5 {x0 x1 : Value} {st : List Value} {h : AH} : Run M_X4_init 5 [x0, x1] st h = Run M_X4_init 7 [x0, x1] (.int (nI 7) :: st) h := R_bipush d_X4_init_5 (by decide)
theorem d_X4_init_7 : decode (mB M_X4_init) 7 = .ok (.anewarray 9, 3) := by decide +kernel
theorem r_X4_init_7 {x0 x1 : Value} {st : List Value} {h : AH} : Run M_X4_init 7 [x0, x1] (.int (nI 7) :: st) h = Run M_X4_init 10 [x0, x1] (.ref h.1 :: st) (hnew h 7 (rA 4 7 (fun _ => none))) := R_anewarray d_X4_init_7 rfl ⟨by decide, by decide, by decide⟩ (by decide) rfl
theorem d_X4_init_10 : decode (mB M_X4_init) 10 = .ok (.putfield 11, 3) := by decide +kernel
theorem r_X4_init_10 {x0 x1 : Value} {v : Nat} {a : Nat} {st : List Value} {h : AH} : Run M_X4_init 10 [x0, x1] (.ref v :: .ref a :: st) h = if (pF h a 4 1 (.ref v)).isSome = true then Run M_X4_init 13 [x0, x1] st ((pF h a 4 1 (.ref v)).getD h) else none := R_putfield d_X4_init_10 rfl (okP_arr rfl (Or.inr ⟨rfl, rfl⟩))
theorem d_X4_init_13 : decode (mB M_X4_init) 13 = .ok (.aload_n 0, 1) := by decide +kernel
theorem r_X4_init_13 {x1 : Value} {a : Nat} {st : List Value} {h : AH} : Run M_X4_init 13 [.ref a, x1] st h = Run M_X4_init 14 [.ref a, x1] (.ref a :: st) h := R_aload_n d_X4_init_13 rfl
theorem d_X4_init_14 : decode (mB M_X4_init) 14 = .ok (.iconst 5, 1) := by decide +kernel
theorem r_X4_init_14 {x0 x1 : Value} {st : List Value} {h : AH} : Run M_X4_init 14 [x0, x1] st h = Run M_X4_init 15 [x0, x1] (.int (nI 5) :: st) h := R_iconst d_X4_init_14 (by decide)
theorem d_X4_init_15 : decode (mB M_X4_init) 15 = .ok (.newarray .int, 2) := by decide +kernel
theorem r_X4_init_15 {x0 x1 : Value} {st : List Value} {h : AH} : Run M_X4_init 15 [x0, x1] (.int (nI 5) :: st) h = Run M_X4_init 17 [x0, x1] (.ref h.1 :: st) (hnew h 5 (iA 5 (fun _ => 0))) := R_newarray d_X4_init_15 rfl ⟨by decide, by decide⟩ (by decide) rfl
theorem d_X4_init_17 : decode (mB M_X4_init) 17 = .ok (.putfield 17, 3) := by decide +kernel
theorem r_X4_init_17 {x0 x1 : Value} {v : Nat} {a : Nat} {st : List Value} {h : AH} : Run M_X4_init 17 [x0, x1] (.ref v :: .ref a :: st) h = if (pF h a 4 4 (.ref v)).isSome = true then Run M_X4_init 20 [x0, x1] st ((pF h a 4 4 (.ref v)).getD h) else none := R_putfield d_X4_init_17 rfl (okP_arr rfl (Or.inr ⟨rfl, rfl⟩))
theorem d_X4_init_20 : decode (mB M_X4_init) 20 = .ok (.aload_n 0, 1) := by decide +kernel
theorem r_X4_init_20 {x1 : Value} {a : Nat} {st : List Value} {h : AH} : Run M_X4_init 20 [.ref a, x1] st h = Run M_X4_init 21 [.ref a, x1] (.ref a :: st) h := R_aload_n d_X4_init_20 rfl
theorem d_X4_init_21 : decode (mB M_X4_init) 21 = .ok (.iconst 5, 1) := by decide +kernel
theorem r_X4_init_21 {x0 x1 : Value} {st : List Value} {h : AH} : Run M_X4_init 21 [x0, x1] st h = Run M_X4_init 22 [x0, x1] (.int (nI 5) :: st) h := R_iconst d_X4_init_21 (by decide)
theorem d_X4_init_22 : decode (mB M_X4_init) 22 = .ok (.newarray .int, 2) := by decide +kernel
theorem r_X4_init_22 {x0 x1 : Value} {st : List Value} {h : AH} : Run M_X4_init 22 [x0, x1] (.int (nI 5) :: st) h = Run M_X4_init 24 [x0, x1] (.ref h.1 :: st) (hnew h 5 (iA 5 (fun _ => 0))) := R_newarray d_X4_init_22 rfl ⟨by decide, by decide⟩ (by decide) rfl
theorem d_X4_init_24 : decode (mB M_X4_init) 24 = .ok (.putfield 21, 3) := by decide +kernel
theorem r_X4_init_24 {x0 x1 : Value} {v : Nat} {a : Nat} {st : List Value} {h : AH} : Run M_X4_init 24 [x0, x1] (.ref v :: .ref a :: st) h = if (pF h a 4 5 (.ref v)).isSome = true then Run M_X4_init 27 [x0, x1] st ((pF h a 4 5 (.ref v)).getD h) else none := R_putfield d_X4_init_24 rfl (okP_arr rfl (Or.inr ⟨rfl, rfl⟩))
theorem d_X4_init_27 : decode (mB M_X4_init) 27 = .ok (.aload_n 0, 1) := by decide +kernel
theorem r_X4_init_27 {x1 : Value} {a : Nat} {st : List Value} {h : AH} : Run M_X4_init 27 [.ref a, x1] st h = Run M_X4_init 28 [.ref a, x1] (.ref a :: st) h := R_aload_n d_X4_init_27 rfl
theorem d_X4_init_28 : decode (mB M_X4_init) 28 = .ok (.new 24, 3) := by decide +kernel
theorem r_X4_init_28 {x0 x1 : Value} {st : List Value} {h : AH} : Run M_X4_init 28 [x0, x1] st h = Run M_X4_init 31 [x0, x1] (.ref h.1 :: st) (hnew h 11 (oB 0 [.int 0, .int 0, .int 0, .int 0, .int 0, .null, .null, .int 0, .int 0, .int 0, .int 0])) := R_new d_X4_init_28 rfl rfl rfl
theorem d_X4_init_31 : decode (mB M_X4_init) 31 = .ok (.dup, 1) := by decide +kernel
theorem r_X4_init_31 {x0 x1 : Value} {x : Nat} {st : List Value} {h : AH} : Run M_X4_init 31 [x0, x1] (.ref x :: st) h = Run M_X4_init 32 [x0, x1] (.ref x :: .ref x :: st) h := R_dupr d_X4_init_31
theorem d_X4_init_32 : decode (mB M_X4_init) 32 = .ok (.invokespecial 26, 3) := by decide +kernel
theorem r_X4_init_32 {x0 x1 : Value} {a : Nat} {w0 w1 : Value} {h : AH} : Run M_X4_init 32 [x0, x1] (.ref a :: [w0, w1]) h = if (Call M_X0_init h [.ref a]).isSome = true then Run M_X4_init 35 [x0, x1] (rL (Call M_X0_init h [.ref a]) ++ [w0, w1]) (cH (Call M_X0_init h [.ref a])) else none := R_specN d_X4_init_32 rfl rfl rfl rfl rfl rfl (Nat.le_of_ble_eq_true rfl)
theorem d_X4_init_35 : decode (mB M_X4_init) 35 = .ok (.putfield 27, 3) := by decide +kernel
theorem r_X4_init_35 {x0 x1 : Value} {v : Nat} {a : Nat} {st : List Value} {h : AH} : Run M_X4_init 35 [x0, x1] (.ref v :: .ref a :: st) h = if (pF h a 4 6 (.ref v)).isSome = true then Run M_X4_init 38 [x0, x1] st ((pF h a 4 6 (.ref v)).getD h) else none := R_putfield d_X4_init_35 rfl (okP_ref rfl (Or.inr ⟨rfl, rfl⟩))
theorem d_X4_init_38 : decode (mB M_X4_init) 38 = .ok (.iconst 0, 1) := by decide +kernel
theorem r_X4_init_38 {x0 x1 : Value} {st : List Value} {h : AH} : Run M_X4_init 38 [x0, x1] st h = Run M_X4_init 39 [x0, x1] (.int (nI 0) :: st) h := R_iconst d_X4_init_38 (by decide)
theorem d_X4_init_39 : decode (mB M_X4_init) 39 = .ok (.istore_n 1, 1) := by decide +kernel
theorem r_X4_init_39 {x0 x1 : Value} {a : Int32} {st : List Value} {h : AH} (hc : x0.category = 1) : Run M_X4_init 39 [x0, x1] (.int a :: st) h = Run M_X4_init 40 [x0, .int a] st h := R_istore_n d_X4_init_39 (Nat.lt_of_lt_of_le (by decide : 1 < 2) (Nat.le_refl 2)) (catP_of rfl hc)
theorem d_X4_init_40 : decode (mB M_X4_init) 40 = .ok (.iload_n 1, 1) := by decide +kernel
theorem r_X4_init_40 {x0 : Value} {a : Int32} {st : List Value} {h : AH} : Run M_X4_init 40 [x0, .int a] st h = Run M_X4_init 41 [x0, .int a] (.int a :: st) h := R_iload_n d_X4_init_40 rfl
theorem d_X4_init_41 : decode (mB M_X4_init) 41 = .ok (.bipush 7, 2) := by decide +kernel
theorem r_X4_init_41 {x0 x1 : Value} {st : List Value} {h : AH} : Run M_X4_init 41 [x0, x1] st h = Run M_X4_init 43 [x0, x1] (.int (nI 7) :: st) h := R_bipush d_X4_init_41 (by decide)
theorem d_X4_init_43 : decode (mB M_X4_init) 43 = .ok (.if_icmp .ge 22, 3) := by decide +kernel
theorem r_X4_init_43 {x0 x1 : Value} {x y : Int32} {st : List Value} {h : AH} : Run M_X4_init 43 [x0, x1] (.int y :: .int x :: st) h = if y ≤ x then Run M_X4_init 65 [x0, x1] st h else Run M_X4_init 46 [x0, x1] st h := R_icmp_ge d_X4_init_43 (by decide)
theorem d_X4_init_46 : decode (mB M_X4_init) 46 = .ok (.aload_n 0, 1) := by decide +kernel
theorem r_X4_init_46 {x1 : Value} {a : Nat} {st : List Value} {h : AH} : Run M_X4_init 46 [.ref a, x1] st h = Run M_X4_init 47 [.ref a, x1] (.ref a :: st) h := R_aload_n d_X4_init_46 rfl
theorem d_X4_init_47 : decode (mB M_X4_init) 47 = .ok (.getfield 11, 3) := by decide +kernel
theorem r_X4_init_47 {x0 x1 : Value} {a : Nat} {st : List Value} {h : AH} : Run M_X4_init 47 [x0, x1] (.ref a :: st) h = if (gF h a 4 1).isSome = true then Run M_X4_init 50 [x0, x1] ((gF h a 4 1).getD .null :: st) h else none := R_getfield d_X4_init_47 rfl
theorem d_X4_init_50 : decode (mB M_X4_init) 50 = .ok (.iload_n 1, 1) := by decide +kernel
theorem r_X4_init_50 {x0 : Value} {a : Int32} {st : List Value} {h : AH} : Run M_X4_init 50 [x0, .int a] st h = Run M_X4_init 51 [x0, .int a] (.int a :: st) h := R_iload_n d_X4_init_50 rfl
theorem d_X4_init_51 : decode (mB M_X4_init) 51 = .ok (.new 9, 3) := by decide +kernel
theorem r_X4_init_51 {x0 x1 : Value} {st : List Value} {h : AH} : Run M_X4_init 51 [x0, x1] st h = Run M_X4_init 54 [x0, x1] (.ref h.1 :: st) (hnew h 5 (oB 6 [.int 0, .int 0, .int 0, .int 0, .null])) := R_new d_X4_init_51 rfl rfl rfl
theorem d_X4_init_54 : decode (mB M_X4_init) 54 = .ok (.dup, 1) := by decide +kernel
theorem r_X4_init_54 {x0 x1 : Value} {x : Nat} {st : List Value} {h : AH} : Run M_X4_init 54 [x0, x1] (.ref x :: st) h = Run M_X4_init 55 [x0, x1] (.ref x :: .ref x :: st) h := R_dupr d_X4_init_54
theorem d_X4_init_55 : decode (mB M_X4_init) 55 = .ok (.invokespecial 31, 3) := by decide +kernel
theorem r_X4_init_55 {x0 x1 : Value} {a : Nat} {w0 w1 w2 : Value} {h : AH} : Run M_X4_init 55 [x0, x1] (.ref a :: [w0, w1, w2]) h = if (Call M_X6_init h [.ref a]).isSome = true then Run M_X4_init 58 [x0, x1] (rL (Call M_X6_init h [.ref a]) ++ [w0, w1, w2]) (cH (Call M_X6_init h [.ref a])) else none := R_specN d_X4_init_55 rfl rfl rfl rfl rfl rfl (Nat.le_of_ble_eq_true rfl)
theorem d_X4_init_58 : decode (mB M_X4_init) 58 = .ok (.aastore, 1) := by decide +kernel
theorem r_X4_init_58 {x0 x1 : Value} {a x : Nat} {i : Int32} {st : List Value} {h : AH} : Run M_X4_init 58 [x0, x1] (.ref x :: .int i :: .ref a :: st) h = if (pR h a i x).isSome = true then Run M_X4_init 59 [x0, x1] st ((pR h a i x).getD h) else none := R_aastore d_X4_init_58
theorem d_X4_init_59 : decode (mB M_X4_init) 59 = .ok (.iinc 1 1, 3) := by decide +kernel
theorem r_X4_init_59 {x0 : Value} {a : Int32} {st : List Value} {h : AH} (hc : x0.category = 1) : Run M_X4_init 59 [x0, .int a] st h = Run M_X4_init 62 [x0, .int (a + (nI 1))] st h := R_iinc d_X4_init_59 (by decide) rfl (catP_of rfl hc)
theorem d_X4_init_62 : decode (mB M_X4_init) 62 = .ok (.goto (-22), 3) := by decide +kernel
theorem r_X4_init_62 {x0 x1 : Value} {st : List Value} {h : AH} : Run M_X4_init 62 [x0, x1] st h = Run M_X4_init 40 [x0, x1] st h := R_goto d_X4_init_62 (by decide)
theorem d_X4_init_65 : decode (mB M_X4_init) 65 = .ok (.aload_n 0, 1) := by decide +kernel
theorem r_X4_init_65 {x1 : Value} {a : Nat} {st : List Value} {h : AH} : Run M_X4_init 65 [.ref a, x1] st h = Run M_X4_init 66 [.ref a, x1] (.ref a :: st) h := R_aload_n d_X4_init_65 rfl
theorem d_X4_init_66 : decode (mB M_X4_init) 66 = .ok (.getfield 27, 3) := by decide +kernel
theorem r_X4_init_66 {x0 x1 : Value} {a : Nat} {st : List Value} {h : AH} : Run M_X4_init 66 [x0, x1] (.ref a :: st) h = if (gF h a 4 6).isSome = true then Run M_X4_init 69 [x0, x1] ((gF h a 4 6).getD .null :: st) h else none := R_getfield d_X4_init_66 rfl
theorem d_X4_init_69 : decode (mB M_X4_init) 69 = .ok (.invokevirtual 32, 3) := by decide +kernel
theorem r_X4_init_69 {x0 x1 : Value} {a : Nat} {h : AH} : Run M_X4_init 69 [x0, x1] (.ref a :: []) h = if refO h 0 (some (.ref a)) = true then (if (Call M_X0_setUntold h [.ref a]).isSome = true then Run M_X4_init 72 [x0, x1] (rL (Call M_X0_setUntold h [.ref a]) ++ []) (cH (Call M_X0_setUntold h [.ref a])) else none) else none := R_virt d_X4_init_69 rfl rfl rfl rfl rfl (Nat.le_of_ble_eq_true rfl)
theorem d_X4_init_72 : decode (mB M_X4_init) 72 = .ok (.return_, 1) := by decide +kernel
theorem r_X4_init_72 {x0 x1 : Value} {h : AH} : Run M_X4_init 72 [x0, x1] [] h = some (h, none) := R_return d_X4_init_72 rfl
theorem d_X4_clear_0 : decode (mB M_X4_clear) 0 = .ok (.aload_n 0, 1) := by decide +kernel
theorem r_X4_clear_0 {a : Nat} {st : List Value} {h : AH} : Run M_X4_clear 0 [.ref a] st h = Run M_X4_clear 1 [.ref a] (.ref a :: st) h := R_aload_n d_X4_clear_0 rfl
theorem d_X4_clear_1 : decode (mB M_X4_clear) 1 = .ok (.iconst 0, 1) := by decide +kernel
theorem r_X4_clear_1 {x0 : Value} {st : List Value} {h : AH} : Run M_X4_clear 1 [x0] st h = Run M_X4_clear 2 [x0] (.int (nI 0) :: st) h := R_iconst d_X4_clear_1 (by decide)
theorem d_X4_clear_2 : decode (mB M_X4_clear) 2 = .ok (.putfield 35, 3) := by decide +kernel
theorem r_X4_clear_2 {x0 : Value} {v : Int32} {a : Nat} {st : List Value} {h : AH} : Run M_X4_clear 2 [x0] (.int v :: .ref a :: st) h = if (pF h a 4 0 (.int v)).isSome = true then Run M_X4_clear 5 [x0] st ((pF h a 4 0 (.int v)).getD h) else none := R_putfield d_X4_clear_2 rfl (okP_int rfl rfl)
theorem d_X4_clear_5 : decode (mB M_X4_clear) 5 = .ok (.aload_n 0, 1) := by decide +kernel
theorem r_X4_clear_5 {a : Nat} {st : List Value} {h : AH} : Run M_X4_clear 5 [.ref a] st h = Run M_X4_clear 6 [.ref a] (.ref a :: st) h := R_aload_n d_X4_clear_5 rfl
theorem d_X4_clear_6 : decode (mB M_X4_clear) 6 = .ok (.iconst 0, 1) := by decide +kernel
theorem r_X4_clear_6 {x0 : Value} {st : List Value} {h : AH} : Run M_X4_clear 6 [x0] st h = Run M_X4_clear 7 [x0] (.int (nI 0) :: st) h := R_iconst d_X4_clear_6 (by decide)
theorem d_X4_clear_7 : decode (mB M_X4_clear) 7 = .ok (.putfield 39, 3) := by decide +kernel
theorem r_X4_clear_7 {x0 : Value} {v : Int32} {a : Nat} {st : List Value} {h : AH} : Run M_X4_clear 7 [x0] (.int v :: .ref a :: st) h = if (pF h a 4 2 (.int v)).isSome = true then Run M_X4_clear 10 [x0] st ((pF h a 4 2 (.int v)).getD h) else none := R_putfield d_X4_clear_7 rfl (okP_int rfl rfl)
theorem d_X4_clear_10 : decode (mB M_X4_clear) 10 = .ok (.aload_n 0, 1) := by decide +kernel
theorem r_X4_clear_10 {a : Nat} {st : List Value} {h : AH} : Run M_X4_clear 10 [.ref a] st h = Run M_X4_clear 11 [.ref a] (.ref a :: st) h := R_aload_n d_X4_clear_10 rfl
theorem d_X4_clear_11 : decode (mB M_X4_clear) 11 = .ok (.iconst 0, 1) := by decide +kernel
theorem r_X4_clear_11 {x0 : Value} {st : List Value} {h : AH} : Run M_X4_clear 11 [x0] st h = Run M_X4_clear 12 [x0] (.int (nI 0) :: st) h := R_iconst d_X4_clear_11 (by decide)
theorem d_X4_clear_12 : decode (mB M_X4_clear) 12 = .ok (.putfield 42, 3) := by decide +kernel
theorem r_X4_clear_12 {x0 : Value} {v : Int32} {a : Nat} {st : List Value} {h : AH} : Run M_X4_clear 12 [x0] (.int v :: .ref a :: st) h = if (pF h a 4 3 (.int v)).isSome = true then Run M_X4_clear 15 [x0] st ((pF h a 4 3 (.int v)).getD h) else none := R_putfield d_X4_clear_12 rfl (okP_int rfl rfl)
theorem d_X4_clear_15 : decode (mB M_X4_clear) 15 = .ok (.aload_n 0, 1) := by decide +kernel
theorem r_X4_clear_15 {a : Nat} {st : List Value} {h : AH} : Run M_X4_clear 15 [.ref a] st h = Run M_X4_clear 16 [.ref a] (.ref a :: st) h := R_aload_n d_X4_clear_15 rfl
theorem d_X4_clear_16 : decode (mB M_X4_clear) 16 = .ok (.getfield 27, 3) := by decide +kernel
theorem r_X4_clear_16 {x0 : Value} {a : Nat} {st : List Value} {h : AH} : Run M_X4_clear 16 [x0] (.ref a :: st) h = if (gF h a 4 6).isSome = true then Run M_X4_clear 19 [x0] ((gF h a 4 6).getD .null :: st) h else none := R_getfield d_X4_clear_16 rfl
theorem d_X4_clear_19 : decode (mB M_X4_clear) 19 = .ok (.invokevirtual 32, 3) := by decide +kernel
theorem r_X4_clear_19 {x0 : Value} {a : Nat} {h : AH} : Run M_X4_clear 19 [x0] (.ref a :: []) h = if refO h 0 (some (.ref a)) = true then (if (Call M_X0_setUntold h [.ref a]).isSome = true then Run M_X4_clear 22 [x0] (rL (Call M_X0_setUntold h [.ref a]) ++ []) (cH (Call M_X0_setUntold h [.ref a])) else none) else none := R_virt d_X4_clear_19 rfl rfl rfl rfl rfl (Nat.le_of_ble_eq_true rfl)
theorem d_X4_clear_22 : decode (mB M_X4_clear) 22 = .ok (.return_, 1) := by decide +kernel
theorem r_X4_clear_22 {x0 : Value} {h : AH} : Run M_X4_clear 22 [x0] [] h = some (h, none) := R_return d_X4_clear_22 rfl
theorem d_X4_hasPart_0 : decode (mB M_X4_hasPart) 0 = .ok (.iload_n 1, 1) := by decide +kernel
theorem r_X4_hasPart_0 {x0 : Value} {a : Int32} {st : List Value} {h : AH} : Run M_X4_hasPart 0 [x0, .int a] st h = Run M_X4_hasPart 1 [x0, .int a] (.int a :: st) h := R_iload_n d_X4_hasPart_0 rfl
theorem d_X4_hasPart_1 : decode (mB M_X4_hasPart) 1 = .ok (.iconst 0, 1) := by decide +kernel
theorem r_X4_hasPart_1 {x0 x1 : Value} {st : List Value} {h : AH} : Run M_X4_hasPart 1 [x0, x1] st h = Run M_X4_hasPart 2 [x0, x1] (.int (nI 0) :: st) h := R_iconst d_X4_hasPart_1 (by decide)
theorem d_X4_hasPart_2 : decode (mB M_X4_hasPart) 2 = .ok (.aload_n 0, 1) := by decide +kernel
theorem r_X4_hasPart_2 {x1 : Value} {a : Nat} {st : List Value} {h : AH} : Run M_X4_hasPart 2 [.ref a, x1] st h = Run M_X4_hasPart 3 [.ref a, x1] (.ref a :: st) h := R_aload_n d_X4_hasPart_2 rfl
theorem d_X4_hasPart_3 : decode (mB M_X4_hasPart) 3 = .ok (.getfield 35, 3) := by decide +kernel
theorem r_X4_hasPart_3 {x0 x1 : Value} {a : Nat} {st : List Value} {h : AH} : Run M_X4_hasPart 3 [x0, x1] (.ref a :: st) h = if (gF h a 4 0).isSome = true then Run M_X4_hasPart 6 [x0, x1] ((gF h a 4 0).getD .null :: st) h else none := R_getfield d_X4_hasPart_3 rfl
theorem d_X4_hasPart_6 : decode (mB M_X4_hasPart) 6 = .ok (.iconst 1, 1) := by decide +kernel
theorem r_X4_hasPart_6 {x0 x1 : Value} {st : List Value} {h : AH} : Run M_X4_hasPart 6 [x0, x1] st h = Run M_X4_hasPart 7 [x0, x1] (.int (nI 1) :: st) h := R_iconst d_X4_hasPart_6 (by decide)
theorem d_X4_hasPart_7 : decode (mB M_X4_hasPart) 7 = .ok (.isub, 1) := by decide +kernel
theorem r_X4_hasPart_7 {x0 x1 : Value} {x y : Int32} {st : List Value} {h : AH} : Run M_X4_hasPart 7 [x0, x1] (.int y :: .int x :: st) h = Run M_X4_hasPart 8 [x0, x1] (.int (x - y) :: st) h := R_isub d_X4_hasPart_7
theorem d_X4_hasPart_8 : decode (mB M_X4_hasPart) 8 = .ok (.invokestatic 45, 3) := by decide +kernel
theorem r_X4_hasPart_8 {x0 x1 : Value} {p0 : Int32} {p1 : Int32} {p2 : Int32} {h : AH} : Run M_X4_hasPart 8 [x0, x1] (.int p2 :: .int p1 :: .int p0 :: []) h = if (Call M_X8_within h [.int p0, .int p1, .int p2]).isSome = true then Run M_X4_hasPart 11 [x0, x1] (rL (Call M_X8_within h [.int p0, .int p1, .int p2]) ++ []) (cH (Call M_X8_within h [.int p0, .int p1, .int p2])) else none := R_statN d_X4_hasPart_8 rfl rfl rfl rfl rfl (Nat.le_of_ble_eq_true rfl)
theorem d_X4_hasPart_11 : decode (mB M_X4_hasPart) 11 = .ok (.ireturn, 1) := by decide +kernel
theorem r_X4_hasPart_11_0 {x0 x1 : Value} {h : AH} : Run M_X4_hasPart 11 [x0, x1] [.int (nI 0)] h = some (h, some (.int (nI 0))) := R_ireturn d_X4_hasPart_11 rfl (by decide)
theorem r_X4_hasPart_11_1 {x0 x1 : Value} {h : AH} : Run M_X4_hasPart 11 [x0, x1] [.int (nI 1)] h = some (h, some (.int (nI 1))) := R_ireturn d_X4_hasPart_11 rfl (by decide)
theorem r_X4_hasPart_11_c {x0 x1 : Value} {c : Prop} [Decidable c] {h : AH} : Run M_X4_hasPart 11 [x0, x1] [.int (bI c)] h = some (h, some (.int (bI c))) := R_ireturn d_X4_hasPart_11 rfl narrow_bI
theorem d_X4_hasPlayer_0 : decode (mB M_X4_hasPlayer) 0 = .ok (.iload_n 1, 1) := by decide +kernel
theorem r_X4_hasPlayer_0 {x0 : Value} {a : Int32} {st : List Value} {h : AH} : Run M_X4_hasPlayer 0 [x0, .int a] st h = Run M_X4_hasPlayer 1 [x0, .int a] (.int a :: st) h := R_iload_n d_X4_hasPlayer_0 rfl
theorem d_X4_hasPlayer_1 : decode (mB M_X4_hasPlayer) 1 = .ok (.iconst 0, 1) := by decide +kernel
theorem r_X4_hasPlayer_1 {x0 x1 : Value} {st : List Value} {h : AH} : Run M_X4_hasPlayer 1 [x0, x1] st h = Run M_X4_hasPlayer 2 [x0, x1] (.int (nI 0) :: st) h := R_iconst d_X4_hasPlayer_1 (by decide)
theorem d_X4_hasPlayer_2 : decode (mB M_X4_hasPlayer) 2 = .ok (.aload_n 0, 1) := by decide +kernel
theorem r_X4_hasPlayer_2 {x1 : Value} {a : Nat} {st : List Value} {h : AH} : Run M_X4_hasPlayer 2 [.ref a, x1] st h = Run M_X4_hasPlayer 3 [.ref a, x1] (.ref a :: st) h := R_aload_n d_X4_hasPlayer_2 rfl
theorem d_X4_hasPlayer_3 : decode (mB M_X4_hasPlayer) 3 = .ok (.getfield 39, 3) := by decide +kernel
theorem r_X4_hasPlayer_3 {x0 x1 : Value} {a : Nat} {st : List Value} {h : AH} : Run M_X4_hasPlayer 3 [x0, x1] (.ref a :: st) h = if (gF h a 4 2).isSome = true then Run M_X4_hasPlayer 6 [x0, x1] ((gF h a 4 2).getD .null :: st) h else none := R_getfield d_X4_hasPlayer_3 rfl
theorem d_X4_hasPlayer_6 : decode (mB M_X4_hasPlayer) 6 = .ok (.iconst 1, 1) := by decide +kernel
theorem r_X4_hasPlayer_6 {x0 x1 : Value} {st : List Value} {h : AH} : Run M_X4_hasPlayer 6 [x0, x1] st h = Run M_X4_hasPlayer 7 [x0, x1] (.int (nI 1) :: st) h := R_iconst d_X4_hasPlayer_6 (by decide)
theorem d_X4_hasPlayer_7 : decode (mB M_X4_hasPlayer) 7 = .ok (.isub, 1) := by decide +kernel
theorem r_X4_hasPlayer_7 {x0 x1 : Value} {x y : Int32} {st : List Value} {h : AH} : Run M_X4_hasPlayer 7 [x0, x1] (.int y :: .int x :: st) h = Run M_X4_hasPlayer 8 [x0, x1] (.int (x - y) :: st) h := R_isub d_X4_hasPlayer_7
theorem d_X4_hasPlayer_8 : decode (mB M_X4_hasPlayer) 8 = .ok (.invokestatic 45, 3) := by decide +kernel
theorem r_X4_hasPlayer_8 {x0 x1 : Value} {p0 : Int32} {p1 : Int32} {p2 : Int32} {h : AH} : Run M_X4_hasPlayer 8 [x0, x1] (.int p2 :: .int p1 :: .int p0 :: []) h = if (Call M_X8_within h [.int p0, .int p1, .int p2]).isSome = true then Run M_X4_hasPlayer 11 [x0, x1] (rL (Call M_X8_within h [.int p0, .int p1, .int p2]) ++ []) (cH (Call M_X8_within h [.int p0, .int p1, .int p2])) else none := R_statN d_X4_hasPlayer_8 rfl rfl rfl rfl rfl (Nat.le_of_ble_eq_true rfl)
theorem d_X4_hasPlayer_11 : decode (mB M_X4_hasPlayer) 11 = .ok (.ireturn, 1) := by decide +kernel
theorem r_X4_hasPlayer_11_0 {x0 x1 : Value} {h : AH} : Run M_X4_hasPlayer 11 [x0, x1] [.int (nI 0)] h = some (h, some (.int (nI 0))) := R_ireturn d_X4_hasPlayer_11 rfl (by decide)
theorem r_X4_hasPlayer_11_1 {x0 x1 : Value} {h : AH} : Run M_X4_hasPlayer 11 [x0, x1] [.int (nI 1)] h = some (h, some (.int (nI 1))) := R_ireturn d_X4_hasPlayer_11 rfl (by decide)
theorem r_X4_hasPlayer_11_c {x0 x1 : Value} {c : Prop} [Decidable c] {h : AH} : Run M_X4_hasPlayer 11 [x0, x1] [.int (bI c)] h = some (h, some (.int (bI c))) := R_ireturn d_X4_hasPlayer_11 rfl narrow_bI
theorem d_X4_everyPlayer_0 : decode (mB M_X4_everyPlayer) 0 = .ok (.iconst 1, 1) := by decide +kernel
theorem r_X4_everyPlayer_0 {x0 : Value} {st : List Value} {h : AH} : Run M_X4_everyPlayer 0 [x0] st h = Run M_X4_everyPlayer 1 [x0] (.int (nI 1) :: st) h := R_iconst d_X4_everyPlayer_0 (by decide)
theorem d_X4_everyPlayer_1 : decode (mB M_X4_everyPlayer) 1 = .ok (.aload_n 0, 1) := by decide +kernel
theorem r_X4_everyPlayer_1 {a : Nat} {st : List Value} {h : AH} : Run M_X4_everyPlayer 1 [.ref a] st h = Run M_X4_everyPlayer 2 [.ref a] (.ref a :: st) h := R_aload_n d_X4_everyPlayer_1 rfl
theorem d_X4_everyPlayer_2 : decode (mB M_X4_everyPlayer) 2 = .ok (.getfield 39, 3) := by decide +kernel
theorem r_X4_everyPlayer_2 {x0 : Value} {a : Nat} {st : List Value} {h : AH} : Run M_X4_everyPlayer 2 [x0] (.ref a :: st) h = if (gF h a 4 2).isSome = true then Run M_X4_everyPlayer 5 [x0] ((gF h a 4 2).getD .null :: st) h else none := R_getfield d_X4_everyPlayer_2 rfl
theorem d_X4_everyPlayer_5 : decode (mB M_X4_everyPlayer) 5 = .ok (.ishl, 1) := by decide +kernel
theorem r_X4_everyPlayer_5 {x0 : Value} {x y : Int32} {st : List Value} {h : AH} : Run M_X4_everyPlayer 5 [x0] (.int y :: .int x :: st) h = Run M_X4_everyPlayer 6 [x0] (.int (x <<< (y &&& 31)) :: st) h := R_ishl d_X4_everyPlayer_5
theorem d_X4_everyPlayer_6 : decode (mB M_X4_everyPlayer) 6 = .ok (.iconst 1, 1) := by decide +kernel
theorem r_X4_everyPlayer_6 {x0 : Value} {st : List Value} {h : AH} : Run M_X4_everyPlayer 6 [x0] st h = Run M_X4_everyPlayer 7 [x0] (.int (nI 1) :: st) h := R_iconst d_X4_everyPlayer_6 (by decide)
theorem d_X4_everyPlayer_7 : decode (mB M_X4_everyPlayer) 7 = .ok (.isub, 1) := by decide +kernel
theorem r_X4_everyPlayer_7 {x0 : Value} {x y : Int32} {st : List Value} {h : AH} : Run M_X4_everyPlayer 7 [x0] (.int y :: .int x :: st) h = Run M_X4_everyPlayer 8 [x0] (.int (x - y) :: st) h := R_isub d_X4_everyPlayer_7
theorem d_X4_everyPlayer_8 : decode (mB M_X4_everyPlayer) 8 = .ok (.ireturn, 1) := by decide +kernel
theorem r_X4_everyPlayer_8 {x0 : Value} {v : Int32} {h : AH} : Run M_X4_everyPlayer 8 [x0] [.int v] h = some (h, some (.int v)) := R_ireturn d_X4_everyPlayer_8 rfl rfl
theorem d_X4_endsInTrill_0 : decode (mB M_X4_endsInTrill) 0 = .ok (.aload_n 0, 1) := by decide +kernel
theorem r_X4_endsInTrill_0 {a : Nat} {st : List Value} {h : AH} : Run M_X4_endsInTrill 0 [.ref a] st h = Run M_X4_endsInTrill 1 [.ref a] (.ref a :: st) h := R_aload_n d_X4_endsInTrill_0 rfl
theorem d_X4_endsInTrill_1 : decode (mB M_X4_endsInTrill) 1 = .ok (.getfield 35, 3) := by decide +kernel
theorem r_X4_endsInTrill_1 {x0 : Value} {a : Nat} {st : List Value} {h : AH} : Run M_X4_endsInTrill 1 [x0] (.ref a :: st) h = if (gF h a 4 0).isSome = true then Run M_X4_endsInTrill 4 [x0] ((gF h a 4 0).getD .null :: st) h else none := R_getfield d_X4_endsInTrill_1 rfl
theorem d_X4_endsInTrill_4 : decode (mB M_X4_endsInTrill) 4 = .ok (.iconst 1, 1) := by decide +kernel
theorem r_X4_endsInTrill_4 {x0 : Value} {st : List Value} {h : AH} : Run M_X4_endsInTrill 4 [x0] st h = Run M_X4_endsInTrill 5 [x0] (.int (nI 1) :: st) h := R_iconst d_X4_endsInTrill_4 (by decide)
theorem d_X4_endsInTrill_5 : decode (mB M_X4_endsInTrill) 5 = .ok (.bipush 7, 2) := by decide +kernel
theorem r_X4_endsInTrill_5 {x0 : Value} {st : List Value} {h : AH} : Run M_X4_endsInTrill 5 [x0] st h = Run M_X4_endsInTrill 7 [x0] (.int (nI 7) :: st) h := R_bipush d_X4_endsInTrill_5 (by decide)
theorem d_X4_endsInTrill_7 : decode (mB M_X4_endsInTrill) 7 = .ok (.invokestatic 45, 3) := by decide +kernel
theorem r_X4_endsInTrill_7 {x0 : Value} {p0 : Int32} {p1 : Int32} {p2 : Int32} {h : AH} : Run M_X4_endsInTrill 7 [x0] (.int p2 :: .int p1 :: .int p0 :: []) h = if (Call M_X8_within h [.int p0, .int p1, .int p2]).isSome = true then Run M_X4_endsInTrill 10 [x0] (rL (Call M_X8_within h [.int p0, .int p1, .int p2]) ++ []) (cH (Call M_X8_within h [.int p0, .int p1, .int p2])) else none := R_statN d_X4_endsInTrill_7 rfl rfl rfl rfl rfl (Nat.le_of_ble_eq_true rfl)
theorem d_X4_endsInTrill_10 : decode (mB M_X4_endsInTrill) 10 = .ok (.ifCond .eq 25, 3) := by decide +kernel
theorem r_X4_endsInTrill_10 {x0 : Value} {x : Int32} {st : List Value} {h : AH} : Run M_X4_endsInTrill 10 [x0] (.int x :: st) h = if x = nI 0 then Run M_X4_endsInTrill 35 [x0] st h else Run M_X4_endsInTrill 13 [x0] st h := R_if_eq d_X4_endsInTrill_10 (by decide)
theorem d_X4_endsInTrill_13 : decode (mB M_X4_endsInTrill) 13 = .ok (.aload_n 0, 1) := by decide +kernel
theorem r_X4_endsInTrill_13 {a : Nat} {st : List Value} {h : AH} : Run M_X4_endsInTrill 13 [.ref a] st h = Run M_X4_endsInTrill 14 [.ref a] (.ref a :: st) h := R_aload_n d_X4_endsInTrill_13 rfl
theorem d_X4_endsInTrill_14 : decode (mB M_X4_endsInTrill) 14 = .ok (.getfield 11, 3) := by decide +kernel
theorem r_X4_endsInTrill_14 {x0 : Value} {a : Nat} {st : List Value} {h : AH} : Run M_X4_endsInTrill 14 [x0] (.ref a :: st) h = if (gF h a 4 1).isSome = true then Run M_X4_endsInTrill 17 [x0] ((gF h a 4 1).getD .null :: st) h else none := R_getfield d_X4_endsInTrill_14 rfl
theorem d_X4_endsInTrill_17 : decode (mB M_X4_endsInTrill) 17 = .ok (.aload_n 0, 1) := by decide +kernel
theorem r_X4_endsInTrill_17 {a : Nat} {st : List Value} {h : AH} : Run M_X4_endsInTrill 17 [.ref a] st h = Run M_X4_endsInTrill 18 [.ref a] (.ref a :: st) h := R_aload_n d_X4_endsInTrill_17 rfl
theorem d_X4_endsInTrill_18 : decode (mB M_X4_endsInTrill) 18 = .ok (.getfield 35, 3) := by decide +kernel
theorem r_X4_endsInTrill_18 {x0 : Value} {a : Nat} {st : List Value} {h : AH} : Run M_X4_endsInTrill 18 [x0] (.ref a :: st) h = if (gF h a 4 0).isSome = true then Run M_X4_endsInTrill 21 [x0] ((gF h a 4 0).getD .null :: st) h else none := R_getfield d_X4_endsInTrill_18 rfl
theorem d_X4_endsInTrill_21 : decode (mB M_X4_endsInTrill) 21 = .ok (.iconst 1, 1) := by decide +kernel
theorem r_X4_endsInTrill_21 {x0 : Value} {st : List Value} {h : AH} : Run M_X4_endsInTrill 21 [x0] st h = Run M_X4_endsInTrill 22 [x0] (.int (nI 1) :: st) h := R_iconst d_X4_endsInTrill_21 (by decide)
theorem d_X4_endsInTrill_22 : decode (mB M_X4_endsInTrill) 22 = .ok (.isub, 1) := by decide +kernel
theorem r_X4_endsInTrill_22 {x0 : Value} {x y : Int32} {st : List Value} {h : AH} : Run M_X4_endsInTrill 22 [x0] (.int y :: .int x :: st) h = Run M_X4_endsInTrill 23 [x0] (.int (x - y) :: st) h := R_isub d_X4_endsInTrill_22
theorem d_X4_endsInTrill_23 : decode (mB M_X4_endsInTrill) 23 = .ok (.aaload, 1) := by decide +kernel
theorem r_X4_endsInTrill_23 {x0 : Value} {a : Nat} {i : Int32} {st : List Value} {h : AH} : Run M_X4_endsInTrill 23 [x0] (.int i :: .ref a :: st) h = if (gR h a i).isSome = true then Run M_X4_endsInTrill 24 [x0] (.ref ((gR h a i).getD 0) :: st) h else none := R_aaload d_X4_endsInTrill_23
theorem d_X4_endsInTrill_24 : decode (mB M_X4_endsInTrill) 24 = .ok (.getfield 49, 3) := by decide +kernel
theorem r_X4_endsInTrill_24 {x0 : Value} {a : Nat} {st : List Value} {h : AH} : Run M_X4_endsInTrill 24 [x0] (.ref a :: st) h = if (gF h a 6 0).isSome = true then Run M_X4_endsInTrill 27 [x0] ((gF h a 6 0).getD .null :: st) h else none := R_getfield d_X4_endsInTrill_24 rfl
theorem d_X4_endsInTrill_27 : decode (mB M_X4_endsInTrill) 27 = .ok (.iconst 3, 1) := by decide +kernel
theorem r_X4_endsInTrill_27 {x0 : Value} {st : List Value} {h : AH} : Run M_X4_endsInTrill 27 [x0] st h = Run M_X4_endsInTrill 28 [x0] (.int (nI 3) :: st) h := R_iconst d_X4_endsInTrill_27 (by decide)
theorem d_X4_endsInTrill_28 : decode (mB M_X4_endsInTrill) 28 = .ok (.if_icmp .ne 7, 3) := by decide +kernel
theorem r_X4_endsInTrill_28 {x0 : Value} {x y : Int32} {st : List Value} {h : AH} : Run M_X4_endsInTrill 28 [x0] (.int y :: .int x :: st) h = if x = y then Run M_X4_endsInTrill 31 [x0] st h else Run M_X4_endsInTrill 35 [x0] st h := R_icmp_ne d_X4_endsInTrill_28 (by decide)
theorem d_X4_endsInTrill_31 : decode (mB M_X4_endsInTrill) 31 = .ok (.iconst 1, 1) := by decide +kernel
theorem r_X4_endsInTrill_31 {x0 : Value} {st : List Value} {h : AH} : Run M_X4_endsInTrill 31 [x0] st h = Run M_X4_endsInTrill 32 [x0] (.int (nI 1) :: st) h := R_iconst d_X4_endsInTrill_31 (by decide)
theorem d_X4_endsInTrill_32 : decode (mB M_X4_endsInTrill) 32 = .ok (.goto 4, 3) := by decide +kernel
theorem r_X4_endsInTrill_32 {x0 : Value} {st : List Value} {h : AH} : Run M_X4_endsInTrill 32 [x0] st h = Run M_X4_endsInTrill 36 [x0] st h := R_goto d_X4_endsInTrill_32 (by decide)
theorem d_X4_endsInTrill_35 : decode (mB M_X4_endsInTrill) 35 = .ok (.iconst 0, 1) := by decide +kernel
theorem r_X4_endsInTrill_35 {x0 : Value} {st : List Value} {h : AH} : Run M_X4_endsInTrill 35 [x0] st h = Run M_X4_endsInTrill 36 [x0] (.int (nI 0) :: st) h := R_iconst d_X4_endsInTrill_35 (by decide)
theorem d_X4_endsInTrill_36 : decode (mB M_X4_endsInTrill) 36 = .ok (.ireturn, 1) := by decide +kernel
theorem r_X4_endsInTrill_36_0 {x0 : Value} {h : AH} : Run M_X4_endsInTrill 36 [x0] [.int (nI 0)] h = some (h, some (.int (nI 0))) := R_ireturn d_X4_endsInTrill_36 rfl (by decide)
theorem r_X4_endsInTrill_36_1 {x0 : Value} {h : AH} : Run M_X4_endsInTrill 36 [x0] [.int (nI 1)] h = some (h, some (.int (nI 1))) := R_ireturn d_X4_endsInTrill_36 rfl (by decide)
theorem r_X4_endsInTrill_36_c {x0 : Value} {c : Prop} [Decidable c] {h : AH} : Run M_X4_endsInTrill 36 [x0] [.int (bI c)] h = some (h, some (.int (bI c))) := R_ireturn d_X4_endsInTrill_36 rfl narrow_bI
theorem d_X4_lagSpread_0 : decode (mB M_X4_lagSpread) 0 = .ok (.aload_n 0, 1) := by decide +kernel
theorem r_X4_lagSpread_0 {x1 x2 x3 x4 x5 x6 x7 : Value} {a : Nat} {st : List Value} {h : AH} : Run M_X4_lagSpread 0 [.ref a, x1, x2, x3, x4, x5, x6, x7] st h = Run M_X4_lagSpread 1 [.ref a, x1, x2, x3, x4, x5, x6, x7] (.ref a :: st) h := R_aload_n d_X4_lagSpread_0 rfl
theorem d_X4_lagSpread_1 : decode (mB M_X4_lagSpread) 1 = .ok (.getfield 39, 3) := by decide +kernel
theorem r_X4_lagSpread_1 {x0 x1 x2 x3 x4 x5 x6 x7 : Value} {a : Nat} {st : List Value} {h : AH} : Run M_X4_lagSpread 1 [x0, x1, x2, x3, x4, x5, x6, x7] (.ref a :: st) h = if (gF h a 4 2).isSome = true then Run M_X4_lagSpread 4 [x0, x1, x2, x3, x4, x5, x6, x7] ((gF h a 4 2).getD .null :: st) h else none := R_getfield d_X4_lagSpread_1 rfl
theorem d_X4_lagSpread_4 : decode (mB M_X4_lagSpread) 4 = .ok (.iconst 2, 1) := by decide +kernel
theorem r_X4_lagSpread_4 {x0 x1 x2 x3 x4 x5 x6 x7 : Value} {st : List Value} {h : AH} : Run M_X4_lagSpread 4 [x0, x1, x2, x3, x4, x5, x6, x7] st h = Run M_X4_lagSpread 5 [x0, x1, x2, x3, x4, x5, x6, x7] (.int (nI 2) :: st) h := R_iconst d_X4_lagSpread_4 (by decide)
theorem d_X4_lagSpread_5 : decode (mB M_X4_lagSpread) 5 = .ok (.if_icmp .ge 5, 3) := by decide +kernel
theorem r_X4_lagSpread_5 {x0 x1 x2 x3 x4 x5 x6 x7 : Value} {x y : Int32} {st : List Value} {h : AH} : Run M_X4_lagSpread 5 [x0, x1, x2, x3, x4, x5, x6, x7] (.int y :: .int x :: st) h = if y ≤ x then Run M_X4_lagSpread 10 [x0, x1, x2, x3, x4, x5, x6, x7] st h else Run M_X4_lagSpread 8 [x0, x1, x2, x3, x4, x5, x6, x7] st h := R_icmp_ge d_X4_lagSpread_5 (by decide)
theorem d_X4_lagSpread_8 : decode (mB M_X4_lagSpread) 8 = .ok (.iconst 0, 1) := by decide +kernel
theorem r_X4_lagSpread_8 {x0 x1 x2 x3 x4 x5 x6 x7 : Value} {st : List Value} {h : AH} : Run M_X4_lagSpread 8 [x0, x1, x2, x3, x4, x5, x6, x7] st h = Run M_X4_lagSpread 9 [x0, x1, x2, x3, x4, x5, x6, x7] (.int (nI 0) :: st) h := R_iconst d_X4_lagSpread_8 (by decide)
theorem d_X4_lagSpread_9 : decode (mB M_X4_lagSpread) 9 = .ok (.ireturn, 1) := by decide +kernel
theorem r_X4_lagSpread_9 {x0 x1 x2 x3 x4 x5 x6 x7 : Value} {v : Int32} {h : AH} : Run M_X4_lagSpread 9 [x0, x1, x2, x3, x4, x5, x6, x7] [.int v] h = some (h, some (.int v)) := R_ireturn d_X4_lagSpread_9 rfl rfl
theorem d_X4_lagSpread_10 : decode (mB M_X4_lagSpread) 10 = .ok (.bipush 30, 2) := by decide +kernel
theorem r_X4_lagSpread_10 {x0 x1 x2 x3 x4 x5 x6 x7 : Value} {st : List Value} {h : AH} : Run M_X4_lagSpread 10 [x0, x1, x2, x3, x4, x5, x6, x7] st h = Run M_X4_lagSpread 12 [x0, x1, x2, x3, x4, x5, x6, x7] (.int (nI 30) :: st) h := R_bipush d_X4_lagSpread_10 (by decide)
theorem d_X4_lagSpread_12 : decode (mB M_X4_lagSpread) 12 = .ok (.istore_n 3, 1) := by decide +kernel
theorem r_X4_lagSpread_12 {x0 x1 x2 x3 x4 x5 x6 x7 : Value} {a : Int32} {st : List Value} {h : AH} (hc : x2.category = 1) : Run M_X4_lagSpread 12 [x0, x1, x2, x3, x4, x5, x6, x7] (.int a :: st) h = Run M_X4_lagSpread 13 [x0, x1, x2, .int a, x4, x5, x6, x7] st h := R_istore_n d_X4_lagSpread_12 (Nat.lt_of_lt_of_le (by decide : 3 < 8) (Nat.le_refl 8)) (catP_of rfl hc)
theorem d_X4_lagSpread_13 : decode (mB M_X4_lagSpread) 13 = .ok (.iconst 0, 1) := by decide +kernel
theorem r_X4_lagSpread_13 {x0 x1 x2 x3 x4 x5 x6 x7 : Value} {st : List Value} {h : AH} : Run M_X4_lagSpread 13 [x0, x1, x2, x3, x4, x5, x6, x7] st h = Run M_X4_lagSpread 14 [x0, x1, x2, x3, x4, x5, x6, x7] (.int (nI 0) :: st) h := R_iconst d_X4_lagSpread_13 (by decide)
theorem d_X4_lagSpread_14 : decode (mB M_X4_lagSpread) 14 = .ok (.istore 4, 2) := by decide +kernel
theorem r_X4_lagSpread_14 {x0 x1 x2 x3 x4 x5 x6 x7 : Value} {a : Int32} {st : List Value} {h : AH} (hc : x3.category = 1) : Run M_X4_lagSpread 14 [x0, x1, x2, x3, x4, x5, x6, x7] (.int a :: st) h = Run M_X4_lagSpread 16 [x0, x1, x2, x3, .int a, x5, x6, x7] st h := R_istore d_X4_lagSpread_14 (Nat.lt_of_lt_of_le (by decide : 4 < 8) (Nat.le_refl 8)) (catP_of rfl hc)
theorem d_X4_lagSpread_16 : decode (mB M_X4_lagSpread) 16 = .ok (.iconst 0, 1) := by decide +kernel
theorem r_X4_lagSpread_16 {x0 x1 x2 x3 x4 x5 x6 x7 : Value} {st : List Value} {h : AH} : Run M_X4_lagSpread 16 [x0, x1, x2, x3, x4, x5, x6, x7] st h = Run M_X4_lagSpread 17 [x0, x1, x2, x3, x4, x5, x6, x7] (.int (nI 0) :: st) h := R_iconst d_X4_lagSpread_16 (by decide)
theorem d_X4_lagSpread_17 : decode (mB M_X4_lagSpread) 17 = .ok (.istore 5, 2) := by decide +kernel
theorem r_X4_lagSpread_17 {x0 x1 x2 x3 x4 x5 x6 x7 : Value} {a : Int32} {st : List Value} {h : AH} (hc : x4.category = 1) : Run M_X4_lagSpread 17 [x0, x1, x2, x3, x4, x5, x6, x7] (.int a :: st) h = Run M_X4_lagSpread 19 [x0, x1, x2, x3, x4, .int a, x6, x7] st h := R_istore d_X4_lagSpread_17 (Nat.lt_of_lt_of_le (by decide : 5 < 8) (Nat.le_refl 8)) (catP_of rfl hc)
theorem d_X4_lagSpread_19 : decode (mB M_X4_lagSpread) 19 = .ok (.iload 5, 2) := by decide +kernel
theorem r_X4_lagSpread_19 {x0 x1 x2 x3 x4 x6 x7 : Value} {a : Int32} {st : List Value} {h : AH} : Run M_X4_lagSpread 19 [x0, x1, x2, x3, x4, .int a, x6, x7] st h = Run M_X4_lagSpread 21 [x0, x1, x2, x3, x4, .int a, x6, x7] (.int a :: st) h := R_iload d_X4_lagSpread_19 rfl
theorem d_X4_lagSpread_21 : decode (mB M_X4_lagSpread) 21 = .ok (.aload_n 0, 1) := by decide +kernel
theorem r_X4_lagSpread_21 {x1 x2 x3 x4 x5 x6 x7 : Value} {a : Nat} {st : List Value} {h : AH} : Run M_X4_lagSpread 21 [.ref a, x1, x2, x3, x4, x5, x6, x7] st h = Run M_X4_lagSpread 22 [.ref a, x1, x2, x3, x4, x5, x6, x7] (.ref a :: st) h := R_aload_n d_X4_lagSpread_21 rfl
theorem d_X4_lagSpread_22 : decode (mB M_X4_lagSpread) 22 = .ok (.getfield 39, 3) := by decide +kernel
theorem r_X4_lagSpread_22 {x0 x1 x2 x3 x4 x5 x6 x7 : Value} {a : Nat} {st : List Value} {h : AH} : Run M_X4_lagSpread 22 [x0, x1, x2, x3, x4, x5, x6, x7] (.ref a :: st) h = if (gF h a 4 2).isSome = true then Run M_X4_lagSpread 25 [x0, x1, x2, x3, x4, x5, x6, x7] ((gF h a 4 2).getD .null :: st) h else none := R_getfield d_X4_lagSpread_22 rfl
theorem d_X4_lagSpread_25 : decode (mB M_X4_lagSpread) 25 = .ok (.if_icmp .ge 78, 3) := by decide +kernel
theorem r_X4_lagSpread_25 {x0 x1 x2 x3 x4 x5 x6 x7 : Value} {x y : Int32} {st : List Value} {h : AH} : Run M_X4_lagSpread 25 [x0, x1, x2, x3, x4, x5, x6, x7] (.int y :: .int x :: st) h = if y ≤ x then Run M_X4_lagSpread 103 [x0, x1, x2, x3, x4, x5, x6, x7] st h else Run M_X4_lagSpread 28 [x0, x1, x2, x3, x4, x5, x6, x7] st h := R_icmp_ge d_X4_lagSpread_25 (by decide)
theorem d_X4_lagSpread_28 : decode (mB M_X4_lagSpread) 28 = .ok (.iload_n 1, 1) := by decide +kernel
theorem r_X4_lagSpread_28 {x0 x2 x3 x4 x5 x6 x7 : Value} {a : Int32} {st : List Value} {h : AH} : Run M_X4_lagSpread 28 [x0, .int a, x2, x3, x4, x5, x6, x7] st h = Run M_X4_lagSpread 29 [x0, .int a, x2, x3, x4, x5, x6, x7] (.int a :: st) h := R_iload_n d_X4_lagSpread_28 rfl
theorem d_X4_lagSpread_29 : decode (mB M_X4_lagSpread) 29 = .ok (.iload 5, 2) := by decide +kernel
theorem r_X4_lagSpread_29 {x0 x1 x2 x3 x4 x6 x7 : Value} {a : Int32} {st : List Value} {h : AH} : Run M_X4_lagSpread 29 [x0, x1, x2, x3, x4, .int a, x6, x7] st h = Run M_X4_lagSpread 31 [x0, x1, x2, x3, x4, .int a, x6, x7] (.int a :: st) h := R_iload d_X4_lagSpread_29 rfl
theorem d_X4_lagSpread_31 : decode (mB M_X4_lagSpread) 31 = .ok (.ishr, 1) := by decide +kernel
theorem r_X4_lagSpread_31 {x0 x1 x2 x3 x4 x5 x6 x7 : Value} {x y : Int32} {st : List Value} {h : AH} : Run M_X4_lagSpread 31 [x0, x1, x2, x3, x4, x5, x6, x7] (.int y :: .int x :: st) h = Run M_X4_lagSpread 32 [x0, x1, x2, x3, x4, x5, x6, x7] (.int (x >>> (y &&& 31)) :: st) h := R_ishr d_X4_lagSpread_31
theorem d_X4_lagSpread_32 : decode (mB M_X4_lagSpread) 32 = .ok (.iconst 1, 1) := by decide +kernel
theorem r_X4_lagSpread_32 {x0 x1 x2 x3 x4 x5 x6 x7 : Value} {st : List Value} {h : AH} : Run M_X4_lagSpread 32 [x0, x1, x2, x3, x4, x5, x6, x7] st h = Run M_X4_lagSpread 33 [x0, x1, x2, x3, x4, x5, x6, x7] (.int (nI 1) :: st) h := R_iconst d_X4_lagSpread_32 (by decide)
theorem d_X4_lagSpread_33 : decode (mB M_X4_lagSpread) 33 = .ok (.iand, 1) := by decide +kernel
theorem r_X4_lagSpread_33 {x0 x1 x2 x3 x4 x5 x6 x7 : Value} {x y : Int32} {st : List Value} {h : AH} : Run M_X4_lagSpread 33 [x0, x1, x2, x3, x4, x5, x6, x7] (.int y :: .int x :: st) h = Run M_X4_lagSpread 34 [x0, x1, x2, x3, x4, x5, x6, x7] (.int (x &&& y) :: st) h := R_iand d_X4_lagSpread_33
theorem d_X4_lagSpread_34 : decode (mB M_X4_lagSpread) 34 = .ok (.iconst 1, 1) := by decide +kernel
theorem r_X4_lagSpread_34 {x0 x1 x2 x3 x4 x5 x6 x7 : Value} {st : List Value} {h : AH} : Run M_X4_lagSpread 34 [x0, x1, x2, x3, x4, x5, x6, x7] st h = Run M_X4_lagSpread 35 [x0, x1, x2, x3, x4, x5, x6, x7] (.int (nI 1) :: st) h := R_iconst d_X4_lagSpread_34 (by decide)
theorem d_X4_lagSpread_35 : decode (mB M_X4_lagSpread) 35 = .ok (.if_icmp .ne 16, 3) := by decide +kernel
theorem r_X4_lagSpread_35 {x0 x1 x2 x3 x4 x5 x6 x7 : Value} {x y : Int32} {st : List Value} {h : AH} : Run M_X4_lagSpread 35 [x0, x1, x2, x3, x4, x5, x6, x7] (.int y :: .int x :: st) h = if x = y then Run M_X4_lagSpread 38 [x0, x1, x2, x3, x4, x5, x6, x7] st h else Run M_X4_lagSpread 51 [x0, x1, x2, x3, x4, x5, x6, x7] st h := R_icmp_ne d_X4_lagSpread_35 (by decide)
theorem d_X4_lagSpread_38 : decode (mB M_X4_lagSpread) 38 = .ok (.aload_n 0, 1) := by decide +kernel
theorem r_X4_lagSpread_38 {x1 x2 x3 x4 x5 x6 x7 : Value} {a : Nat} {st : List Value} {h : AH} : Run M_X4_lagSpread 38 [.ref a, x1, x2, x3, x4, x5, x6, x7] st h = Run M_X4_lagSpread 39 [.ref a, x1, x2, x3, x4, x5, x6, x7] (.ref a :: st) h := R_aload_n d_X4_lagSpread_38 rfl
theorem d_X4_lagSpread_39 : decode (mB M_X4_lagSpread) 39 = .ok (.getfield 27, 3) := by decide +kernel
theorem r_X4_lagSpread_39 {x0 x1 x2 x3 x4 x5 x6 x7 : Value} {a : Nat} {st : List Value} {h : AH} : Run M_X4_lagSpread 39 [x0, x1, x2, x3, x4, x5, x6, x7] (.ref a :: st) h = if (gF h a 4 6).isSome = true then Run M_X4_lagSpread 42 [x0, x1, x2, x3, x4, x5, x6, x7] ((gF h a 4 6).getD .null :: st) h else none := R_getfield d_X4_lagSpread_39 rfl
theorem d_X4_lagSpread_42 : decode (mB M_X4_lagSpread) 42 = .ok (.getfield 52, 3) := by decide +kernel
theorem r_X4_lagSpread_42 {x0 x1 x2 x3 x4 x5 x6 x7 : Value} {a : Nat} {st : List Value} {h : AH} : Run M_X4_lagSpread 42 [x0, x1, x2, x3, x4, x5, x6, x7] (.ref a :: st) h = if (gF h a 0 6).isSome = true then Run M_X4_lagSpread 45 [x0, x1, x2, x3, x4, x5, x6, x7] ((gF h a 0 6).getD .null :: st) h else none := R_getfield d_X4_lagSpread_42 rfl
theorem d_X4_lagSpread_45 : decode (mB M_X4_lagSpread) 45 = .ok (.iload 5, 2) := by decide +kernel
theorem r_X4_lagSpread_45 {x0 x1 x2 x3 x4 x6 x7 : Value} {a : Int32} {st : List Value} {h : AH} : Run M_X4_lagSpread 45 [x0, x1, x2, x3, x4, .int a, x6, x7] st h = Run M_X4_lagSpread 47 [x0, x1, x2, x3, x4, .int a, x6, x7] (.int a :: st) h := R_iload d_X4_lagSpread_45 rfl
theorem d_X4_lagSpread_47 : decode (mB M_X4_lagSpread) 47 = .ok (.iaload, 1) := by decide +kernel
theorem r_X4_lagSpread_47 {x0 x1 x2 x3 x4 x5 x6 x7 : Value} {a : Nat} {i : Int32} {st : List Value} {h : AH} : Run M_X4_lagSpread 47 [x0, x1, x2, x3, x4, x5, x6, x7] (.int i :: .ref a :: st) h = if (gI 0 h a i).isSome = true then Run M_X4_lagSpread 48 [x0, x1, x2, x3, x4, x5, x6, x7] (.int ((gI 0 h a i).getD 0) :: st) h else none := R_iaload d_X4_lagSpread_47
theorem d_X4_lagSpread_48 : decode (mB M_X4_lagSpread) 48 = .ok (.goto 13, 3) := by decide +kernel
theorem r_X4_lagSpread_48 {x0 x1 x2 x3 x4 x5 x6 x7 : Value} {st : List Value} {h : AH} : Run M_X4_lagSpread 48 [x0, x1, x2, x3, x4, x5, x6, x7] st h = Run M_X4_lagSpread 61 [x0, x1, x2, x3, x4, x5, x6, x7] st h := R_goto d_X4_lagSpread_48 (by decide)
theorem d_X4_lagSpread_51 : decode (mB M_X4_lagSpread) 51 = .ok (.aload_n 0, 1) := by decide +kernel
theorem r_X4_lagSpread_51 {x1 x2 x3 x4 x5 x6 x7 : Value} {a : Nat} {st : List Value} {h : AH} : Run M_X4_lagSpread 51 [.ref a, x1, x2, x3, x4, x5, x6, x7] st h = Run M_X4_lagSpread 52 [.ref a, x1, x2, x3, x4, x5, x6, x7] (.ref a :: st) h := R_aload_n d_X4_lagSpread_51 rfl
theorem d_X4_lagSpread_52 : decode (mB M_X4_lagSpread) 52 = .ok (.getfield 27, 3) := by decide +kernel
theorem r_X4_lagSpread_52 {x0 x1 x2 x3 x4 x5 x6 x7 : Value} {a : Nat} {st : List Value} {h : AH} : Run M_X4_lagSpread 52 [x0, x1, x2, x3, x4, x5, x6, x7] (.ref a :: st) h = if (gF h a 4 6).isSome = true then Run M_X4_lagSpread 55 [x0, x1, x2, x3, x4, x5, x6, x7] ((gF h a 4 6).getD .null :: st) h else none := R_getfield d_X4_lagSpread_52 rfl
theorem d_X4_lagSpread_55 : decode (mB M_X4_lagSpread) 55 = .ok (.getfield 55, 3) := by decide +kernel
theorem r_X4_lagSpread_55 {x0 x1 x2 x3 x4 x5 x6 x7 : Value} {a : Nat} {st : List Value} {h : AH} : Run M_X4_lagSpread 55 [x0, x1, x2, x3, x4, x5, x6, x7] (.ref a :: st) h = if (gF h a 0 5).isSome = true then Run M_X4_lagSpread 58 [x0, x1, x2, x3, x4, x5, x6, x7] ((gF h a 0 5).getD .null :: st) h else none := R_getfield d_X4_lagSpread_55 rfl
theorem d_X4_lagSpread_58 : decode (mB M_X4_lagSpread) 58 = .ok (.iload 5, 2) := by decide +kernel
theorem r_X4_lagSpread_58 {x0 x1 x2 x3 x4 x6 x7 : Value} {a : Int32} {st : List Value} {h : AH} : Run M_X4_lagSpread 58 [x0, x1, x2, x3, x4, .int a, x6, x7] st h = Run M_X4_lagSpread 60 [x0, x1, x2, x3, x4, .int a, x6, x7] (.int a :: st) h := R_iload d_X4_lagSpread_58 rfl
theorem d_X4_lagSpread_60 : decode (mB M_X4_lagSpread) 60 = .ok (.iaload, 1) := by decide +kernel
theorem r_X4_lagSpread_60 {x0 x1 x2 x3 x4 x5 x6 x7 : Value} {a : Nat} {i : Int32} {st : List Value} {h : AH} : Run M_X4_lagSpread 60 [x0, x1, x2, x3, x4, x5, x6, x7] (.int i :: .ref a :: st) h = if (gI 0 h a i).isSome = true then Run M_X4_lagSpread 61 [x0, x1, x2, x3, x4, x5, x6, x7] (.int ((gI 0 h a i).getD 0) :: st) h else none := R_iaload d_X4_lagSpread_60
theorem d_X4_lagSpread_61 : decode (mB M_X4_lagSpread) 61 = .ok (.istore 6, 2) := by decide +kernel
theorem r_X4_lagSpread_61 {x0 x1 x2 x3 x4 x5 x6 x7 : Value} {a : Int32} {st : List Value} {h : AH} (hc : x5.category = 1) : Run M_X4_lagSpread 61 [x0, x1, x2, x3, x4, x5, x6, x7] (.int a :: st) h = Run M_X4_lagSpread 63 [x0, x1, x2, x3, x4, x5, .int a, x7] st h := R_istore d_X4_lagSpread_61 (Nat.lt_of_lt_of_le (by decide : 6 < 8) (Nat.le_refl 8)) (catP_of rfl hc)
theorem d_X4_lagSpread_63 : decode (mB M_X4_lagSpread) 63 = .ok (.iload_n 2, 1) := by decide +kernel
theorem r_X4_lagSpread_63 {x0 x1 x3 x4 x5 x6 x7 : Value} {a : Int32} {st : List Value} {h : AH} : Run M_X4_lagSpread 63 [x0, x1, .int a, x3, x4, x5, x6, x7] st h = Run M_X4_lagSpread 64 [x0, x1, .int a, x3, x4, x5, x6, x7] (.int a :: st) h := R_iload_n d_X4_lagSpread_63 rfl
theorem d_X4_lagSpread_64 : decode (mB M_X4_lagSpread) 64 = .ok (.iload 5, 2) := by decide +kernel
theorem r_X4_lagSpread_64 {x0 x1 x2 x3 x4 x6 x7 : Value} {a : Int32} {st : List Value} {h : AH} : Run M_X4_lagSpread 64 [x0, x1, x2, x3, x4, .int a, x6, x7] st h = Run M_X4_lagSpread 66 [x0, x1, x2, x3, x4, .int a, x6, x7] (.int a :: st) h := R_iload d_X4_lagSpread_64 rfl
theorem d_X4_lagSpread_66 : decode (mB M_X4_lagSpread) 66 = .ok (.ishr, 1) := by decide +kernel
theorem r_X4_lagSpread_66 {x0 x1 x2 x3 x4 x5 x6 x7 : Value} {x y : Int32} {st : List Value} {h : AH} : Run M_X4_lagSpread 66 [x0, x1, x2, x3, x4, x5, x6, x7] (.int y :: .int x :: st) h = Run M_X4_lagSpread 67 [x0, x1, x2, x3, x4, x5, x6, x7] (.int (x >>> (y &&& 31)) :: st) h := R_ishr d_X4_lagSpread_66
theorem d_X4_lagSpread_67 : decode (mB M_X4_lagSpread) 67 = .ok (.iconst 1, 1) := by decide +kernel
theorem r_X4_lagSpread_67 {x0 x1 x2 x3 x4 x5 x6 x7 : Value} {st : List Value} {h : AH} : Run M_X4_lagSpread 67 [x0, x1, x2, x3, x4, x5, x6, x7] st h = Run M_X4_lagSpread 68 [x0, x1, x2, x3, x4, x5, x6, x7] (.int (nI 1) :: st) h := R_iconst d_X4_lagSpread_67 (by decide)
theorem d_X4_lagSpread_68 : decode (mB M_X4_lagSpread) 68 = .ok (.iand, 1) := by decide +kernel
theorem r_X4_lagSpread_68 {x0 x1 x2 x3 x4 x5 x6 x7 : Value} {x y : Int32} {st : List Value} {h : AH} : Run M_X4_lagSpread 68 [x0, x1, x2, x3, x4, x5, x6, x7] (.int y :: .int x :: st) h = Run M_X4_lagSpread 69 [x0, x1, x2, x3, x4, x5, x6, x7] (.int (x &&& y) :: st) h := R_iand d_X4_lagSpread_68
theorem d_X4_lagSpread_69 : decode (mB M_X4_lagSpread) 69 = .ok (.iconst 1, 1) := by decide +kernel
theorem r_X4_lagSpread_69 {x0 x1 x2 x3 x4 x5 x6 x7 : Value} {st : List Value} {h : AH} : Run M_X4_lagSpread 69 [x0, x1, x2, x3, x4, x5, x6, x7] st h = Run M_X4_lagSpread 70 [x0, x1, x2, x3, x4, x5, x6, x7] (.int (nI 1) :: st) h := R_iconst d_X4_lagSpread_69 (by decide)
theorem d_X4_lagSpread_70 : decode (mB M_X4_lagSpread) 70 = .ok (.if_icmp .ne 7, 3) := by decide +kernel
theorem r_X4_lagSpread_70 {x0 x1 x2 x3 x4 x5 x6 x7 : Value} {x y : Int32} {st : List Value} {h : AH} : Run M_X4_lagSpread 70 [x0, x1, x2, x3, x4, x5, x6, x7] (.int y :: .int x :: st) h = if x = y then Run M_X4_lagSpread 73 [x0, x1, x2, x3, x4, x5, x6, x7] st h else Run M_X4_lagSpread 77 [x0, x1, x2, x3, x4, x5, x6, x7] st h := R_icmp_ne d_X4_lagSpread_70 (by decide)
theorem d_X4_lagSpread_73 : decode (mB M_X4_lagSpread) 73 = .ok (.iconst 0, 1) := by decide +kernel
theorem r_X4_lagSpread_73 {x0 x1 x2 x3 x4 x5 x6 x7 : Value} {st : List Value} {h : AH} : Run M_X4_lagSpread 73 [x0, x1, x2, x3, x4, x5, x6, x7] st h = Run M_X4_lagSpread 74 [x0, x1, x2, x3, x4, x5, x6, x7] (.int (nI 0) :: st) h := R_iconst d_X4_lagSpread_73 (by decide)
theorem d_X4_lagSpread_74 : decode (mB M_X4_lagSpread) 74 = .ok (.goto 5, 3) := by decide +kernel
theorem r_X4_lagSpread_74 {x0 x1 x2 x3 x4 x5 x6 x7 : Value} {st : List Value} {h : AH} : Run M_X4_lagSpread 74 [x0, x1, x2, x3, x4, x5, x6, x7] st h = Run M_X4_lagSpread 79 [x0, x1, x2, x3, x4, x5, x6, x7] st h := R_goto d_X4_lagSpread_74 (by decide)
theorem d_X4_lagSpread_77 : decode (mB M_X4_lagSpread) 77 = .ok (.iload 6, 2) := by decide +kernel
theorem r_X4_lagSpread_77 {x0 x1 x2 x3 x4 x5 x7 : Value} {a : Int32} {st : List Value} {h : AH} : Run M_X4_lagSpread 77 [x0, x1, x2, x3, x4, x5, .int a, x7] st h = Run M_X4_lagSpread 79 [x0, x1, x2, x3, x4, x5, .int a, x7] (.int a :: st) h := R_iload d_X4_lagSpread_77 rfl
theorem d_X4_lagSpread_79 : decode (mB M_X4_lagSpread) 79 = .ok (.istore 7, 2) := by decide +kernel
theorem r_X4_lagSpread_79 {x0 x1 x2 x3 x4 x5 x6 x7 : Value} {a : Int32} {st : List Value} {h : AH} (hc : x6.category = 1) : Run M_X4_lagSpread 79 [x0, x1, x2, x3, x4, x5, x6, x7] (.int a :: st) h = Run M_X4_lagSpread 81 [x0, x1, x2, x3, x4, x5, x6, .int a] st h := R_istore d_X4_lagSpread_79 (Nat.lt_of_lt_of_le (by decide : 7 < 8) (Nat.le_refl 8)) (catP_of rfl hc)
theorem d_X4_lagSpread_81 : decode (mB M_X4_lagSpread) 81 = .ok (.iload_n 3, 1) := by decide +kernel
theorem r_X4_lagSpread_81 {x0 x1 x2 x4 x5 x6 x7 : Value} {a : Int32} {st : List Value} {h : AH} : Run M_X4_lagSpread 81 [x0, x1, x2, .int a, x4, x5, x6, x7] st h = Run M_X4_lagSpread 82 [x0, x1, x2, .int a, x4, x5, x6, x7] (.int a :: st) h := R_iload_n d_X4_lagSpread_81 rfl
theorem d_X4_lagSpread_82 : decode (mB M_X4_lagSpread) 82 = .ok (.iload 7, 2) := by decide +kernel
theorem r_X4_lagSpread_82 {x0 x1 x2 x3 x4 x5 x6 : Value} {a : Int32} {st : List Value} {h : AH} : Run M_X4_lagSpread 82 [x0, x1, x2, x3, x4, x5, x6, .int a] st h = Run M_X4_lagSpread 84 [x0, x1, x2, x3, x4, x5, x6, .int a] (.int a :: st) h := R_iload d_X4_lagSpread_82 rfl
theorem d_X4_lagSpread_84 : decode (mB M_X4_lagSpread) 84 = .ok (.invokestatic 58, 3) := by decide +kernel
theorem r_X4_lagSpread_84 {x0 x1 x2 x3 x4 x5 x6 x7 : Value} {p0 : Int32} {p1 : Int32} {h : AH} : Run M_X4_lagSpread 84 [x0, x1, x2, x3, x4, x5, x6, x7] (.int p1 :: .int p0 :: []) h = if (Call M_J9_min_7cf53 h [.int p0, .int p1]).isSome = true then Run M_X4_lagSpread 87 [x0, x1, x2, x3, x4, x5, x6, x7] (rL (Call M_J9_min_7cf53 h [.int p0, .int p1]) ++ []) (cH (Call M_J9_min_7cf53 h [.int p0, .int p1])) else none := R_stat d_X4_lagSpread_84 rfl rfl rfl rfl (Nat.le_of_ble_eq_true rfl)
theorem d_X4_lagSpread_87 : decode (mB M_X4_lagSpread) 87 = .ok (.istore_n 3, 1) := by decide +kernel
theorem r_X4_lagSpread_87 {x0 x1 x2 x3 x4 x5 x6 x7 : Value} {a : Int32} {st : List Value} {h : AH} (hc : x2.category = 1) : Run M_X4_lagSpread 87 [x0, x1, x2, x3, x4, x5, x6, x7] (.int a :: st) h = Run M_X4_lagSpread 88 [x0, x1, x2, .int a, x4, x5, x6, x7] st h := R_istore_n d_X4_lagSpread_87 (Nat.lt_of_lt_of_le (by decide : 3 < 8) (Nat.le_refl 8)) (catP_of rfl hc)
theorem d_X4_lagSpread_88 : decode (mB M_X4_lagSpread) 88 = .ok (.iload 4, 2) := by decide +kernel
theorem r_X4_lagSpread_88 {x0 x1 x2 x3 x5 x6 x7 : Value} {a : Int32} {st : List Value} {h : AH} : Run M_X4_lagSpread 88 [x0, x1, x2, x3, .int a, x5, x6, x7] st h = Run M_X4_lagSpread 90 [x0, x1, x2, x3, .int a, x5, x6, x7] (.int a :: st) h := R_iload d_X4_lagSpread_88 rfl
theorem d_X4_lagSpread_90 : decode (mB M_X4_lagSpread) 90 = .ok (.iload 7, 2) := by decide +kernel
theorem r_X4_lagSpread_90 {x0 x1 x2 x3 x4 x5 x6 : Value} {a : Int32} {st : List Value} {h : AH} : Run M_X4_lagSpread 90 [x0, x1, x2, x3, x4, x5, x6, .int a] st h = Run M_X4_lagSpread 92 [x0, x1, x2, x3, x4, x5, x6, .int a] (.int a :: st) h := R_iload d_X4_lagSpread_90 rfl
theorem d_X4_lagSpread_92 : decode (mB M_X4_lagSpread) 92 = .ok (.invokestatic 64, 3) := by decide +kernel
theorem r_X4_lagSpread_92 {x0 x1 x2 x3 x4 x5 x6 x7 : Value} {p0 : Int32} {p1 : Int32} {h : AH} : Run M_X4_lagSpread 92 [x0, x1, x2, x3, x4, x5, x6, x7] (.int p1 :: .int p0 :: []) h = if (Call M_J9_max_7cf53 h [.int p0, .int p1]).isSome = true then Run M_X4_lagSpread 95 [x0, x1, x2, x3, x4, x5, x6, x7] (rL (Call M_J9_max_7cf53 h [.int p0, .int p1]) ++ []) (cH (Call M_J9_max_7cf53 h [.int p0, .int p1])) else none := R_stat d_X4_lagSpread_92 rfl rfl rfl rfl (Nat.le_of_ble_eq_true rfl)
theorem d_X4_lagSpread_95 : decode (mB M_X4_lagSpread) 95 = .ok (.istore 4, 2) := by decide +kernel
theorem r_X4_lagSpread_95 {x0 x1 x2 x3 x4 x5 x6 x7 : Value} {a : Int32} {st : List Value} {h : AH} (hc : x3.category = 1) : Run M_X4_lagSpread 95 [x0, x1, x2, x3, x4, x5, x6, x7] (.int a :: st) h = Run M_X4_lagSpread 97 [x0, x1, x2, x3, .int a, x5, x6, x7] st h := R_istore d_X4_lagSpread_95 (Nat.lt_of_lt_of_le (by decide : 4 < 8) (Nat.le_refl 8)) (catP_of rfl hc)
theorem d_X4_lagSpread_97 : decode (mB M_X4_lagSpread) 97 = .ok (.iinc 5 1, 3) := by decide +kernel
theorem r_X4_lagSpread_97 {x0 x1 x2 x3 x4 x6 x7 : Value} {a : Int32} {st : List Value} {h : AH} (hc : x4.category = 1) : Run M_X4_lagSpread 97 [x0, x1, x2, x3, x4, .int a, x6, x7] st h = Run M_X4_lagSpread 100 [x0, x1, x2, x3, x4, .int (a + (nI 1)), x6, x7] st h := R_iinc d_X4_lagSpread_97 (by decide) rfl (catP_of rfl hc)
theorem d_X4_lagSpread_100 : decode (mB M_X4_lagSpread) 100 = .ok (.goto (-81), 3) := by decide +kernel
theorem r_X4_lagSpread_100 {x0 x1 x2 x3 x4 x5 x6 x7 : Value} {st : List Value} {h : AH} : Run M_X4_lagSpread 100 [x0, x1, x2, x3, x4, x5, x6, x7] st h = Run M_X4_lagSpread 19 [x0, x1, x2, x3, x4, x5, x6, x7] st h := R_goto d_X4_lagSpread_100 (by decide)
theorem d_X4_lagSpread_103 : decode (mB M_X4_lagSpread) 103 = .ok (.iload 4, 2) := by decide +kernel
theorem r_X4_lagSpread_103 {x0 x1 x2 x3 x5 x6 x7 : Value} {a : Int32} {st : List Value} {h : AH} : Run M_X4_lagSpread 103 [x0, x1, x2, x3, .int a, x5, x6, x7] st h = Run M_X4_lagSpread 105 [x0, x1, x2, x3, .int a, x5, x6, x7] (.int a :: st) h := R_iload d_X4_lagSpread_103 rfl
theorem d_X4_lagSpread_105 : decode (mB M_X4_lagSpread) 105 = .ok (.iload_n 3, 1) := by decide +kernel
theorem r_X4_lagSpread_105 {x0 x1 x2 x4 x5 x6 x7 : Value} {a : Int32} {st : List Value} {h : AH} : Run M_X4_lagSpread 105 [x0, x1, x2, .int a, x4, x5, x6, x7] st h = Run M_X4_lagSpread 106 [x0, x1, x2, .int a, x4, x5, x6, x7] (.int a :: st) h := R_iload_n d_X4_lagSpread_105 rfl
theorem d_X4_lagSpread_106 : decode (mB M_X4_lagSpread) 106 = .ok (.isub, 1) := by decide +kernel
theorem r_X4_lagSpread_106 {x0 x1 x2 x3 x4 x5 x6 x7 : Value} {x y : Int32} {st : List Value} {h : AH} : Run M_X4_lagSpread 106 [x0, x1, x2, x3, x4, x5, x6, x7] (.int y :: .int x :: st) h = Run M_X4_lagSpread 107 [x0, x1, x2, x3, x4, x5, x6, x7] (.int (x - y) :: st) h := R_isub d_X4_lagSpread_106
theorem d_X4_lagSpread_107 : decode (mB M_X4_lagSpread) 107 = .ok (.ireturn, 1) := by decide +kernel
theorem r_X4_lagSpread_107 {x0 x1 x2 x3 x4 x5 x6 x7 : Value} {v : Int32} {h : AH} : Run M_X4_lagSpread 107 [x0, x1, x2, x3, x4, x5, x6, x7] [.int v] h = some (h, some (.int v)) := R_ireturn d_X4_lagSpread_107 rfl rfl
theorem d_X5_init_0 : decode (mB M_X5_init) 0 = .ok (.aload_n 0, 1) := by decide +kernel
theorem r_X5_init_0 {a : Nat} {st : List Value} {h : AH} : Run M_X5_init 0 [.ref a] st h = Run M_X5_init 1 [.ref a] (.ref a :: st) h := R_aload_n d_X5_init_0 rfl
theorem d_X5_init_1 : decode (mB M_X5_init) 1 = .ok (.invokespecial 3, 3) := by decide +kernel
theorem r_X5_init_1 {x0 : Value} {a : Nat} {h : AH} : Run M_X5_init 1 [x0] (.ref a :: []) h = Run M_X5_init 4 [x0] [] h := R_obj d_X5_init_1 rfl rfl ⟨by decide, Nat.le_of_ble_eq_true rfl, by decide, by decide⟩
theorem d_X5_init_4 : decode (mB M_X5_init) 4 = .ok (.aload_n 0, 1) := by decide +kernel
theorem r_X5_init_4 {a : Nat} {st : List Value} {h : AH} : Run M_X5_init 4 [.ref a] st h = Run M_X5_init 5 [.ref a] (.ref a :: st) h := R_aload_n d_X5_init_4 rfl
theorem d_X5_init_5 : decode (mB M_X5_init) 5 = .ok (.sipush 421, 3) := by decide +kernel
theorem r_X5_init_5 {x0 : Value} {st : List Value} {h : AH} : Run M_X5_init 5 [x0] st h = Run M_X5_init 8 [x0] (.int (nI 421) :: st) h := R_sipush d_X5_init_5 (by decide)
theorem d_X5_init_8 : decode (mB M_X5_init) 8 = .ok (.newarray .int, 2) := by decide +kernel
theorem r_X5_init_8 {x0 : Value} {st : List Value} {h : AH} : Run M_X5_init 8 [x0] (.int (nI 421) :: st) h = Run M_X5_init 10 [x0] (.ref h.1 :: st) (hnew h 421 (iA 421 (fun _ => 0))) := R_newarray d_X5_init_8 rfl ⟨by decide, by decide⟩ (by decide) rfl
theorem d_X5_init_10 : decode (mB M_X5_init) 10 = .ok (.putfield 9, 3) := by decide +kernel
theorem r_X5_init_10 {x0 : Value} {v : Nat} {a : Nat} {st : List Value} {h : AH} : Run M_X5_init 10 [x0] (.ref v :: .ref a :: st) h = if (pF h a 5 0 (.ref v)).isSome = true then Run M_X5_init 13 [x0] st ((pF h a 5 0 (.ref v)).getD h) else none := R_putfield d_X5_init_10 rfl (okP_arr rfl (Or.inr ⟨rfl, rfl⟩))
theorem d_X5_init_13 : decode (mB M_X5_init) 13 = .ok (.aload_n 0, 1) := by decide +kernel
theorem r_X5_init_13 {a : Nat} {st : List Value} {h : AH} : Run M_X5_init 13 [.ref a] st h = Run M_X5_init 14 [.ref a] (.ref a :: st) h := R_aload_n d_X5_init_13 rfl
theorem d_X5_init_14 : decode (mB M_X5_init) 14 = .ok (.sipush 421, 3) := by decide +kernel
theorem r_X5_init_14 {x0 : Value} {st : List Value} {h : AH} : Run M_X5_init 14 [x0] st h = Run M_X5_init 17 [x0] (.int (nI 421) :: st) h := R_sipush d_X5_init_14 (by decide)
theorem d_X5_init_17 : decode (mB M_X5_init) 17 = .ok (.newarray .int, 2) := by decide +kernel
theorem r_X5_init_17 {x0 : Value} {st : List Value} {h : AH} : Run M_X5_init 17 [x0] (.int (nI 421) :: st) h = Run M_X5_init 19 [x0] (.ref h.1 :: st) (hnew h 421 (iA 421 (fun _ => 0))) := R_newarray d_X5_init_17 rfl ⟨by decide, by decide⟩ (by decide) rfl
theorem d_X5_init_19 : decode (mB M_X5_init) 19 = .ok (.putfield 15, 3) := by decide +kernel
theorem r_X5_init_19 {x0 : Value} {v : Nat} {a : Nat} {st : List Value} {h : AH} : Run M_X5_init 19 [x0] (.ref v :: .ref a :: st) h = if (pF h a 5 1 (.ref v)).isSome = true then Run M_X5_init 22 [x0] st ((pF h a 5 1 (.ref v)).getD h) else none := R_putfield d_X5_init_19 rfl (okP_arr rfl (Or.inr ⟨rfl, rfl⟩))
theorem d_X5_init_22 : decode (mB M_X5_init) 22 = .ok (.aload_n 0, 1) := by decide +kernel
theorem r_X5_init_22 {a : Nat} {st : List Value} {h : AH} : Run M_X5_init 22 [.ref a] st h = Run M_X5_init 23 [.ref a] (.ref a :: st) h := R_aload_n d_X5_init_22 rfl
theorem d_X5_init_23 : decode (mB M_X5_init) 23 = .ok (.sipush 421, 3) := by decide +kernel
theorem r_X5_init_23 {x0 : Value} {st : List Value} {h : AH} : Run M_X5_init 23 [x0] st h = Run M_X5_init 26 [x0] (.int (nI 421) :: st) h := R_sipush d_X5_init_23 (by decide)
theorem d_X5_init_26 : decode (mB M_X5_init) 26 = .ok (.newarray .int, 2) := by decide +kernel
theorem r_X5_init_26 {x0 : Value} {st : List Value} {h : AH} : Run M_X5_init 26 [x0] (.int (nI 421) :: st) h = Run M_X5_init 28 [x0] (.ref h.1 :: st) (hnew h 421 (iA 421 (fun _ => 0))) := R_newarray d_X5_init_26 rfl ⟨by decide, by decide⟩ (by decide) rfl
theorem d_X5_init_28 : decode (mB M_X5_init) 28 = .ok (.putfield 18, 3) := by decide +kernel
theorem r_X5_init_28 {x0 : Value} {v : Nat} {a : Nat} {st : List Value} {h : AH} : Run M_X5_init 28 [x0] (.ref v :: .ref a :: st) h = if (pF h a 5 2 (.ref v)).isSome = true then Run M_X5_init 31 [x0] st ((pF h a 5 2 (.ref v)).getD h) else none := R_putfield d_X5_init_28 rfl (okP_arr rfl (Or.inr ⟨rfl, rfl⟩))
theorem d_X5_init_31 : decode (mB M_X5_init) 31 = .ok (.aload_n 0, 1) := by decide +kernel
theorem r_X5_init_31 {a : Nat} {st : List Value} {h : AH} : Run M_X5_init 31 [.ref a] st h = Run M_X5_init 32 [.ref a] (.ref a :: st) h := R_aload_n d_X5_init_31 rfl
theorem d_X5_init_32 : decode (mB M_X5_init) 32 = .ok (.sipush 421, 3) := by decide +kernel
theorem r_X5_init_32 {x0 : Value} {st : List Value} {h : AH} : Run M_X5_init 32 [x0] st h = Run M_X5_init 35 [x0] (.int (nI 421) :: st) h := R_sipush d_X5_init_32 (by decide)
theorem d_X5_init_35 : decode (mB M_X5_init) 35 = .ok (.newarray .long, 2) := by decide +kernel
theorem r_X5_init_35 {x0 : Value} {st : List Value} {h : AH} : Run M_X5_init 35 [x0] (.int (nI 421) :: st) h = Run M_X5_init 37 [x0] (.ref h.1 :: st) (hnew h 421 (jA 421 (fun _ => 0))) := R_newarray d_X5_init_35 rfl ⟨by decide, by decide⟩ (by decide) rfl
theorem d_X5_init_37 : decode (mB M_X5_init) 37 = .ok (.putfield 21, 3) := by decide +kernel
theorem r_X5_init_37 {x0 : Value} {v : Nat} {a : Nat} {st : List Value} {h : AH} : Run M_X5_init 37 [x0] (.ref v :: .ref a :: st) h = if (pF h a 5 3 (.ref v)).isSome = true then Run M_X5_init 40 [x0] st ((pF h a 5 3 (.ref v)).getD h) else none := R_putfield d_X5_init_37 rfl (okP_arr rfl (Or.inr ⟨rfl, rfl⟩))
theorem d_X5_init_40 : decode (mB M_X5_init) 40 = .ok (.aload_n 0, 1) := by decide +kernel
theorem r_X5_init_40 {a : Nat} {st : List Value} {h : AH} : Run M_X5_init 40 [.ref a] st h = Run M_X5_init 41 [.ref a] (.ref a :: st) h := R_aload_n d_X5_init_40 rfl
theorem d_X5_init_41 : decode (mB M_X5_init) 41 = .ok (.bipush 8, 2) := by decide +kernel
theorem r_X5_init_41 {x0 : Value} {st : List Value} {h : AH} : Run M_X5_init 41 [x0] st h = Run M_X5_init 43 [x0] (.int (nI 8) :: st) h := R_bipush d_X5_init_41 (by decide)
theorem d_X5_init_43 : decode (mB M_X5_init) 43 = .ok (.sipush 421, 3) := by decide +kernel
theorem r_X5_init_43 {x0 : Value} {st : List Value} {h : AH} : Run M_X5_init 43 [x0] st h = Run M_X5_init 46 [x0] (.int (nI 421) :: st) h := R_sipush d_X5_init_43 (by decide)
theorem d_X5_init_46 : decode (mB M_X5_init) 46 = .ok (.multianewarray 25 2, 4) := by decide +kernel
theorem r_X5_init_46 {x0 : Value} {st : List Value} {h : AH} : Run M_X5_init 46 [x0] (.int (nI 421) :: .int (nI 8) :: st) h = Run M_X5_init 50 [x0] (.ref h.1 :: st) (hmul h 8 421) := R_multi d_X5_init_46 ⟨by decide, by decide, by decide, by decide, by decide⟩ (by decide) (by decide)
theorem d_X5_init_50 : decode (mB M_X5_init) 50 = .ok (.putfield 27, 3) := by decide +kernel
theorem r_X5_init_50 {x0 : Value} {v : Nat} {a : Nat} {st : List Value} {h : AH} : Run M_X5_init 50 [x0] (.ref v :: .ref a :: st) h = if (pF h a 5 4 (.ref v)).isSome = true then Run M_X5_init 53 [x0] st ((pF h a 5 4 (.ref v)).getD h) else none := R_putfield d_X5_init_50 rfl (okP_arr rfl (Or.inr ⟨rfl, rfl⟩))
theorem d_X5_init_53 : decode (mB M_X5_init) 53 = .ok (.aload_n 0, 1) := by decide +kernel
theorem r_X5_init_53 {a : Nat} {st : List Value} {h : AH} : Run M_X5_init 53 [.ref a] st h = Run M_X5_init 54 [.ref a] (.ref a :: st) h := R_aload_n d_X5_init_53 rfl
theorem d_X5_init_54 : decode (mB M_X5_init) 54 = .ok (.bipush 8, 2) := by decide +kernel
theorem r_X5_init_54 {x0 : Value} {st : List Value} {h : AH} : Run M_X5_init 54 [x0] st h = Run M_X5_init 56 [x0] (.int (nI 8) :: st) h := R_bipush d_X5_init_54 (by decide)
theorem d_X5_init_56 : decode (mB M_X5_init) 56 = .ok (.newarray .int, 2) := by decide +kernel
theorem r_X5_init_56 {x0 : Value} {st : List Value} {h : AH} : Run M_X5_init 56 [x0] (.int (nI 8) :: st) h = Run M_X5_init 58 [x0] (.ref h.1 :: st) (hnew h 8 (iA 8 (fun _ => 0))) := R_newarray d_X5_init_56 rfl ⟨by decide, by decide⟩ (by decide) rfl
theorem d_X5_init_58 : decode (mB M_X5_init) 58 = .ok (.putfield 30, 3) := by decide +kernel
theorem r_X5_init_58 {x0 : Value} {v : Nat} {a : Nat} {st : List Value} {h : AH} : Run M_X5_init 58 [x0] (.ref v :: .ref a :: st) h = if (pF h a 5 5 (.ref v)).isSome = true then Run M_X5_init 61 [x0] st ((pF h a 5 5 (.ref v)).getD h) else none := R_putfield d_X5_init_58 rfl (okP_arr rfl (Or.inr ⟨rfl, rfl⟩))
theorem d_X5_init_61 : decode (mB M_X5_init) 61 = .ok (.return_, 1) := by decide +kernel
theorem r_X5_init_61 {x0 : Value} {h : AH} : Run M_X5_init 61 [x0] [] h = some (h, none) := R_return d_X5_init_61 rfl
theorem d_X5_forget_0 : decode (mB M_X5_forget) 0 = .ok (.aload_n 0, 1) := by decide +kernel
theorem r_X5_forget_0 {a : Nat} {st : List Value} {h : AH} : Run M_X5_forget 0 [.ref a] st h = Run M_X5_forget 1 [.ref a] (.ref a :: st) h := R_aload_n d_X5_forget_0 rfl
theorem d_X5_forget_1 : decode (mB M_X5_forget) 1 = .ok (.iconst 0, 1) := by decide +kernel
theorem r_X5_forget_1 {x0 : Value} {st : List Value} {h : AH} : Run M_X5_forget 1 [x0] st h = Run M_X5_forget 2 [x0] (.int (nI 0) :: st) h := R_iconst d_X5_forget_1 (by decide)
theorem d_X5_forget_2 : decode (mB M_X5_forget) 2 = .ok (.putfield 33, 3) := by decide +kernel
theorem r_X5_forget_2_0 {x0 : Value} {a : Nat} {st : List Value} {h : AH} : Run M_X5_forget 2 [x0] (.int (nI 0) :: .ref a :: st) h = if (pF h a 5 6 (.int (nI 0))).isSome = true then Run M_X5_forget 5 [x0] st ((pF h a 5 6 (.int (nI 0))).getD h) else none := R_putfield d_X5_forget_2 rfl (okP_bool rfl rfl (Or.inl rfl))
theorem r_X5_forget_2_1 {x0 : Value} {a : Nat} {st : List Value} {h : AH} : Run M_X5_forget 2 [x0] (.int (nI 1) :: .ref a :: st) h = if (pF h a 5 6 (.int (nI 1))).isSome = true then Run M_X5_forget 5 [x0] st ((pF h a 5 6 (.int (nI 1))).getD h) else none := R_putfield d_X5_forget_2 rfl (okP_bool rfl rfl (Or.inr rfl))
theorem d_X5_forget_5 : decode (mB M_X5_forget) 5 = .ok (.return_, 1) := by decide +kernel
theorem r_X5_forget_5 {x0 : Value} {h : AH} : Run M_X5_forget 5 [x0] [] h = some (h, none) := R_return d_X5_forget_5 rfl
theorem d_X5_weighOnce_0 : decode (mB M_X5_weighOnce) 0 = .ok (.aload_n 0, 1) := by decide +kernel
theorem r_X5_weighOnce_0 {x1 x2 x3 x4 x5 : Value} {a : Nat} {st : List Value} {h : AH} : Run M_X5_weighOnce 0 [.ref a, x1, x2, x3, x4, x5] st h = Run M_X5_weighOnce 1 [.ref a, x1, x2, x3, x4, x5] (.ref a :: st) h := R_aload_n d_X5_weighOnce_0 rfl
theorem d_X5_weighOnce_1 : decode (mB M_X5_weighOnce) 1 = .ok (.getfield 33, 3) := by decide +kernel
theorem r_X5_weighOnce_1 {x0 x1 x2 x3 x4 x5 : Value} {a : Nat} {st : List Value} {h : AH} : Run M_X5_weighOnce 1 [x0, x1, x2, x3, x4, x5] (.ref a :: st) h = if (gF h a 5 6).isSome = true then Run M_X5_weighOnce 4 [x0, x1, x2, x3, x4, x5] ((gF h a 5 6).getD .null :: st) h else none := R_getfield d_X5_weighOnce_1 rfl
theorem d_X5_weighOnce_4 : decode (mB M_X5_weighOnce) 4 = .ok (.ifCond .eq 4, 3) := by decide +kernel
theorem r_X5_weighOnce_4 {x0 x1 x2 x3 x4 x5 : Value} {x : Int32} {st : List Value} {h : AH} : Run M_X5_weighOnce 4 [x0, x1, x2, x3, x4, x5] (.int x :: st) h = if x = nI 0 then Run M_X5_weighOnce 8 [x0, x1, x2, x3, x4, x5] st h else Run M_X5_weighOnce 7 [x0, x1, x2, x3, x4, x5] st h := R_if_eq d_X5_weighOnce_4 (by decide)
theorem d_X5_weighOnce_7 : decode (mB M_X5_weighOnce) 7 = .ok (.return_, 1) := by decide +kernel
theorem r_X5_weighOnce_7 {x0 x1 x2 x3 x4 x5 : Value} {h : AH} : Run M_X5_weighOnce 7 [x0, x1, x2, x3, x4, x5] [] h = some (h, none) := R_return d_X5_weighOnce_7 rfl
theorem d_X5_weighOnce_8 : decode (mB M_X5_weighOnce) 8 = .ok (.aload_n 0, 1) := by decide +kernel
theorem r_X5_weighOnce_8 {x1 x2 x3 x4 x5 : Value} {a : Nat} {st : List Value} {h : AH} : Run M_X5_weighOnce 8 [.ref a, x1, x2, x3, x4, x5] st h = Run M_X5_weighOnce 9 [.ref a, x1, x2, x3, x4, x5] (.ref a :: st) h := R_aload_n d_X5_weighOnce_8 rfl
theorem d_X5_weighOnce_9 : decode (mB M_X5_weighOnce) 9 = .ok (.iconst 1, 1) := by decide +kernel
theorem r_X5_weighOnce_9 {x0 x1 x2 x3 x4 x5 : Value} {st : List Value} {h : AH} : Run M_X5_weighOnce 9 [x0, x1, x2, x3, x4, x5] st h = Run M_X5_weighOnce 10 [x0, x1, x2, x3, x4, x5] (.int (nI 1) :: st) h := R_iconst d_X5_weighOnce_9 (by decide)
theorem d_X5_weighOnce_10 : decode (mB M_X5_weighOnce) 10 = .ok (.putfield 33, 3) := by decide +kernel
theorem r_X5_weighOnce_10_0 {x0 x1 x2 x3 x4 x5 : Value} {a : Nat} {st : List Value} {h : AH} : Run M_X5_weighOnce 10 [x0, x1, x2, x3, x4, x5] (.int (nI 0) :: .ref a :: st) h = if (pF h a 5 6 (.int (nI 0))).isSome = true then Run M_X5_weighOnce 13 [x0, x1, x2, x3, x4, x5] st ((pF h a 5 6 (.int (nI 0))).getD h) else none := R_putfield d_X5_weighOnce_10 rfl (okP_bool rfl rfl (Or.inl rfl))
theorem r_X5_weighOnce_10_1 {x0 x1 x2 x3 x4 x5 : Value} {a : Nat} {st : List Value} {h : AH} : Run M_X5_weighOnce 10 [x0, x1, x2, x3, x4, x5] (.int (nI 1) :: .ref a :: st) h = if (pF h a 5 6 (.int (nI 1))).isSome = true then Run M_X5_weighOnce 13 [x0, x1, x2, x3, x4, x5] st ((pF h a 5 6 (.int (nI 1))).getD h) else none := R_putfield d_X5_weighOnce_10 rfl (okP_bool rfl rfl (Or.inr rfl))
theorem d_X5_weighOnce_13 : decode (mB M_X5_weighOnce) 13 = .ok (.aload_n 0, 1) := by decide +kernel
theorem r_X5_weighOnce_13 {x1 x2 x3 x4 x5 : Value} {a : Nat} {st : List Value} {h : AH} : Run M_X5_weighOnce 13 [.ref a, x1, x2, x3, x4, x5] st h = Run M_X5_weighOnce 14 [.ref a, x1, x2, x3, x4, x5] (.ref a :: st) h := R_aload_n d_X5_weighOnce_13 rfl
theorem d_X5_weighOnce_14 : decode (mB M_X5_weighOnce) 14 = .ok (.getfield 9, 3) := by decide +kernel
theorem r_X5_weighOnce_14 {x0 x1 x2 x3 x4 x5 : Value} {a : Nat} {st : List Value} {h : AH} : Run M_X5_weighOnce 14 [x0, x1, x2, x3, x4, x5] (.ref a :: st) h = if (gF h a 5 0).isSome = true then Run M_X5_weighOnce 17 [x0, x1, x2, x3, x4, x5] ((gF h a 5 0).getD .null :: st) h else none := R_getfield d_X5_weighOnce_14 rfl
theorem d_X5_weighOnce_17 : decode (mB M_X5_weighOnce) 17 = .ok (.iconst 0, 1) := by decide +kernel
theorem r_X5_weighOnce_17 {x0 x1 x2 x3 x4 x5 : Value} {st : List Value} {h : AH} : Run M_X5_weighOnce 17 [x0, x1, x2, x3, x4, x5] st h = Run M_X5_weighOnce 18 [x0, x1, x2, x3, x4, x5] (.int (nI 0) :: st) h := R_iconst d_X5_weighOnce_17 (by decide)
theorem d_X5_weighOnce_18 : decode (mB M_X5_weighOnce) 18 = .ok (.invokestatic 37, 3) := by decide +kernel
theorem r_X5_weighOnce_18 {x0 x1 x2 x3 x4 x5 : Value} {p0 : Nat} {p1 : Int32} {h : AH} : Run M_X5_weighOnce 18 [x0, x1, x2, x3, x4, x5] (.int p1 :: .ref p0 :: []) h = if (Call M_J7_fill_53178 h [.ref p0, .int p1]).isSome = true then Run M_X5_weighOnce 21 [x0, x1, x2, x3, x4, x5] (rL (Call M_J7_fill_53178 h [.ref p0, .int p1]) ++ []) (cH (Call M_J7_fill_53178 h [.ref p0, .int p1])) else none := R_stat d_X5_weighOnce_18 rfl rfl rfl rfl (Nat.le_of_ble_eq_true rfl)
theorem d_X5_weighOnce_21 : decode (mB M_X5_weighOnce) 21 = .ok (.aload_n 0, 1) := by decide +kernel
theorem r_X5_weighOnce_21 {x1 x2 x3 x4 x5 : Value} {a : Nat} {st : List Value} {h : AH} : Run M_X5_weighOnce 21 [.ref a, x1, x2, x3, x4, x5] st h = Run M_X5_weighOnce 22 [.ref a, x1, x2, x3, x4, x5] (.ref a :: st) h := R_aload_n d_X5_weighOnce_21 rfl
theorem d_X5_weighOnce_22 : decode (mB M_X5_weighOnce) 22 = .ok (.getfield 15, 3) := by decide +kernel
theorem r_X5_weighOnce_22 {x0 x1 x2 x3 x4 x5 : Value} {a : Nat} {st : List Value} {h : AH} : Run M_X5_weighOnce 22 [x0, x1, x2, x3, x4, x5] (.ref a :: st) h = if (gF h a 5 1).isSome = true then Run M_X5_weighOnce 25 [x0, x1, x2, x3, x4, x5] ((gF h a 5 1).getD .null :: st) h else none := R_getfield d_X5_weighOnce_22 rfl
theorem d_X5_weighOnce_25 : decode (mB M_X5_weighOnce) 25 = .ok (.iconst 0, 1) := by decide +kernel
theorem r_X5_weighOnce_25 {x0 x1 x2 x3 x4 x5 : Value} {st : List Value} {h : AH} : Run M_X5_weighOnce 25 [x0, x1, x2, x3, x4, x5] st h = Run M_X5_weighOnce 26 [x0, x1, x2, x3, x4, x5] (.int (nI 0) :: st) h := R_iconst d_X5_weighOnce_25 (by decide)
theorem d_X5_weighOnce_26 : decode (mB M_X5_weighOnce) 26 = .ok (.invokestatic 37, 3) := by decide +kernel
theorem r_X5_weighOnce_26 {x0 x1 x2 x3 x4 x5 : Value} {p0 : Nat} {p1 : Int32} {h : AH} : Run M_X5_weighOnce 26 [x0, x1, x2, x3, x4, x5] (.int p1 :: .ref p0 :: []) h = if (Call M_J7_fill_53178 h [.ref p0, .int p1]).isSome = true then Run M_X5_weighOnce 29 [x0, x1, x2, x3, x4, x5] (rL (Call M_J7_fill_53178 h [.ref p0, .int p1]) ++ []) (cH (Call M_J7_fill_53178 h [.ref p0, .int p1])) else none := R_stat d_X5_weighOnce_26 rfl rfl rfl rfl (Nat.le_of_ble_eq_true rfl)
theorem d_X5_weighOnce_29 : decode (mB M_X5_weighOnce) 29 = .ok (.aload_n 0, 1) := by decide +kernel
theorem r_X5_weighOnce_29 {x1 x2 x3 x4 x5 : Value} {a : Nat} {st : List Value} {h : AH} : Run M_X5_weighOnce 29 [.ref a, x1, x2, x3, x4, x5] st h = Run M_X5_weighOnce 30 [.ref a, x1, x2, x3, x4, x5] (.ref a :: st) h := R_aload_n d_X5_weighOnce_29 rfl
theorem d_X5_weighOnce_30 : decode (mB M_X5_weighOnce) 30 = .ok (.getfield 18, 3) := by decide +kernel
theorem r_X5_weighOnce_30 {x0 x1 x2 x3 x4 x5 : Value} {a : Nat} {st : List Value} {h : AH} : Run M_X5_weighOnce 30 [x0, x1, x2, x3, x4, x5] (.ref a :: st) h = if (gF h a 5 2).isSome = true then Run M_X5_weighOnce 33 [x0, x1, x2, x3, x4, x5] ((gF h a 5 2).getD .null :: st) h else none := R_getfield d_X5_weighOnce_30 rfl
theorem d_X5_weighOnce_33 : decode (mB M_X5_weighOnce) 33 = .ok (.iconst (-1), 1) := by decide +kernel
theorem r_X5_weighOnce_33 {x0 x1 x2 x3 x4 x5 : Value} {st : List Value} {h : AH} : Run M_X5_weighOnce 33 [x0, x1, x2, x3, x4, x5] st h = Run M_X5_weighOnce 34 [x0, x1, x2, x3, x4, x5] (.int (-1) :: st) h := R_iconst d_X5_weighOnce_33 (by decide)
theorem d_X5_weighOnce_34 : decode (mB M_X5_weighOnce) 34 = .ok (.invokestatic 37, 3) := by decide +kernel
theorem r_X5_weighOnce_34 {x0 x1 x2 x3 x4 x5 : Value} {p0 : Nat} {p1 : Int32} {h : AH} : Run M_X5_weighOnce 34 [x0, x1, x2, x3, x4, x5] (.int p1 :: .ref p0 :: []) h = if (Call M_J7_fill_53178 h [.ref p0, .int p1]).isSome = true then Run M_X5_weighOnce 37 [x0, x1, x2, x3, x4, x5] (rL (Call M_J7_fill_53178 h [.ref p0, .int p1]) ++ []) (cH (Call M_J7_fill_53178 h [.ref p0, .int p1])) else none := R_stat d_X5_weighOnce_34 rfl rfl rfl rfl (Nat.le_of_ble_eq_true rfl)
theorem d_X5_weighOnce_37 : decode (mB M_X5_weighOnce) 37 = .ok (.aload_n 0, 1) := by decide +kernel
theorem r_X5_weighOnce_37 {x1 x2 x3 x4 x5 : Value} {a : Nat} {st : List Value} {h : AH} : Run M_X5_weighOnce 37 [.ref a, x1, x2, x3, x4, x5] st h = Run M_X5_weighOnce 38 [.ref a, x1, x2, x3, x4, x5] (.ref a :: st) h := R_aload_n d_X5_weighOnce_37 rfl
theorem d_X5_weighOnce_38 : decode (mB M_X5_weighOnce) 38 = .ok (.getfield 21, 3) := by decide +kernel
theorem r_X5_weighOnce_38 {x0 x1 x2 x3 x4 x5 : Value} {a : Nat} {st : List Value} {h : AH} : Run M_X5_weighOnce 38 [x0, x1, x2, x3, x4, x5] (.ref a :: st) h = if (gF h a 5 3).isSome = true then Run M_X5_weighOnce 41 [x0, x1, x2, x3, x4, x5] ((gF h a 5 3).getD .null :: st) h else none := R_getfield d_X5_weighOnce_38 rfl
theorem d_X5_weighOnce_41 : decode (mB M_X5_weighOnce) 41 = .ok (.lconst 0, 1) := by decide +kernel
theorem r_X5_weighOnce_41 {x0 x1 x2 x3 x4 x5 : Value} {st : List Value} {h : AH} : Run M_X5_weighOnce 41 [x0, x1, x2, x3, x4, x5] st h = Run M_X5_weighOnce 42 [x0, x1, x2, x3, x4, x5] (.long (lN 0) :: st) h := R_lconst d_X5_weighOnce_41 (by decide)
theorem d_X5_weighOnce_42 : decode (mB M_X5_weighOnce) 42 = .ok (.invokestatic 43, 3) := by decide +kernel
theorem r_X5_weighOnce_42 {x0 x1 x2 x3 x4 x5 : Value} {p0 : Nat} {p1 : Int64} {h : AH} : Run M_X5_weighOnce 42 [x0, x1, x2, x3, x4, x5] (.long p1 :: .ref p0 :: []) h = if (Call M_J7_fill_d0a16 h [.ref p0, .long p1]).isSome = true then Run M_X5_weighOnce 45 [x0, x1, x2, x3, x4, x5] (rL (Call M_J7_fill_d0a16 h [.ref p0, .long p1]) ++ []) (cH (Call M_J7_fill_d0a16 h [.ref p0, .long p1])) else none := R_stat d_X5_weighOnce_42 rfl rfl rfl rfl (Nat.le_of_ble_eq_true rfl)
theorem d_X5_weighOnce_45 : decode (mB M_X5_weighOnce) 45 = .ok (.aload_n 1, 1) := by decide +kernel
theorem r_X5_weighOnce_45 {x0 x2 x3 x4 x5 : Value} {a : Nat} {st : List Value} {h : AH} : Run M_X5_weighOnce 45 [x0, .ref a, x2, x3, x4, x5] st h = Run M_X5_weighOnce 46 [x0, .ref a, x2, x3, x4, x5] (.ref a :: st) h := R_aload_n d_X5_weighOnce_45 rfl
theorem d_X5_weighOnce_46 : decode (mB M_X5_weighOnce) 46 = .ok (.getfield 46, 3) := by decide +kernel
theorem r_X5_weighOnce_46 {x0 x1 x2 x3 x4 x5 : Value} {a : Nat} {st : List Value} {h : AH} : Run M_X5_weighOnce 46 [x0, x1, x2, x3, x4, x5] (.ref a :: st) h = if (gF h a 4 0).isSome = true then Run M_X5_weighOnce 49 [x0, x1, x2, x3, x4, x5] ((gF h a 4 0).getD .null :: st) h else none := R_getfield d_X5_weighOnce_46 rfl
theorem d_X5_weighOnce_49 : decode (mB M_X5_weighOnce) 49 = .ok (.bipush 7, 2) := by decide +kernel
theorem r_X5_weighOnce_49 {x0 x1 x2 x3 x4 x5 : Value} {st : List Value} {h : AH} : Run M_X5_weighOnce 49 [x0, x1, x2, x3, x4, x5] st h = Run M_X5_weighOnce 51 [x0, x1, x2, x3, x4, x5] (.int (nI 7) :: st) h := R_bipush d_X5_weighOnce_49 (by decide)
theorem d_X5_weighOnce_51 : decode (mB M_X5_weighOnce) 51 = .ok (.invokestatic 52, 3) := by decide +kernel
theorem r_X5_weighOnce_51 {x0 x1 x2 x3 x4 x5 : Value} {p0 : Int32} {p1 : Int32} {h : AH} : Run M_X5_weighOnce 51 [x0, x1, x2, x3, x4, x5] (.int p1 :: .int p0 :: []) h = if (Call M_J9_min_7cf53 h [.int p0, .int p1]).isSome = true then Run M_X5_weighOnce 54 [x0, x1, x2, x3, x4, x5] (rL (Call M_J9_min_7cf53 h [.int p0, .int p1]) ++ []) (cH (Call M_J9_min_7cf53 h [.int p0, .int p1])) else none := R_stat d_X5_weighOnce_51 rfl rfl rfl rfl (Nat.le_of_ble_eq_true rfl)
theorem d_X5_weighOnce_54 : decode (mB M_X5_weighOnce) 54 = .ok (.istore_n 2, 1) := by decide +kernel
theorem r_X5_weighOnce_54 {x0 x1 x2 x3 x4 x5 : Value} {a : Int32} {st : List Value} {h : AH} (hc : x1.category = 1) : Run M_X5_weighOnce 54 [x0, x1, x2, x3, x4, x5] (.int a :: st) h = Run M_X5_weighOnce 55 [x0, x1, .int a, x3, x4, x5] st h := R_istore_n d_X5_weighOnce_54 (Nat.lt_of_lt_of_le (by decide : 2 < 6) (Nat.le_refl 6)) (catP_of rfl hc)
theorem d_X5_weighOnce_55 : decode (mB M_X5_weighOnce) 55 = .ok (.aload_n 0, 1) := by decide +kernel
theorem r_X5_weighOnce_55 {x1 x2 x3 x4 x5 : Value} {a : Nat} {st : List Value} {h : AH} : Run M_X5_weighOnce 55 [.ref a, x1, x2, x3, x4, x5] st h = Run M_X5_weighOnce 56 [.ref a, x1, x2, x3, x4, x5] (.ref a :: st) h := R_aload_n d_X5_weighOnce_55 rfl
theorem d_X5_weighOnce_56 : decode (mB M_X5_weighOnce) 56 = .ok (.getfield 30, 3) := by decide +kernel
theorem r_X5_weighOnce_56 {x0 x1 x2 x3 x4 x5 : Value} {a : Nat} {st : List Value} {h : AH} : Run M_X5_weighOnce 56 [x0, x1, x2, x3, x4, x5] (.ref a :: st) h = if (gF h a 5 5).isSome = true then Run M_X5_weighOnce 59 [x0, x1, x2, x3, x4, x5] ((gF h a 5 5).getD .null :: st) h else none := R_getfield d_X5_weighOnce_56 rfl
theorem d_X5_weighOnce_59 : decode (mB M_X5_weighOnce) 59 = .ok (.iload_n 2, 1) := by decide +kernel
theorem r_X5_weighOnce_59 {x0 x1 x3 x4 x5 : Value} {a : Int32} {st : List Value} {h : AH} : Run M_X5_weighOnce 59 [x0, x1, .int a, x3, x4, x5] st h = Run M_X5_weighOnce 60 [x0, x1, .int a, x3, x4, x5] (.int a :: st) h := R_iload_n d_X5_weighOnce_59 rfl
theorem d_X5_weighOnce_60 : decode (mB M_X5_weighOnce) 60 = .ok (.iconst 0, 1) := by decide +kernel
theorem r_X5_weighOnce_60 {x0 x1 x2 x3 x4 x5 : Value} {st : List Value} {h : AH} : Run M_X5_weighOnce 60 [x0, x1, x2, x3, x4, x5] st h = Run M_X5_weighOnce 61 [x0, x1, x2, x3, x4, x5] (.int (nI 0) :: st) h := R_iconst d_X5_weighOnce_60 (by decide)
theorem d_X5_weighOnce_61 : decode (mB M_X5_weighOnce) 61 = .ok (.iastore, 1) := by decide +kernel
theorem r_X5_weighOnce_61 {x0 x1 x2 x3 x4 x5 : Value} {a : Nat} {i x : Int32} {st : List Value} {h : AH} : Run M_X5_weighOnce 61 [x0, x1, x2, x3, x4, x5] (.int x :: .int i :: .ref a :: st) h = if (pI 0 h a i x).isSome = true then Run M_X5_weighOnce 62 [x0, x1, x2, x3, x4, x5] st ((pI 0 h a i x).getD h) else none := R_iastore d_X5_weighOnce_61
theorem d_X5_weighOnce_62 : decode (mB M_X5_weighOnce) 62 = .ok (.aload_n 0, 1) := by decide +kernel
theorem r_X5_weighOnce_62 {x1 x2 x3 x4 x5 : Value} {a : Nat} {st : List Value} {h : AH} : Run M_X5_weighOnce 62 [.ref a, x1, x2, x3, x4, x5] st h = Run M_X5_weighOnce 63 [.ref a, x1, x2, x3, x4, x5] (.ref a :: st) h := R_aload_n d_X5_weighOnce_62 rfl
theorem d_X5_weighOnce_63 : decode (mB M_X5_weighOnce) 63 = .ok (.getfield 27, 3) := by decide +kernel
theorem r_X5_weighOnce_63 {x0 x1 x2 x3 x4 x5 : Value} {a : Nat} {st : List Value} {h : AH} : Run M_X5_weighOnce 63 [x0, x1, x2, x3, x4, x5] (.ref a :: st) h = if (gF h a 5 4).isSome = true then Run M_X5_weighOnce 66 [x0, x1, x2, x3, x4, x5] ((gF h a 5 4).getD .null :: st) h else none := R_getfield d_X5_weighOnce_63 rfl
theorem d_X5_weighOnce_66 : decode (mB M_X5_weighOnce) 66 = .ok (.iload_n 2, 1) := by decide +kernel
theorem r_X5_weighOnce_66 {x0 x1 x3 x4 x5 : Value} {a : Int32} {st : List Value} {h : AH} : Run M_X5_weighOnce 66 [x0, x1, .int a, x3, x4, x5] st h = Run M_X5_weighOnce 67 [x0, x1, .int a, x3, x4, x5] (.int a :: st) h := R_iload_n d_X5_weighOnce_66 rfl
theorem d_X5_weighOnce_67 : decode (mB M_X5_weighOnce) 67 = .ok (.aaload, 1) := by decide +kernel
theorem r_X5_weighOnce_67 {x0 x1 x2 x3 x4 x5 : Value} {a : Nat} {i : Int32} {st : List Value} {h : AH} : Run M_X5_weighOnce 67 [x0, x1, x2, x3, x4, x5] (.int i :: .ref a :: st) h = if (gR h a i).isSome = true then Run M_X5_weighOnce 68 [x0, x1, x2, x3, x4, x5] (.ref ((gR h a i).getD 0) :: st) h else none := R_aaload d_X5_weighOnce_67
theorem d_X5_weighOnce_68 : decode (mB M_X5_weighOnce) 68 = .ok (.iconst 0, 1) := by decide +kernel
theorem r_X5_weighOnce_68 {x0 x1 x2 x3 x4 x5 : Value} {st : List Value} {h : AH} : Run M_X5_weighOnce 68 [x0, x1, x2, x3, x4, x5] st h = Run M_X5_weighOnce 69 [x0, x1, x2, x3, x4, x5] (.int (nI 0) :: st) h := R_iconst d_X5_weighOnce_68 (by decide)
theorem d_X5_weighOnce_69 : decode (mB M_X5_weighOnce) 69 = .ok (.lconst 1, 1) := by decide +kernel
theorem r_X5_weighOnce_69 {x0 x1 x2 x3 x4 x5 : Value} {st : List Value} {h : AH} : Run M_X5_weighOnce 69 [x0, x1, x2, x3, x4, x5] st h = Run M_X5_weighOnce 70 [x0, x1, x2, x3, x4, x5] (.long (lN 1) :: st) h := R_lconst d_X5_weighOnce_69 (by decide)
theorem d_X5_weighOnce_70 : decode (mB M_X5_weighOnce) 70 = .ok (.lastore, 1) := by decide +kernel
theorem r_X5_weighOnce_70 {x0 x1 x2 x3 x4 x5 : Value} {a : Nat} {i : Int32} {x : Int64} {st : List Value} {h : AH} : Run M_X5_weighOnce 70 [x0, x1, x2, x3, x4, x5] (.long x :: .int i :: .ref a :: st) h = if (pJ h a i x).isSome = true then Run M_X5_weighOnce 71 [x0, x1, x2, x3, x4, x5] st ((pJ h a i x).getD h) else none := R_lastore d_X5_weighOnce_70
theorem d_X5_weighOnce_71 : decode (mB M_X5_weighOnce) 71 = .ok (.iconst 0, 1) := by decide +kernel
theorem r_X5_weighOnce_71 {x0 x1 x2 x3 x4 x5 : Value} {st : List Value} {h : AH} : Run M_X5_weighOnce 71 [x0, x1, x2, x3, x4, x5] st h = Run M_X5_weighOnce 72 [x0, x1, x2, x3, x4, x5] (.int (nI 0) :: st) h := R_iconst d_X5_weighOnce_71 (by decide)
theorem d_X5_weighOnce_72 : decode (mB M_X5_weighOnce) 72 = .ok (.istore_n 3, 1) := by decide +kernel
theorem r_X5_weighOnce_72 {x0 x1 x2 x3 x4 x5 : Value} {a : Int32} {st : List Value} {h : AH} (hc : x2.category = 1) : Run M_X5_weighOnce 72 [x0, x1, x2, x3, x4, x5] (.int a :: st) h = Run M_X5_weighOnce 73 [x0, x1, x2, .int a, x4, x5] st h := R_istore_n d_X5_weighOnce_72 (Nat.lt_of_lt_of_le (by decide : 3 < 6) (Nat.le_refl 6)) (catP_of rfl hc)
theorem d_X5_weighOnce_73 : decode (mB M_X5_weighOnce) 73 = .ok (.iload_n 3, 1) := by decide +kernel
theorem r_X5_weighOnce_73 {x0 x1 x2 x4 x5 : Value} {a : Int32} {st : List Value} {h : AH} : Run M_X5_weighOnce 73 [x0, x1, x2, .int a, x4, x5] st h = Run M_X5_weighOnce 74 [x0, x1, x2, .int a, x4, x5] (.int a :: st) h := R_iload_n d_X5_weighOnce_73 rfl
theorem d_X5_weighOnce_74 : decode (mB M_X5_weighOnce) 74 = .ok (.iconst 1, 1) := by decide +kernel
theorem r_X5_weighOnce_74 {x0 x1 x2 x3 x4 x5 : Value} {st : List Value} {h : AH} : Run M_X5_weighOnce 74 [x0, x1, x2, x3, x4, x5] st h = Run M_X5_weighOnce 75 [x0, x1, x2, x3, x4, x5] (.int (nI 1) :: st) h := R_iconst d_X5_weighOnce_74 (by decide)
theorem d_X5_weighOnce_75 : decode (mB M_X5_weighOnce) 75 = .ok (.iload_n 2, 1) := by decide +kernel
theorem r_X5_weighOnce_75 {x0 x1 x3 x4 x5 : Value} {a : Int32} {st : List Value} {h : AH} : Run M_X5_weighOnce 75 [x0, x1, .int a, x3, x4, x5] st h = Run M_X5_weighOnce 76 [x0, x1, .int a, x3, x4, x5] (.int a :: st) h := R_iload_n d_X5_weighOnce_75 rfl
theorem d_X5_weighOnce_76 : decode (mB M_X5_weighOnce) 76 = .ok (.ishl, 1) := by decide +kernel
theorem r_X5_weighOnce_76 {x0 x1 x2 x3 x4 x5 : Value} {x y : Int32} {st : List Value} {h : AH} : Run M_X5_weighOnce 76 [x0, x1, x2, x3, x4, x5] (.int y :: .int x :: st) h = Run M_X5_weighOnce 77 [x0, x1, x2, x3, x4, x5] (.int (x <<< (y &&& 31)) :: st) h := R_ishl d_X5_weighOnce_76
theorem d_X5_weighOnce_77 : decode (mB M_X5_weighOnce) 77 = .ok (.if_icmp .ge 73, 3) := by decide +kernel
theorem r_X5_weighOnce_77 {x0 x1 x2 x3 x4 x5 : Value} {x y : Int32} {st : List Value} {h : AH} : Run M_X5_weighOnce 77 [x0, x1, x2, x3, x4, x5] (.int y :: .int x :: st) h = if y ≤ x then Run M_X5_weighOnce 150 [x0, x1, x2, x3, x4, x5] st h else Run M_X5_weighOnce 80 [x0, x1, x2, x3, x4, x5] st h := R_icmp_ge d_X5_weighOnce_77 (by decide)
theorem d_X5_weighOnce_80 : decode (mB M_X5_weighOnce) 80 = .ok (.iload_n 2, 1) := by decide +kernel
theorem r_X5_weighOnce_80 {x0 x1 x3 x4 x5 : Value} {a : Int32} {st : List Value} {h : AH} : Run M_X5_weighOnce 80 [x0, x1, .int a, x3, x4, x5] st h = Run M_X5_weighOnce 81 [x0, x1, .int a, x3, x4, x5] (.int a :: st) h := R_iload_n d_X5_weighOnce_80 rfl
theorem d_X5_weighOnce_81 : decode (mB M_X5_weighOnce) 81 = .ok (.iload_n 3, 1) := by decide +kernel
theorem r_X5_weighOnce_81 {x0 x1 x2 x4 x5 : Value} {a : Int32} {st : List Value} {h : AH} : Run M_X5_weighOnce 81 [x0, x1, x2, .int a, x4, x5] st h = Run M_X5_weighOnce 82 [x0, x1, x2, .int a, x4, x5] (.int a :: st) h := R_iload_n d_X5_weighOnce_81 rfl
theorem d_X5_weighOnce_82 : decode (mB M_X5_weighOnce) 82 = .ok (.iload_n 3, 1) := by decide +kernel
theorem r_X5_weighOnce_82 {x0 x1 x2 x4 x5 : Value} {a : Int32} {st : List Value} {h : AH} : Run M_X5_weighOnce 82 [x0, x1, x2, .int a, x4, x5] st h = Run M_X5_weighOnce 83 [x0, x1, x2, .int a, x4, x5] (.int a :: st) h := R_iload_n d_X5_weighOnce_82 rfl
theorem d_X5_weighOnce_83 : decode (mB M_X5_weighOnce) 83 = .ok (.iconst 1, 1) := by decide +kernel
theorem r_X5_weighOnce_83 {x0 x1 x2 x3 x4 x5 : Value} {st : List Value} {h : AH} : Run M_X5_weighOnce 83 [x0, x1, x2, x3, x4, x5] st h = Run M_X5_weighOnce 84 [x0, x1, x2, x3, x4, x5] (.int (nI 1) :: st) h := R_iconst d_X5_weighOnce_83 (by decide)
theorem d_X5_weighOnce_84 : decode (mB M_X5_weighOnce) 84 = .ok (.isub, 1) := by decide +kernel
theorem r_X5_weighOnce_84 {x0 x1 x2 x3 x4 x5 : Value} {x y : Int32} {st : List Value} {h : AH} : Run M_X5_weighOnce 84 [x0, x1, x2, x3, x4, x5] (.int y :: .int x :: st) h = Run M_X5_weighOnce 85 [x0, x1, x2, x3, x4, x5] (.int (x - y) :: st) h := R_isub d_X5_weighOnce_84
theorem d_X5_weighOnce_85 : decode (mB M_X5_weighOnce) 85 = .ok (.ixor, 1) := by decide +kernel
theorem r_X5_weighOnce_85 {x0 x1 x2 x3 x4 x5 : Value} {x y : Int32} {st : List Value} {h : AH} : Run M_X5_weighOnce 85 [x0, x1, x2, x3, x4, x5] (.int y :: .int x :: st) h = Run M_X5_weighOnce 86 [x0, x1, x2, x3, x4, x5] (.int (x ^^^ y) :: st) h := R_ixor d_X5_weighOnce_85
theorem d_X5_weighOnce_86 : decode (mB M_X5_weighOnce) 86 = .ok (.invokestatic 58, 3) := by decide +kernel
theorem r_X5_weighOnce_86 {x0 x1 x2 x3 x4 x5 : Value} {p0 : Int32} {w0 : Value} {h : AH} : Run M_X5_weighOnce 86 [x0, x1, x2, x3, x4, x5] (.int p0 :: [w0]) h = if (Call M_J6_bitCount_0f7a4 h [.int p0]).isSome = true then Run M_X5_weighOnce 89 [x0, x1, x2, x3, x4, x5] (rL (Call M_J6_bitCount_0f7a4 h [.int p0]) ++ [w0]) (cH (Call M_J6_bitCount_0f7a4 h [.int p0])) else none := R_stat d_X5_weighOnce_86 rfl rfl rfl rfl (Nat.le_of_ble_eq_true rfl)
theorem d_X5_weighOnce_89 : decode (mB M_X5_weighOnce) 89 = .ok (.invokestatic 52, 3) := by decide +kernel
theorem r_X5_weighOnce_89 {x0 x1 x2 x3 x4 x5 : Value} {p0 : Int32} {p1 : Int32} {h : AH} : Run M_X5_weighOnce 89 [x0, x1, x2, x3, x4, x5] (.int p1 :: .int p0 :: []) h = if (Call M_J9_min_7cf53 h [.int p0, .int p1]).isSome = true then Run M_X5_weighOnce 92 [x0, x1, x2, x3, x4, x5] (rL (Call M_J9_min_7cf53 h [.int p0, .int p1]) ++ []) (cH (Call M_J9_min_7cf53 h [.int p0, .int p1])) else none := R_stat d_X5_weighOnce_89 rfl rfl rfl rfl (Nat.le_of_ble_eq_true rfl)
theorem d_X5_weighOnce_92 : decode (mB M_X5_weighOnce) 92 = .ok (.istore 4, 2) := by decide +kernel
theorem r_X5_weighOnce_92 {x0 x1 x2 x3 x4 x5 : Value} {a : Int32} {st : List Value} {h : AH} (hc : x3.category = 1) : Run M_X5_weighOnce 92 [x0, x1, x2, x3, x4, x5] (.int a :: st) h = Run M_X5_weighOnce 94 [x0, x1, x2, x3, .int a, x5] st h := R_istore d_X5_weighOnce_92 (Nat.lt_of_lt_of_le (by decide : 4 < 6) (Nat.le_refl 6)) (catP_of rfl hc)
theorem d_X5_weighOnce_94 : decode (mB M_X5_weighOnce) 94 = .ok (.iload 4, 2) := by decide +kernel
theorem r_X5_weighOnce_94 {x0 x1 x2 x3 x5 : Value} {a : Int32} {st : List Value} {h : AH} : Run M_X5_weighOnce 94 [x0, x1, x2, x3, .int a, x5] st h = Run M_X5_weighOnce 96 [x0, x1, x2, x3, .int a, x5] (.int a :: st) h := R_iload d_X5_weighOnce_94 rfl
theorem d_X5_weighOnce_96 : decode (mB M_X5_weighOnce) 96 = .ok (.iconst 1, 1) := by decide +kernel
theorem r_X5_weighOnce_96 {x0 x1 x2 x3 x4 x5 : Value} {st : List Value} {h : AH} : Run M_X5_weighOnce 96 [x0, x1, x2, x3, x4, x5] st h = Run M_X5_weighOnce 97 [x0, x1, x2, x3, x4, x5] (.int (nI 1) :: st) h := R_iconst d_X5_weighOnce_96 (by decide)
theorem d_X5_weighOnce_97 : decode (mB M_X5_weighOnce) 97 = .ok (.isub, 1) := by decide +kernel
theorem r_X5_weighOnce_97 {x0 x1 x2 x3 x4 x5 : Value} {x y : Int32} {st : List Value} {h : AH} : Run M_X5_weighOnce 97 [x0, x1, x2, x3, x4, x5] (.int y :: .int x :: st) h = Run M_X5_weighOnce 98 [x0, x1, x2, x3, x4, x5] (.int (x - y) :: st) h := R_isub d_X5_weighOnce_97
theorem d_X5_weighOnce_98 : decode (mB M_X5_weighOnce) 98 = .ok (.istore 5, 2) := by decide +kernel
theorem r_X5_weighOnce_98 {x0 x1 x2 x3 x4 x5 : Value} {a : Int32} {st : List Value} {h : AH} (hc : x4.category = 1) : Run M_X5_weighOnce 98 [x0, x1, x2, x3, x4, x5] (.int a :: st) h = Run M_X5_weighOnce 100 [x0, x1, x2, x3, x4, .int a] st h := R_istore d_X5_weighOnce_98 (Nat.lt_of_lt_of_le (by decide : 5 < 6) (Nat.le_refl 6)) (catP_of rfl hc)
theorem d_X5_weighOnce_100 : decode (mB M_X5_weighOnce) 100 = .ok (.iload 5, 2) := by decide +kernel
theorem r_X5_weighOnce_100 {x0 x1 x2 x3 x4 : Value} {a : Int32} {st : List Value} {h : AH} : Run M_X5_weighOnce 100 [x0, x1, x2, x3, x4, .int a] st h = Run M_X5_weighOnce 102 [x0, x1, x2, x3, x4, .int a] (.int a :: st) h := R_iload d_X5_weighOnce_100 rfl
theorem d_X5_weighOnce_102 : decode (mB M_X5_weighOnce) 102 = .ok (.ifCond .lt 37, 3) := by decide +kernel
theorem r_X5_weighOnce_102 {x0 x1 x2 x3 x4 x5 : Value} {x : Int32} {st : List Value} {h : AH} : Run M_X5_weighOnce 102 [x0, x1, x2, x3, x4, x5] (.int x :: st) h = if x < nI 0 then Run M_X5_weighOnce 139 [x0, x1, x2, x3, x4, x5] st h else Run M_X5_weighOnce 105 [x0, x1, x2, x3, x4, x5] st h := R_if_lt d_X5_weighOnce_102 (by decide)
theorem d_X5_weighOnce_105 : decode (mB M_X5_weighOnce) 105 = .ok (.aload_n 0, 1) := by decide +kernel
theorem r_X5_weighOnce_105 {x1 x2 x3 x4 x5 : Value} {a : Nat} {st : List Value} {h : AH} : Run M_X5_weighOnce 105 [.ref a, x1, x2, x3, x4, x5] st h = Run M_X5_weighOnce 106 [.ref a, x1, x2, x3, x4, x5] (.ref a :: st) h := R_aload_n d_X5_weighOnce_105 rfl
theorem d_X5_weighOnce_106 : decode (mB M_X5_weighOnce) 106 = .ok (.aload_n 1, 1) := by decide +kernel
theorem r_X5_weighOnce_106 {x0 x2 x3 x4 x5 : Value} {a : Nat} {st : List Value} {h : AH} : Run M_X5_weighOnce 106 [x0, .ref a, x2, x3, x4, x5] st h = Run M_X5_weighOnce 107 [x0, .ref a, x2, x3, x4, x5] (.ref a :: st) h := R_aload_n d_X5_weighOnce_106 rfl
theorem d_X5_weighOnce_107 : decode (mB M_X5_weighOnce) 107 = .ok (.getfield 64, 3) := by decide +kernel
theorem r_X5_weighOnce_107 {x0 x1 x2 x3 x4 x5 : Value} {a : Nat} {st : List Value} {h : AH} : Run M_X5_weighOnce 107 [x0, x1, x2, x3, x4, x5] (.ref a :: st) h = if (gF h a 4 1).isSome = true then Run M_X5_weighOnce 110 [x0, x1, x2, x3, x4, x5] ((gF h a 4 1).getD .null :: st) h else none := R_getfield d_X5_weighOnce_107 rfl
theorem d_X5_weighOnce_110 : decode (mB M_X5_weighOnce) 110 = .ok (.iload 5, 2) := by decide +kernel
theorem r_X5_weighOnce_110 {x0 x1 x2 x3 x4 : Value} {a : Int32} {st : List Value} {h : AH} : Run M_X5_weighOnce 110 [x0, x1, x2, x3, x4, .int a] st h = Run M_X5_weighOnce 112 [x0, x1, x2, x3, x4, .int a] (.int a :: st) h := R_iload d_X5_weighOnce_110 rfl
theorem d_X5_weighOnce_112 : decode (mB M_X5_weighOnce) 112 = .ok (.aaload, 1) := by decide +kernel
theorem r_X5_weighOnce_112 {x0 x1 x2 x3 x4 x5 : Value} {a : Nat} {i : Int32} {st : List Value} {h : AH} : Run M_X5_weighOnce 112 [x0, x1, x2, x3, x4, x5] (.int i :: .ref a :: st) h = if (gR h a i).isSome = true then Run M_X5_weighOnce 113 [x0, x1, x2, x3, x4, x5] (.ref ((gR h a i).getD 0) :: st) h else none := R_aaload d_X5_weighOnce_112
theorem d_X5_weighOnce_113 : decode (mB M_X5_weighOnce) 113 = .ok (.iload 5, 2) := by decide +kernel
theorem r_X5_weighOnce_113 {x0 x1 x2 x3 x4 : Value} {a : Int32} {st : List Value} {h : AH} : Run M_X5_weighOnce 113 [x0, x1, x2, x3, x4, .int a] st h = Run M_X5_weighOnce 115 [x0, x1, x2, x3, x4, .int a] (.int a :: st) h := R_iload d_X5_weighOnce_113 rfl
theorem d_X5_weighOnce_115 : decode (mB M_X5_weighOnce) 115 = .ok (.iload_n 3, 1) := by decide +kernel
theorem r_X5_weighOnce_115 {x0 x1 x2 x4 x5 : Value} {a : Int32} {st : List Value} {h : AH} : Run M_X5_weighOnce 115 [x0, x1, x2, .int a, x4, x5] st h = Run M_X5_weighOnce 116 [x0, x1, x2, .int a, x4, x5] (.int a :: st) h := R_iload_n d_X5_weighOnce_115 rfl
theorem d_X5_weighOnce_116 : decode (mB M_X5_weighOnce) 116 = .ok (.iload 5, 2) := by decide +kernel
theorem r_X5_weighOnce_116 {x0 x1 x2 x3 x4 : Value} {a : Int32} {st : List Value} {h : AH} : Run M_X5_weighOnce 116 [x0, x1, x2, x3, x4, .int a] st h = Run M_X5_weighOnce 118 [x0, x1, x2, x3, x4, .int a] (.int a :: st) h := R_iload d_X5_weighOnce_116 rfl
theorem d_X5_weighOnce_118 : decode (mB M_X5_weighOnce) 118 = .ok (.ishr, 1) := by decide +kernel
theorem r_X5_weighOnce_118 {x0 x1 x2 x3 x4 x5 : Value} {x y : Int32} {st : List Value} {h : AH} : Run M_X5_weighOnce 118 [x0, x1, x2, x3, x4, x5] (.int y :: .int x :: st) h = Run M_X5_weighOnce 119 [x0, x1, x2, x3, x4, x5] (.int (x >>> (y &&& 31)) :: st) h := R_ishr d_X5_weighOnce_118
theorem d_X5_weighOnce_119 : decode (mB M_X5_weighOnce) 119 = .ok (.iconst 1, 1) := by decide +kernel
theorem r_X5_weighOnce_119 {x0 x1 x2 x3 x4 x5 : Value} {st : List Value} {h : AH} : Run M_X5_weighOnce 119 [x0, x1, x2, x3, x4, x5] st h = Run M_X5_weighOnce 120 [x0, x1, x2, x3, x4, x5] (.int (nI 1) :: st) h := R_iconst d_X5_weighOnce_119 (by decide)
theorem d_X5_weighOnce_120 : decode (mB M_X5_weighOnce) 120 = .ok (.iand, 1) := by decide +kernel
theorem r_X5_weighOnce_120 {x0 x1 x2 x3 x4 x5 : Value} {x y : Int32} {st : List Value} {h : AH} : Run M_X5_weighOnce 120 [x0, x1, x2, x3, x4, x5] (.int y :: .int x :: st) h = Run M_X5_weighOnce 121 [x0, x1, x2, x3, x4, x5] (.int (x &&& y) :: st) h := R_iand d_X5_weighOnce_120
theorem d_X5_weighOnce_121 : decode (mB M_X5_weighOnce) 121 = .ok (.iconst 1, 1) := by decide +kernel
theorem r_X5_weighOnce_121 {x0 x1 x2 x3 x4 x5 : Value} {st : List Value} {h : AH} : Run M_X5_weighOnce 121 [x0, x1, x2, x3, x4, x5] st h = Run M_X5_weighOnce 122 [x0, x1, x2, x3, x4, x5] (.int (nI 1) :: st) h := R_iconst d_X5_weighOnce_121 (by decide)
theorem d_X5_weighOnce_122 : decode (mB M_X5_weighOnce) 122 = .ok (.if_icmp .ne 7, 3) := by decide +kernel
theorem r_X5_weighOnce_122 {x0 x1 x2 x3 x4 x5 : Value} {x y : Int32} {st : List Value} {h : AH} : Run M_X5_weighOnce 122 [x0, x1, x2, x3, x4, x5] (.int y :: .int x :: st) h = if x = y then Run M_X5_weighOnce 125 [x0, x1, x2, x3, x4, x5] st h else Run M_X5_weighOnce 129 [x0, x1, x2, x3, x4, x5] st h := R_icmp_ne d_X5_weighOnce_122 (by decide)
theorem d_X5_weighOnce_125 : decode (mB M_X5_weighOnce) 125 = .ok (.iconst 1, 1) := by decide +kernel
theorem r_X5_weighOnce_125 {x0 x1 x2 x3 x4 x5 : Value} {st : List Value} {h : AH} : Run M_X5_weighOnce 125 [x0, x1, x2, x3, x4, x5] st h = Run M_X5_weighOnce 126 [x0, x1, x2, x3, x4, x5] (.int (nI 1) :: st) h := R_iconst d_X5_weighOnce_125 (by decide)
theorem d_X5_weighOnce_126 : decode (mB M_X5_weighOnce) 126 = .ok (.goto 4, 3) := by decide +kernel
theorem r_X5_weighOnce_126 {x0 x1 x2 x3 x4 x5 : Value} {st : List Value} {h : AH} : Run M_X5_weighOnce 126 [x0, x1, x2, x3, x4, x5] st h = Run M_X5_weighOnce 130 [x0, x1, x2, x3, x4, x5] st h := R_goto d_X5_weighOnce_126 (by decide)
theorem d_X5_weighOnce_129 : decode (mB M_X5_weighOnce) 129 = .ok (.iconst 0, 1) := by decide +kernel
theorem r_X5_weighOnce_129 {x0 x1 x2 x3 x4 x5 : Value} {st : List Value} {h : AH} : Run M_X5_weighOnce 129 [x0, x1, x2, x3, x4, x5] st h = Run M_X5_weighOnce 130 [x0, x1, x2, x3, x4, x5] (.int (nI 0) :: st) h := R_iconst d_X5_weighOnce_129 (by decide)
theorem d_X5_weighOnce_130 : decode (mB M_X5_weighOnce) 130 = .ok (.invokevirtual 68, 3) := by decide +kernel
theorem r_X5_weighOnce_130 {x0 x1 x2 x3 x4 x5 : Value} {p0 : Nat} {p1 : Int32} {p2 : Int32} {a : Nat} {h : AH} : Run M_X5_weighOnce 130 [x0, x1, x2, x3, x4, x5] (.int p2 :: .int p1 :: .ref p0 :: .ref a :: []) h = if refO h 5 (some (.ref a)) = true then (if (Call M_X5_choose h [.ref a, .ref p0, .int p1, .int p2]).isSome = true then Run M_X5_weighOnce 133 [x0, x1, x2, x3, x4, x5] (rL (Call M_X5_choose h [.ref a, .ref p0, .int p1, .int p2]) ++ []) (cH (Call M_X5_choose h [.ref a, .ref p0, .int p1, .int p2])) else none) else none := R_virt d_X5_weighOnce_130 rfl rfl rfl rfl rfl (Nat.le_of_ble_eq_true rfl)
theorem d_X5_weighOnce_133 : decode (mB M_X5_weighOnce) 133 = .ok (.iinc 5 (-1), 3) := by decide +kernel
theorem r_X5_weighOnce_133 {x0 x1 x2 x3 x4 : Value} {a : Int32} {st : List Value} {h : AH} (hc : x4.category = 1) : Run M_X5_weighOnce 133 [x0, x1, x2, x3, x4, .int a] st h = Run M_X5_weighOnce 136 [x0, x1, x2, x3, x4, .int (a + (-1))] st h := R_iinc d_X5_weighOnce_133 (by decide) rfl (catP_of rfl hc)
theorem d_X5_weighOnce_136 : decode (mB M_X5_weighOnce) 136 = .ok (.goto (-36), 3) := by decide +kernel
theorem r_X5_weighOnce_136 {x0 x1 x2 x3 x4 x5 : Value} {st : List Value} {h : AH} : Run M_X5_weighOnce 136 [x0, x1, x2, x3, x4, x5] st h = Run M_X5_weighOnce 100 [x0, x1, x2, x3, x4, x5] st h := R_goto d_X5_weighOnce_136 (by decide)
theorem d_X5_weighOnce_139 : decode (mB M_X5_weighOnce) 139 = .ok (.aload_n 0, 1) := by decide +kernel
theorem r_X5_weighOnce_139 {x1 x2 x3 x4 x5 : Value} {a : Nat} {st : List Value} {h : AH} : Run M_X5_weighOnce 139 [.ref a, x1, x2, x3, x4, x5] st h = Run M_X5_weighOnce 140 [.ref a, x1, x2, x3, x4, x5] (.ref a :: st) h := R_aload_n d_X5_weighOnce_139 rfl
theorem d_X5_weighOnce_140 : decode (mB M_X5_weighOnce) 140 = .ok (.iload_n 3, 1) := by decide +kernel
theorem r_X5_weighOnce_140 {x0 x1 x2 x4 x5 : Value} {a : Int32} {st : List Value} {h : AH} : Run M_X5_weighOnce 140 [x0, x1, x2, .int a, x4, x5] st h = Run M_X5_weighOnce 141 [x0, x1, x2, .int a, x4, x5] (.int a :: st) h := R_iload_n d_X5_weighOnce_140 rfl
theorem d_X5_weighOnce_141 : decode (mB M_X5_weighOnce) 141 = .ok (.invokevirtual 72, 3) := by decide +kernel
theorem r_X5_weighOnce_141 {x0 x1 x2 x3 x4 x5 : Value} {p0 : Int32} {a : Nat} {h : AH} : Run M_X5_weighOnce 141 [x0, x1, x2, x3, x4, x5] (.int p0 :: .ref a :: []) h = if refO h 5 (some (.ref a)) = true then (if (Call M_X5_note h [.ref a, .int p0]).isSome = true then Run M_X5_weighOnce 144 [x0, x1, x2, x3, x4, x5] (rL (Call M_X5_note h [.ref a, .int p0]) ++ []) (cH (Call M_X5_note h [.ref a, .int p0])) else none) else none := R_virt d_X5_weighOnce_141 rfl rfl rfl rfl rfl (Nat.le_of_ble_eq_true rfl)
theorem d_X5_weighOnce_144 : decode (mB M_X5_weighOnce) 144 = .ok (.iinc 3 1, 3) := by decide +kernel
theorem r_X5_weighOnce_144 {x0 x1 x2 x4 x5 : Value} {a : Int32} {st : List Value} {h : AH} (hc : x2.category = 1) : Run M_X5_weighOnce 144 [x0, x1, x2, .int a, x4, x5] st h = Run M_X5_weighOnce 147 [x0, x1, x2, .int (a + (nI 1)), x4, x5] st h := R_iinc d_X5_weighOnce_144 (by decide) rfl (catP_of rfl hc)
theorem d_X5_weighOnce_147 : decode (mB M_X5_weighOnce) 147 = .ok (.goto (-74), 3) := by decide +kernel
theorem r_X5_weighOnce_147 {x0 x1 x2 x3 x4 x5 : Value} {st : List Value} {h : AH} : Run M_X5_weighOnce 147 [x0, x1, x2, x3, x4, x5] st h = Run M_X5_weighOnce 73 [x0, x1, x2, x3, x4, x5] st h := R_goto d_X5_weighOnce_147 (by decide)
theorem d_X5_weighOnce_150 : decode (mB M_X5_weighOnce) 150 = .ok (.return_, 1) := by decide +kernel
theorem r_X5_weighOnce_150 {x0 x1 x2 x3 x4 x5 : Value} {h : AH} : Run M_X5_weighOnce 150 [x0, x1, x2, x3, x4, x5] [] h = some (h, none) := R_return d_X5_weighOnce_150 rfl
theorem d_X5_choose_0 : decode (mB M_X5_choose) 0 = .ok (.aload_n 0, 1) := by decide +kernel
theorem r_X5_choose_0 {x1 x2 x3 x4 x5 x6 : Value} {a : Nat} {st : List Value} {h : AH} : Run M_X5_choose 0 [.ref a, x1, x2, x3, x4, x5, x6] st h = Run M_X5_choose 1 [.ref a, x1, x2, x3, x4, x5, x6] (.ref a :: st) h := R_aload_n d_X5_choose_0 rfl
theorem d_X5_choose_1 : decode (mB M_X5_choose) 1 = .ok (.getfield 30, 3) := by decide +kernel
theorem r_X5_choose_1 {x0 x1 x2 x3 x4 x5 x6 : Value} {a : Nat} {st : List Value} {h : AH} : Run M_X5_choose 1 [x0, x1, x2, x3, x4, x5, x6] (.ref a :: st) h = if (gF h a 5 5).isSome = true then Run M_X5_choose 4 [x0, x1, x2, x3, x4, x5, x6] ((gF h a 5 5).getD .null :: st) h else none := R_getfield d_X5_choose_1 rfl
theorem d_X5_choose_4 : decode (mB M_X5_choose) 4 = .ok (.iload_n 2, 1) := by decide +kernel
theorem r_X5_choose_4 {x0 x1 x3 x4 x5 x6 : Value} {a : Int32} {st : List Value} {h : AH} : Run M_X5_choose 4 [x0, x1, .int a, x3, x4, x5, x6] st h = Run M_X5_choose 5 [x0, x1, .int a, x3, x4, x5, x6] (.int a :: st) h := R_iload_n d_X5_choose_4 rfl
theorem d_X5_choose_5 : decode (mB M_X5_choose) 5 = .ok (.iconst 1, 1) := by decide +kernel
theorem r_X5_choose_5 {x0 x1 x2 x3 x4 x5 x6 : Value} {st : List Value} {h : AH} : Run M_X5_choose 5 [x0, x1, x2, x3, x4, x5, x6] st h = Run M_X5_choose 6 [x0, x1, x2, x3, x4, x5, x6] (.int (nI 1) :: st) h := R_iconst d_X5_choose_5 (by decide)
theorem d_X5_choose_6 : decode (mB M_X5_choose) 6 = .ok (.iadd, 1) := by decide +kernel
theorem r_X5_choose_6 {x0 x1 x2 x3 x4 x5 x6 : Value} {x y : Int32} {st : List Value} {h : AH} : Run M_X5_choose 6 [x0, x1, x2, x3, x4, x5, x6] (.int y :: .int x :: st) h = Run M_X5_choose 7 [x0, x1, x2, x3, x4, x5, x6] (.int (x + y) :: st) h := R_iadd d_X5_choose_6
theorem d_X5_choose_7 : decode (mB M_X5_choose) 7 = .ok (.iaload, 1) := by decide +kernel
theorem r_X5_choose_7 {x0 x1 x2 x3 x4 x5 x6 : Value} {a : Nat} {i : Int32} {st : List Value} {h : AH} : Run M_X5_choose 7 [x0, x1, x2, x3, x4, x5, x6] (.int i :: .ref a :: st) h = if (gI 0 h a i).isSome = true then Run M_X5_choose 8 [x0, x1, x2, x3, x4, x5, x6] (.int ((gI 0 h a i).getD 0) :: st) h else none := R_iaload d_X5_choose_7
theorem d_X5_choose_8 : decode (mB M_X5_choose) 8 = .ok (.istore 4, 2) := by decide +kernel
theorem r_X5_choose_8 {x0 x1 x2 x3 x4 x5 x6 : Value} {a : Int32} {st : List Value} {h : AH} (hc : x3.category = 1) : Run M_X5_choose 8 [x0, x1, x2, x3, x4, x5, x6] (.int a :: st) h = Run M_X5_choose 10 [x0, x1, x2, x3, .int a, x5, x6] st h := R_istore d_X5_choose_8 (Nat.lt_of_lt_of_le (by decide : 4 < 7) (Nat.le_refl 7)) (catP_of rfl hc)
theorem d_X5_choose_10 : decode (mB M_X5_choose) 10 = .ok (.sipush 420, 3) := by decide +kernel
theorem r_X5_choose_10 {x0 x1 x2 x3 x4 x5 x6 : Value} {st : List Value} {h : AH} : Run M_X5_choose 10 [x0, x1, x2, x3, x4, x5, x6] st h = Run M_X5_choose 13 [x0, x1, x2, x3, x4, x5, x6] (.int (nI 420) :: st) h := R_sipush d_X5_choose_10 (by decide)
theorem d_X5_choose_13 : decode (mB M_X5_choose) 13 = .ok (.iload_n 3, 1) := by decide +kernel
theorem r_X5_choose_13 {x0 x1 x2 x4 x5 x6 : Value} {a : Int32} {st : List Value} {h : AH} : Run M_X5_choose 13 [x0, x1, x2, .int a, x4, x5, x6] st h = Run M_X5_choose 14 [x0, x1, x2, .int a, x4, x5, x6] (.int a :: st) h := R_iload_n d_X5_choose_13 rfl
theorem d_X5_choose_14 : decode (mB M_X5_choose) 14 = .ok (.ifCond .eq 8, 3) := by decide +kernel
theorem r_X5_choose_14 {x0 x1 x2 x3 x4 x5 x6 : Value} {x : Int32} {st : List Value} {h : AH} : Run M_X5_choose 14 [x0, x1, x2, x3, x4, x5, x6] (.int x :: st) h = if x = nI 0 then Run M_X5_choose 22 [x0, x1, x2, x3, x4, x5, x6] st h else Run M_X5_choose 17 [x0, x1, x2, x3, x4, x5, x6] st h := R_if_eq d_X5_choose_14 (by decide)
theorem d_X5_choose_17 : decode (mB M_X5_choose) 17 = .ok (.iload 4, 2) := by decide +kernel
theorem r_X5_choose_17 {x0 x1 x2 x3 x5 x6 : Value} {a : Int32} {st : List Value} {h : AH} : Run M_X5_choose 17 [x0, x1, x2, x3, .int a, x5, x6] st h = Run M_X5_choose 19 [x0, x1, x2, x3, .int a, x5, x6] (.int a :: st) h := R_iload d_X5_choose_17 rfl
theorem d_X5_choose_19 : decode (mB M_X5_choose) 19 = .ok (.goto 10, 3) := by decide +kernel
theorem r_X5_choose_19 {x0 x1 x2 x3 x4 x5 x6 : Value} {st : List Value} {h : AH} : Run M_X5_choose 19 [x0, x1, x2, x3, x4, x5, x6] st h = Run M_X5_choose 29 [x0, x1, x2, x3, x4, x5, x6] st h := R_goto d_X5_choose_19 (by decide)
theorem d_X5_choose_22 : decode (mB M_X5_choose) 22 = .ok (.iload 4, 2) := by decide +kernel
theorem r_X5_choose_22 {x0 x1 x2 x3 x5 x6 : Value} {a : Int32} {st : List Value} {h : AH} : Run M_X5_choose 22 [x0, x1, x2, x3, .int a, x5, x6] st h = Run M_X5_choose 24 [x0, x1, x2, x3, .int a, x5, x6] (.int a :: st) h := R_iload d_X5_choose_22 rfl
theorem d_X5_choose_24 : decode (mB M_X5_choose) 24 = .ok (.aload_n 1, 1) := by decide +kernel
theorem r_X5_choose_24 {x0 x2 x3 x4 x5 x6 : Value} {a : Nat} {st : List Value} {h : AH} : Run M_X5_choose 24 [x0, .ref a, x2, x3, x4, x5, x6] st h = Run M_X5_choose 25 [x0, .ref a, x2, x3, x4, x5, x6] (.ref a :: st) h := R_aload_n d_X5_choose_24 rfl
theorem d_X5_choose_25 : decode (mB M_X5_choose) 25 = .ok (.invokevirtual 76, 3) := by decide +kernel
theorem r_X5_choose_25 {x0 x1 x2 x3 x4 x5 x6 : Value} {a : Nat} {w0 w1 : Value} {h : AH} : Run M_X5_choose 25 [x0, x1, x2, x3, x4, x5, x6] (.ref a :: [w0, w1]) h = if refO h 6 (some (.ref a)) = true then (if (Call M_X6_longest h [.ref a]).isSome = true then Run M_X5_choose 28 [x0, x1, x2, x3, x4, x5, x6] (rL (Call M_X6_longest h [.ref a]) ++ [w0, w1]) (cH (Call M_X6_longest h [.ref a])) else none) else none := R_virt d_X5_choose_25 rfl rfl rfl rfl rfl (Nat.le_of_ble_eq_true rfl)
theorem d_X5_choose_28 : decode (mB M_X5_choose) 28 = .ok (.iadd, 1) := by decide +kernel
theorem r_X5_choose_28 {x0 x1 x2 x3 x4 x5 x6 : Value} {x y : Int32} {st : List Value} {h : AH} : Run M_X5_choose 28 [x0, x1, x2, x3, x4, x5, x6] (.int y :: .int x :: st) h = Run M_X5_choose 29 [x0, x1, x2, x3, x4, x5, x6] (.int (x + y) :: st) h := R_iadd d_X5_choose_28
theorem d_X5_choose_29 : decode (mB M_X5_choose) 29 = .ok (.invokestatic 52, 3) := by decide +kernel
theorem r_X5_choose_29 {x0 x1 x2 x3 x4 x5 x6 : Value} {p0 : Int32} {p1 : Int32} {h : AH} : Run M_X5_choose 29 [x0, x1, x2, x3, x4, x5, x6] (.int p1 :: .int p0 :: []) h = if (Call M_J9_min_7cf53 h [.int p0, .int p1]).isSome = true then Run M_X5_choose 32 [x0, x1, x2, x3, x4, x5, x6] (rL (Call M_J9_min_7cf53 h [.int p0, .int p1]) ++ []) (cH (Call M_J9_min_7cf53 h [.int p0, .int p1])) else none := R_stat d_X5_choose_29 rfl rfl rfl rfl (Nat.le_of_ble_eq_true rfl)
theorem d_X5_choose_32 : decode (mB M_X5_choose) 32 = .ok (.istore 5, 2) := by decide +kernel
theorem r_X5_choose_32 {x0 x1 x2 x3 x4 x5 x6 : Value} {a : Int32} {st : List Value} {h : AH} (hc : x4.category = 1) : Run M_X5_choose 32 [x0, x1, x2, x3, x4, x5, x6] (.int a :: st) h = Run M_X5_choose 34 [x0, x1, x2, x3, x4, .int a, x6] st h := R_istore d_X5_choose_32 (Nat.lt_of_lt_of_le (by decide : 5 < 7) (Nat.le_refl 7)) (catP_of rfl hc)
theorem d_X5_choose_34 : decode (mB M_X5_choose) 34 = .ok (.iconst 0, 1) := by decide +kernel
theorem r_X5_choose_34 {x0 x1 x2 x3 x4 x5 x6 : Value} {st : List Value} {h : AH} : Run M_X5_choose 34 [x0, x1, x2, x3, x4, x5, x6] st h = Run M_X5_choose 35 [x0, x1, x2, x3, x4, x5, x6] (.int (nI 0) :: st) h := R_iconst d_X5_choose_34 (by decide)
theorem d_X5_choose_35 : decode (mB M_X5_choose) 35 = .ok (.istore 6, 2) := by decide +kernel
theorem r_X5_choose_35 {x0 x1 x2 x3 x4 x5 x6 : Value} {a : Int32} {st : List Value} {h : AH} (hc : x5.category = 1) : Run M_X5_choose 35 [x0, x1, x2, x3, x4, x5, x6] (.int a :: st) h = Run M_X5_choose 37 [x0, x1, x2, x3, x4, x5, .int a] st h := R_istore d_X5_choose_35 (Nat.lt_of_lt_of_le (by decide : 6 < 7) (Nat.le_refl 7)) (catP_of rfl hc)
theorem d_X5_choose_37 : decode (mB M_X5_choose) 37 = .ok (.iload 6, 2) := by decide +kernel
theorem r_X5_choose_37 {x0 x1 x2 x3 x4 x5 : Value} {a : Int32} {st : List Value} {h : AH} : Run M_X5_choose 37 [x0, x1, x2, x3, x4, x5, .int a] st h = Run M_X5_choose 39 [x0, x1, x2, x3, x4, x5, .int a] (.int a :: st) h := R_iload d_X5_choose_37 rfl
theorem d_X5_choose_39 : decode (mB M_X5_choose) 39 = .ok (.iload 5, 2) := by decide +kernel
theorem r_X5_choose_39 {x0 x1 x2 x3 x4 x6 : Value} {a : Int32} {st : List Value} {h : AH} : Run M_X5_choose 39 [x0, x1, x2, x3, x4, .int a, x6] st h = Run M_X5_choose 41 [x0, x1, x2, x3, x4, .int a, x6] (.int a :: st) h := R_iload d_X5_choose_39 rfl
theorem d_X5_choose_41 : decode (mB M_X5_choose) 41 = .ok (.if_icmp .gt 19, 3) := by decide +kernel
theorem r_X5_choose_41 {x0 x1 x2 x3 x4 x5 x6 : Value} {x y : Int32} {st : List Value} {h : AH} : Run M_X5_choose 41 [x0, x1, x2, x3, x4, x5, x6] (.int y :: .int x :: st) h = if y < x then Run M_X5_choose 60 [x0, x1, x2, x3, x4, x5, x6] st h else Run M_X5_choose 44 [x0, x1, x2, x3, x4, x5, x6] st h := R_icmp_gt d_X5_choose_41 (by decide)
theorem d_X5_choose_44 : decode (mB M_X5_choose) 44 = .ok (.aload_n 0, 1) := by decide +kernel
theorem r_X5_choose_44 {x1 x2 x3 x4 x5 x6 : Value} {a : Nat} {st : List Value} {h : AH} : Run M_X5_choose 44 [.ref a, x1, x2, x3, x4, x5, x6] st h = Run M_X5_choose 45 [.ref a, x1, x2, x3, x4, x5, x6] (.ref a :: st) h := R_aload_n d_X5_choose_44 rfl
theorem d_X5_choose_45 : decode (mB M_X5_choose) 45 = .ok (.getfield 27, 3) := by decide +kernel
theorem r_X5_choose_45 {x0 x1 x2 x3 x4 x5 x6 : Value} {a : Nat} {st : List Value} {h : AH} : Run M_X5_choose 45 [x0, x1, x2, x3, x4, x5, x6] (.ref a :: st) h = if (gF h a 5 4).isSome = true then Run M_X5_choose 48 [x0, x1, x2, x3, x4, x5, x6] ((gF h a 5 4).getD .null :: st) h else none := R_getfield d_X5_choose_45 rfl
theorem d_X5_choose_48 : decode (mB M_X5_choose) 48 = .ok (.iload_n 2, 1) := by decide +kernel
theorem r_X5_choose_48 {x0 x1 x3 x4 x5 x6 : Value} {a : Int32} {st : List Value} {h : AH} : Run M_X5_choose 48 [x0, x1, .int a, x3, x4, x5, x6] st h = Run M_X5_choose 49 [x0, x1, .int a, x3, x4, x5, x6] (.int a :: st) h := R_iload_n d_X5_choose_48 rfl
theorem d_X5_choose_49 : decode (mB M_X5_choose) 49 = .ok (.aaload, 1) := by decide +kernel
theorem r_X5_choose_49 {x0 x1 x2 x3 x4 x5 x6 : Value} {a : Nat} {i : Int32} {st : List Value} {h : AH} : Run M_X5_choose 49 [x0, x1, x2, x3, x4, x5, x6] (.int i :: .ref a :: st) h = if (gR h a i).isSome = true then Run M_X5_choose 50 [x0, x1, x2, x3, x4, x5, x6] (.ref ((gR h a i).getD 0) :: st) h else none := R_aaload d_X5_choose_49
theorem d_X5_choose_50 : decode (mB M_X5_choose) 50 = .ok (.iload 6, 2) := by decide +kernel
theorem r_X5_choose_50 {x0 x1 x2 x3 x4 x5 : Value} {a : Int32} {st : List Value} {h : AH} : Run M_X5_choose 50 [x0, x1, x2, x3, x4, x5, .int a] st h = Run M_X5_choose 52 [x0, x1, x2, x3, x4, x5, .int a] (.int a :: st) h := R_iload d_X5_choose_50 rfl
theorem d_X5_choose_52 : decode (mB M_X5_choose) 52 = .ok (.lconst 0, 1) := by decide +kernel
theorem r_X5_choose_52 {x0 x1 x2 x3 x4 x5 x6 : Value} {st : List Value} {h : AH} : Run M_X5_choose 52 [x0, x1, x2, x3, x4, x5, x6] st h = Run M_X5_choose 53 [x0, x1, x2, x3, x4, x5, x6] (.long (lN 0) :: st) h := R_lconst d_X5_choose_52 (by decide)
theorem d_X5_choose_53 : decode (mB M_X5_choose) 53 = .ok (.lastore, 1) := by decide +kernel
theorem r_X5_choose_53 {x0 x1 x2 x3 x4 x5 x6 : Value} {a : Nat} {i : Int32} {x : Int64} {st : List Value} {h : AH} : Run M_X5_choose 53 [x0, x1, x2, x3, x4, x5, x6] (.long x :: .int i :: .ref a :: st) h = if (pJ h a i x).isSome = true then Run M_X5_choose 54 [x0, x1, x2, x3, x4, x5, x6] st ((pJ h a i x).getD h) else none := R_lastore d_X5_choose_53
theorem d_X5_choose_54 : decode (mB M_X5_choose) 54 = .ok (.iinc 6 1, 3) := by decide +kernel
theorem r_X5_choose_54 {x0 x1 x2 x3 x4 x5 : Value} {a : Int32} {st : List Value} {h : AH} (hc : x5.category = 1) : Run M_X5_choose 54 [x0, x1, x2, x3, x4, x5, .int a] st h = Run M_X5_choose 57 [x0, x1, x2, x3, x4, x5, .int (a + (nI 1))] st h := R_iinc d_X5_choose_54 (by decide) rfl (catP_of rfl hc)
theorem d_X5_choose_57 : decode (mB M_X5_choose) 57 = .ok (.goto (-20), 3) := by decide +kernel
theorem r_X5_choose_57 {x0 x1 x2 x3 x4 x5 x6 : Value} {st : List Value} {h : AH} : Run M_X5_choose 57 [x0, x1, x2, x3, x4, x5, x6] st h = Run M_X5_choose 37 [x0, x1, x2, x3, x4, x5, x6] st h := R_goto d_X5_choose_57 (by decide)
theorem d_X5_choose_60 : decode (mB M_X5_choose) 60 = .ok (.iload_n 3, 1) := by decide +kernel
theorem r_X5_choose_60 {x0 x1 x2 x4 x5 x6 : Value} {a : Int32} {st : List Value} {h : AH} : Run M_X5_choose 60 [x0, x1, x2, .int a, x4, x5, x6] st h = Run M_X5_choose 61 [x0, x1, x2, .int a, x4, x5, x6] (.int a :: st) h := R_iload_n d_X5_choose_60 rfl
theorem d_X5_choose_61 : decode (mB M_X5_choose) 61 = .ok (.ifCond .eq 26, 3) := by decide +kernel
theorem r_X5_choose_61 {x0 x1 x2 x3 x4 x5 x6 : Value} {x : Int32} {st : List Value} {h : AH} : Run M_X5_choose 61 [x0, x1, x2, x3, x4, x5, x6] (.int x :: st) h = if x = nI 0 then Run M_X5_choose 87 [x0, x1, x2, x3, x4, x5, x6] st h else Run M_X5_choose 64 [x0, x1, x2, x3, x4, x5, x6] st h := R_if_eq d_X5_choose_61 (by decide)
theorem d_X5_choose_64 : decode (mB M_X5_choose) 64 = .ok (.aload_n 1, 1) := by decide +kernel
theorem r_X5_choose_64 {x0 x2 x3 x4 x5 x6 : Value} {a : Nat} {st : List Value} {h : AH} : Run M_X5_choose 64 [x0, .ref a, x2, x3, x4, x5, x6] st h = Run M_X5_choose 65 [x0, .ref a, x2, x3, x4, x5, x6] (.ref a :: st) h := R_aload_n d_X5_choose_64 rfl
theorem d_X5_choose_65 : decode (mB M_X5_choose) 65 = .ok (.aload_n 0, 1) := by decide +kernel
theorem r_X5_choose_65 {x1 x2 x3 x4 x5 x6 : Value} {a : Nat} {st : List Value} {h : AH} : Run M_X5_choose 65 [.ref a, x1, x2, x3, x4, x5, x6] st h = Run M_X5_choose 66 [.ref a, x1, x2, x3, x4, x5, x6] (.ref a :: st) h := R_aload_n d_X5_choose_65 rfl
theorem d_X5_choose_66 : decode (mB M_X5_choose) 66 = .ok (.getfield 27, 3) := by decide +kernel
theorem r_X5_choose_66 {x0 x1 x2 x3 x4 x5 x6 : Value} {a : Nat} {st : List Value} {h : AH} : Run M_X5_choose 66 [x0, x1, x2, x3, x4, x5, x6] (.ref a :: st) h = if (gF h a 5 4).isSome = true then Run M_X5_choose 69 [x0, x1, x2, x3, x4, x5, x6] ((gF h a 5 4).getD .null :: st) h else none := R_getfield d_X5_choose_66 rfl
theorem d_X5_choose_69 : decode (mB M_X5_choose) 69 = .ok (.iload_n 2, 1) := by decide +kernel
theorem r_X5_choose_69 {x0 x1 x3 x4 x5 x6 : Value} {a : Int32} {st : List Value} {h : AH} : Run M_X5_choose 69 [x0, x1, .int a, x3, x4, x5, x6] st h = Run M_X5_choose 70 [x0, x1, .int a, x3, x4, x5, x6] (.int a :: st) h := R_iload_n d_X5_choose_69 rfl
theorem d_X5_choose_70 : decode (mB M_X5_choose) 70 = .ok (.iconst 1, 1) := by decide +kernel
theorem r_X5_choose_70 {x0 x1 x2 x3 x4 x5 x6 : Value} {st : List Value} {h : AH} : Run M_X5_choose 70 [x0, x1, x2, x3, x4, x5, x6] st h = Run M_X5_choose 71 [x0, x1, x2, x3, x4, x5, x6] (.int (nI 1) :: st) h := R_iconst d_X5_choose_70 (by decide)
theorem d_X5_choose_71 : decode (mB M_X5_choose) 71 = .ok (.iadd, 1) := by decide +kernel
theorem r_X5_choose_71 {x0 x1 x2 x3 x4 x5 x6 : Value} {x y : Int32} {st : List Value} {h : AH} : Run M_X5_choose 71 [x0, x1, x2, x3, x4, x5, x6] (.int y :: .int x :: st) h = Run M_X5_choose 72 [x0, x1, x2, x3, x4, x5, x6] (.int (x + y) :: st) h := R_iadd d_X5_choose_71
theorem d_X5_choose_72 : decode (mB M_X5_choose) 72 = .ok (.aaload, 1) := by decide +kernel
theorem r_X5_choose_72 {x0 x1 x2 x3 x4 x5 x6 : Value} {a : Nat} {i : Int32} {st : List Value} {h : AH} : Run M_X5_choose 72 [x0, x1, x2, x3, x4, x5, x6] (.int i :: .ref a :: st) h = if (gR h a i).isSome = true then Run M_X5_choose 73 [x0, x1, x2, x3, x4, x5, x6] (.ref ((gR h a i).getD 0) :: st) h else none := R_aaload d_X5_choose_72
theorem d_X5_choose_73 : decode (mB M_X5_choose) 73 = .ok (.aload_n 0, 1) := by decide +kernel
theorem r_X5_choose_73 {x1 x2 x3 x4 x5 x6 : Value} {a : Nat} {st : List Value} {h : AH} : Run M_X5_choose 73 [.ref a, x1, x2, x3, x4, x5, x6] st h = Run M_X5_choose 74 [.ref a, x1, x2, x3, x4, x5, x6] (.ref a :: st) h := R_aload_n d_X5_choose_73 rfl
theorem d_X5_choose_74 : decode (mB M_X5_choose) 74 = .ok (.getfield 27, 3) := by decide +kernel
theorem r_X5_choose_74 {x0 x1 x2 x3 x4 x5 x6 : Value} {a : Nat} {st : List Value} {h : AH} : Run M_X5_choose 74 [x0, x1, x2, x3, x4, x5, x6] (.ref a :: st) h = if (gF h a 5 4).isSome = true then Run M_X5_choose 77 [x0, x1, x2, x3, x4, x5, x6] ((gF h a 5 4).getD .null :: st) h else none := R_getfield d_X5_choose_74 rfl
theorem d_X5_choose_77 : decode (mB M_X5_choose) 77 = .ok (.iload_n 2, 1) := by decide +kernel
theorem r_X5_choose_77 {x0 x1 x3 x4 x5 x6 : Value} {a : Int32} {st : List Value} {h : AH} : Run M_X5_choose 77 [x0, x1, .int a, x3, x4, x5, x6] st h = Run M_X5_choose 78 [x0, x1, .int a, x3, x4, x5, x6] (.int a :: st) h := R_iload_n d_X5_choose_77 rfl
theorem d_X5_choose_78 : decode (mB M_X5_choose) 78 = .ok (.aaload, 1) := by decide +kernel
theorem r_X5_choose_78 {x0 x1 x2 x3 x4 x5 x6 : Value} {a : Nat} {i : Int32} {st : List Value} {h : AH} : Run M_X5_choose 78 [x0, x1, x2, x3, x4, x5, x6] (.int i :: .ref a :: st) h = if (gR h a i).isSome = true then Run M_X5_choose 79 [x0, x1, x2, x3, x4, x5, x6] (.ref ((gR h a i).getD 0) :: st) h else none := R_aaload d_X5_choose_78
theorem d_X5_choose_79 : decode (mB M_X5_choose) 79 = .ok (.iload 4, 2) := by decide +kernel
theorem r_X5_choose_79 {x0 x1 x2 x3 x5 x6 : Value} {a : Int32} {st : List Value} {h : AH} : Run M_X5_choose 79 [x0, x1, x2, x3, .int a, x5, x6] st h = Run M_X5_choose 81 [x0, x1, x2, x3, .int a, x5, x6] (.int a :: st) h := R_iload d_X5_choose_79 rfl
theorem d_X5_choose_81 : decode (mB M_X5_choose) 81 = .ok (.invokevirtual 82, 3) := by decide +kernel
theorem r_X5_choose_81 {x0 x1 x2 x3 x4 x5 x6 : Value} {p0 : Nat} {p1 : Nat} {p2 : Int32} {a : Nat} {h : AH} : Run M_X5_choose 81 [x0, x1, x2, x3, x4, x5, x6] (.int p2 :: .ref p1 :: .ref p0 :: .ref a :: []) h = if refO h 6 (some (.ref a)) = true then (if (Call M_X6_addLeftOut h [.ref a, .ref p0, .ref p1, .int p2]).isSome = true then Run M_X5_choose 84 [x0, x1, x2, x3, x4, x5, x6] (rL (Call M_X6_addLeftOut h [.ref a, .ref p0, .ref p1, .int p2]) ++ []) (cH (Call M_X6_addLeftOut h [.ref a, .ref p0, .ref p1, .int p2])) else none) else none := R_virt d_X5_choose_81 rfl rfl rfl rfl rfl (Nat.le_of_ble_eq_true rfl)
theorem d_X5_choose_84 : decode (mB M_X5_choose) 84 = .ok (.goto 23, 3) := by decide +kernel
theorem r_X5_choose_84 {x0 x1 x2 x3 x4 x5 x6 : Value} {st : List Value} {h : AH} : Run M_X5_choose 84 [x0, x1, x2, x3, x4, x5, x6] st h = Run M_X5_choose 107 [x0, x1, x2, x3, x4, x5, x6] st h := R_goto d_X5_choose_84 (by decide)
theorem d_X5_choose_87 : decode (mB M_X5_choose) 87 = .ok (.aload_n 1, 1) := by decide +kernel
theorem r_X5_choose_87 {x0 x2 x3 x4 x5 x6 : Value} {a : Nat} {st : List Value} {h : AH} : Run M_X5_choose 87 [x0, .ref a, x2, x3, x4, x5, x6] st h = Run M_X5_choose 88 [x0, .ref a, x2, x3, x4, x5, x6] (.ref a :: st) h := R_aload_n d_X5_choose_87 rfl
theorem d_X5_choose_88 : decode (mB M_X5_choose) 88 = .ok (.aload_n 0, 1) := by decide +kernel
theorem r_X5_choose_88 {x1 x2 x3 x4 x5 x6 : Value} {a : Nat} {st : List Value} {h : AH} : Run M_X5_choose 88 [.ref a, x1, x2, x3, x4, x5, x6] st h = Run M_X5_choose 89 [.ref a, x1, x2, x3, x4, x5, x6] (.ref a :: st) h := R_aload_n d_X5_choose_88 rfl
theorem d_X5_choose_89 : decode (mB M_X5_choose) 89 = .ok (.getfield 27, 3) := by decide +kernel
theorem r_X5_choose_89 {x0 x1 x2 x3 x4 x5 x6 : Value} {a : Nat} {st : List Value} {h : AH} : Run M_X5_choose 89 [x0, x1, x2, x3, x4, x5, x6] (.ref a :: st) h = if (gF h a 5 4).isSome = true then Run M_X5_choose 92 [x0, x1, x2, x3, x4, x5, x6] ((gF h a 5 4).getD .null :: st) h else none := R_getfield d_X5_choose_89 rfl
theorem d_X5_choose_92 : decode (mB M_X5_choose) 92 = .ok (.iload_n 2, 1) := by decide +kernel
theorem r_X5_choose_92 {x0 x1 x3 x4 x5 x6 : Value} {a : Int32} {st : List Value} {h : AH} : Run M_X5_choose 92 [x0, x1, .int a, x3, x4, x5, x6] st h = Run M_X5_choose 93 [x0, x1, .int a, x3, x4, x5, x6] (.int a :: st) h := R_iload_n d_X5_choose_92 rfl
theorem d_X5_choose_93 : decode (mB M_X5_choose) 93 = .ok (.iconst 1, 1) := by decide +kernel
theorem r_X5_choose_93 {x0 x1 x2 x3 x4 x5 x6 : Value} {st : List Value} {h : AH} : Run M_X5_choose 93 [x0, x1, x2, x3, x4, x5, x6] st h = Run M_X5_choose 94 [x0, x1, x2, x3, x4, x5, x6] (.int (nI 1) :: st) h := R_iconst d_X5_choose_93 (by decide)
theorem d_X5_choose_94 : decode (mB M_X5_choose) 94 = .ok (.iadd, 1) := by decide +kernel
theorem r_X5_choose_94 {x0 x1 x2 x3 x4 x5 x6 : Value} {x y : Int32} {st : List Value} {h : AH} : Run M_X5_choose 94 [x0, x1, x2, x3, x4, x5, x6] (.int y :: .int x :: st) h = Run M_X5_choose 95 [x0, x1, x2, x3, x4, x5, x6] (.int (x + y) :: st) h := R_iadd d_X5_choose_94
theorem d_X5_choose_95 : decode (mB M_X5_choose) 95 = .ok (.aaload, 1) := by decide +kernel
theorem r_X5_choose_95 {x0 x1 x2 x3 x4 x5 x6 : Value} {a : Nat} {i : Int32} {st : List Value} {h : AH} : Run M_X5_choose 95 [x0, x1, x2, x3, x4, x5, x6] (.int i :: .ref a :: st) h = if (gR h a i).isSome = true then Run M_X5_choose 96 [x0, x1, x2, x3, x4, x5, x6] (.ref ((gR h a i).getD 0) :: st) h else none := R_aaload d_X5_choose_95
theorem d_X5_choose_96 : decode (mB M_X5_choose) 96 = .ok (.aload_n 0, 1) := by decide +kernel
theorem r_X5_choose_96 {x1 x2 x3 x4 x5 x6 : Value} {a : Nat} {st : List Value} {h : AH} : Run M_X5_choose 96 [.ref a, x1, x2, x3, x4, x5, x6] st h = Run M_X5_choose 97 [.ref a, x1, x2, x3, x4, x5, x6] (.ref a :: st) h := R_aload_n d_X5_choose_96 rfl
theorem d_X5_choose_97 : decode (mB M_X5_choose) 97 = .ok (.getfield 27, 3) := by decide +kernel
theorem r_X5_choose_97 {x0 x1 x2 x3 x4 x5 x6 : Value} {a : Nat} {st : List Value} {h : AH} : Run M_X5_choose 97 [x0, x1, x2, x3, x4, x5, x6] (.ref a :: st) h = if (gF h a 5 4).isSome = true then Run M_X5_choose 100 [x0, x1, x2, x3, x4, x5, x6] ((gF h a 5 4).getD .null :: st) h else none := R_getfield d_X5_choose_97 rfl
theorem d_X5_choose_100 : decode (mB M_X5_choose) 100 = .ok (.iload_n 2, 1) := by decide +kernel
theorem r_X5_choose_100 {x0 x1 x3 x4 x5 x6 : Value} {a : Int32} {st : List Value} {h : AH} : Run M_X5_choose 100 [x0, x1, .int a, x3, x4, x5, x6] st h = Run M_X5_choose 101 [x0, x1, .int a, x3, x4, x5, x6] (.int a :: st) h := R_iload_n d_X5_choose_100 rfl
theorem d_X5_choose_101 : decode (mB M_X5_choose) 101 = .ok (.aaload, 1) := by decide +kernel
theorem r_X5_choose_101 {x0 x1 x2 x3 x4 x5 x6 : Value} {a : Nat} {i : Int32} {st : List Value} {h : AH} : Run M_X5_choose 101 [x0, x1, x2, x3, x4, x5, x6] (.int i :: .ref a :: st) h = if (gR h a i).isSome = true then Run M_X5_choose 102 [x0, x1, x2, x3, x4, x5, x6] (.ref ((gR h a i).getD 0) :: st) h else none := R_aaload d_X5_choose_101
theorem d_X5_choose_102 : decode (mB M_X5_choose) 102 = .ok (.iload 4, 2) := by decide +kernel
theorem r_X5_choose_102 {x0 x1 x2 x3 x5 x6 : Value} {a : Int32} {st : List Value} {h : AH} : Run M_X5_choose 102 [x0, x1, x2, x3, .int a, x5, x6] st h = Run M_X5_choose 104 [x0, x1, x2, x3, .int a, x5, x6] (.int a :: st) h := R_iload d_X5_choose_102 rfl
theorem d_X5_choose_104 : decode (mB M_X5_choose) 104 = .ok (.invokevirtual 86, 3) := by decide +kernel
theorem r_X5_choose_104 {x0 x1 x2 x3 x4 x5 x6 : Value} {p0 : Nat} {p1 : Nat} {p2 : Int32} {a : Nat} {h : AH} : Run M_X5_choose 104 [x0, x1, x2, x3, x4, x5, x6] (.int p2 :: .ref p1 :: .ref p0 :: .ref a :: []) h = if refO h 6 (some (.ref a)) = true then (if (Call M_X6_addPlayed h [.ref a, .ref p0, .ref p1, .int p2]).isSome = true then Run M_X5_choose 107 [x0, x1, x2, x3, x4, x5, x6] (rL (Call M_X6_addPlayed h [.ref a, .ref p0, .ref p1, .int p2]) ++ []) (cH (Call M_X6_addPlayed h [.ref a, .ref p0, .ref p1, .int p2])) else none) else none := R_virt d_X5_choose_104 rfl rfl rfl rfl rfl (Nat.le_of_ble_eq_true rfl)
theorem d_X5_choose_107 : decode (mB M_X5_choose) 107 = .ok (.aload_n 0, 1) := by decide +kernel
theorem r_X5_choose_107 {x1 x2 x3 x4 x5 x6 : Value} {a : Nat} {st : List Value} {h : AH} : Run M_X5_choose 107 [.ref a, x1, x2, x3, x4, x5, x6] st h = Run M_X5_choose 108 [.ref a, x1, x2, x3, x4, x5, x6] (.ref a :: st) h := R_aload_n d_X5_choose_107 rfl
theorem d_X5_choose_108 : decode (mB M_X5_choose) 108 = .ok (.getfield 30, 3) := by decide +kernel
theorem r_X5_choose_108 {x0 x1 x2 x3 x4 x5 x6 : Value} {a : Nat} {st : List Value} {h : AH} : Run M_X5_choose 108 [x0, x1, x2, x3, x4, x5, x6] (.ref a :: st) h = if (gF h a 5 5).isSome = true then Run M_X5_choose 111 [x0, x1, x2, x3, x4, x5, x6] ((gF h a 5 5).getD .null :: st) h else none := R_getfield d_X5_choose_108 rfl
theorem d_X5_choose_111 : decode (mB M_X5_choose) 111 = .ok (.iload_n 2, 1) := by decide +kernel
theorem r_X5_choose_111 {x0 x1 x3 x4 x5 x6 : Value} {a : Int32} {st : List Value} {h : AH} : Run M_X5_choose 111 [x0, x1, .int a, x3, x4, x5, x6] st h = Run M_X5_choose 112 [x0, x1, .int a, x3, x4, x5, x6] (.int a :: st) h := R_iload_n d_X5_choose_111 rfl
theorem d_X5_choose_112 : decode (mB M_X5_choose) 112 = .ok (.iload 5, 2) := by decide +kernel
theorem r_X5_choose_112 {x0 x1 x2 x3 x4 x6 : Value} {a : Int32} {st : List Value} {h : AH} : Run M_X5_choose 112 [x0, x1, x2, x3, x4, .int a, x6] st h = Run M_X5_choose 114 [x0, x1, x2, x3, x4, .int a, x6] (.int a :: st) h := R_iload d_X5_choose_112 rfl
theorem d_X5_choose_114 : decode (mB M_X5_choose) 114 = .ok (.iastore, 1) := by decide +kernel
theorem r_X5_choose_114 {x0 x1 x2 x3 x4 x5 x6 : Value} {a : Nat} {i x : Int32} {st : List Value} {h : AH} : Run M_X5_choose 114 [x0, x1, x2, x3, x4, x5, x6] (.int x :: .int i :: .ref a :: st) h = if (pI 0 h a i x).isSome = true then Run M_X5_choose 115 [x0, x1, x2, x3, x4, x5, x6] st ((pI 0 h a i x).getD h) else none := R_iastore d_X5_choose_114
theorem d_X5_choose_115 : decode (mB M_X5_choose) 115 = .ok (.return_, 1) := by decide +kernel
theorem r_X5_choose_115 {x0 x1 x2 x3 x4 x5 x6 : Value} {h : AH} : Run M_X5_choose 115 [x0, x1, x2, x3, x4, x5, x6] [] h = some (h, none) := R_return d_X5_choose_115 rfl
theorem d_X5_note_0 : decode (mB M_X5_note) 0 = .ok (.iconst 0, 1) := by decide +kernel
theorem r_X5_note_0 {x0 x1 x2 x3 x4 : Value} {st : List Value} {h : AH} : Run M_X5_note 0 [x0, x1, x2, x3, x4] st h = Run M_X5_note 1 [x0, x1, x2, x3, x4] (.int (nI 0) :: st) h := R_iconst d_X5_note_0 (by decide)
theorem d_X5_note_1 : decode (mB M_X5_note) 1 = .ok (.istore_n 2, 1) := by decide +kernel
theorem r_X5_note_1 {x0 x1 x2 x3 x4 : Value} {a : Int32} {st : List Value} {h : AH} (hc : x1.category = 1) : Run M_X5_note 1 [x0, x1, x2, x3, x4] (.int a :: st) h = Run M_X5_note 2 [x0, x1, .int a, x3, x4] st h := R_istore_n d_X5_note_1 (Nat.lt_of_lt_of_le (by decide : 2 < 5) (Nat.le_refl 5)) (catP_of rfl hc)
theorem d_X5_note_2 : decode (mB M_X5_note) 2 = .ok (.iload_n 2, 1) := by decide +kernel
theorem r_X5_note_2 {x0 x1 x3 x4 : Value} {a : Int32} {st : List Value} {h : AH} : Run M_X5_note 2 [x0, x1, .int a, x3, x4] st h = Run M_X5_note 3 [x0, x1, .int a, x3, x4] (.int a :: st) h := R_iload_n d_X5_note_2 rfl
theorem d_X5_note_3 : decode (mB M_X5_note) 3 = .ok (.aload_n 0, 1) := by decide +kernel
theorem r_X5_note_3 {x1 x2 x3 x4 : Value} {a : Nat} {st : List Value} {h : AH} : Run M_X5_note 3 [.ref a, x1, x2, x3, x4] st h = Run M_X5_note 4 [.ref a, x1, x2, x3, x4] (.ref a :: st) h := R_aload_n d_X5_note_3 rfl
theorem d_X5_note_4 : decode (mB M_X5_note) 4 = .ok (.getfield 30, 3) := by decide +kernel
theorem r_X5_note_4 {x0 x1 x2 x3 x4 : Value} {a : Nat} {st : List Value} {h : AH} : Run M_X5_note 4 [x0, x1, x2, x3, x4] (.ref a :: st) h = if (gF h a 5 5).isSome = true then Run M_X5_note 7 [x0, x1, x2, x3, x4] ((gF h a 5 5).getD .null :: st) h else none := R_getfield d_X5_note_4 rfl
theorem d_X5_note_7 : decode (mB M_X5_note) 7 = .ok (.iconst 0, 1) := by decide +kernel
theorem r_X5_note_7 {x0 x1 x2 x3 x4 : Value} {st : List Value} {h : AH} : Run M_X5_note 7 [x0, x1, x2, x3, x4] st h = Run M_X5_note 8 [x0, x1, x2, x3, x4] (.int (nI 0) :: st) h := R_iconst d_X5_note_7 (by decide)
theorem d_X5_note_8 : decode (mB M_X5_note) 8 = .ok (.iaload, 1) := by decide +kernel
theorem r_X5_note_8 {x0 x1 x2 x3 x4 : Value} {a : Nat} {i : Int32} {st : List Value} {h : AH} : Run M_X5_note 8 [x0, x1, x2, x3, x4] (.int i :: .ref a :: st) h = if (gI 0 h a i).isSome = true then Run M_X5_note 9 [x0, x1, x2, x3, x4] (.int ((gI 0 h a i).getD 0) :: st) h else none := R_iaload d_X5_note_8
theorem d_X5_note_9 : decode (mB M_X5_note) 9 = .ok (.if_icmp .gt 93, 3) := by decide +kernel
theorem r_X5_note_9 {x0 x1 x2 x3 x4 : Value} {x y : Int32} {st : List Value} {h : AH} : Run M_X5_note 9 [x0, x1, x2, x3, x4] (.int y :: .int x :: st) h = if y < x then Run M_X5_note 102 [x0, x1, x2, x3, x4] st h else Run M_X5_note 12 [x0, x1, x2, x3, x4] st h := R_icmp_gt d_X5_note_9 (by decide)
theorem d_X5_note_12 : decode (mB M_X5_note) 12 = .ok (.iload_n 2, 1) := by decide +kernel
theorem r_X5_note_12 {x0 x1 x3 x4 : Value} {a : Int32} {st : List Value} {h : AH} : Run M_X5_note 12 [x0, x1, .int a, x3, x4] st h = Run M_X5_note 13 [x0, x1, .int a, x3, x4] (.int a :: st) h := R_iload_n d_X5_note_12 rfl
theorem d_X5_note_13 : decode (mB M_X5_note) 13 = .ok (.sipush 420, 3) := by decide +kernel
theorem r_X5_note_13 {x0 x1 x2 x3 x4 : Value} {st : List Value} {h : AH} : Run M_X5_note 13 [x0, x1, x2, x3, x4] st h = Run M_X5_note 16 [x0, x1, x2, x3, x4] (.int (nI 420) :: st) h := R_sipush d_X5_note_13 (by decide)
theorem d_X5_note_16 : decode (mB M_X5_note) 16 = .ok (.if_icmp .gt 86, 3) := by decide +kernel
theorem r_X5_note_16 {x0 x1 x2 x3 x4 : Value} {x y : Int32} {st : List Value} {h : AH} : Run M_X5_note 16 [x0, x1, x2, x3, x4] (.int y :: .int x :: st) h = if y < x then Run M_X5_note 102 [x0, x1, x2, x3, x4] st h else Run M_X5_note 19 [x0, x1, x2, x3, x4] st h := R_icmp_gt d_X5_note_16 (by decide)
theorem d_X5_note_19 : decode (mB M_X5_note) 19 = .ok (.aload_n 0, 1) := by decide +kernel
theorem r_X5_note_19 {x1 x2 x3 x4 : Value} {a : Nat} {st : List Value} {h : AH} : Run M_X5_note 19 [.ref a, x1, x2, x3, x4] st h = Run M_X5_note 20 [.ref a, x1, x2, x3, x4] (.ref a :: st) h := R_aload_n d_X5_note_19 rfl
theorem d_X5_note_20 : decode (mB M_X5_note) 20 = .ok (.getfield 27, 3) := by decide +kernel
theorem r_X5_note_20 {x0 x1 x2 x3 x4 : Value} {a : Nat} {st : List Value} {h : AH} : Run M_X5_note 20 [x0, x1, x2, x3, x4] (.ref a :: st) h = if (gF h a 5 4).isSome = true then Run M_X5_note 23 [x0, x1, x2, x3, x4] ((gF h a 5 4).getD .null :: st) h else none := R_getfield d_X5_note_20 rfl
theorem d_X5_note_23 : decode (mB M_X5_note) 23 = .ok (.iconst 0, 1) := by decide +kernel
theorem r_X5_note_23 {x0 x1 x2 x3 x4 : Value} {st : List Value} {h : AH} : Run M_X5_note 23 [x0, x1, x2, x3, x4] st h = Run M_X5_note 24 [x0, x1, x2, x3, x4] (.int (nI 0) :: st) h := R_iconst d_X5_note_23 (by decide)
theorem d_X5_note_24 : decode (mB M_X5_note) 24 = .ok (.aaload, 1) := by decide +kernel
theorem r_X5_note_24 {x0 x1 x2 x3 x4 : Value} {a : Nat} {i : Int32} {st : List Value} {h : AH} : Run M_X5_note 24 [x0, x1, x2, x3, x4] (.int i :: .ref a :: st) h = if (gR h a i).isSome = true then Run M_X5_note 25 [x0, x1, x2, x3, x4] (.ref ((gR h a i).getD 0) :: st) h else none := R_aaload d_X5_note_24
theorem d_X5_note_25 : decode (mB M_X5_note) 25 = .ok (.iload_n 2, 1) := by decide +kernel
theorem r_X5_note_25 {x0 x1 x3 x4 : Value} {a : Int32} {st : List Value} {h : AH} : Run M_X5_note 25 [x0, x1, .int a, x3, x4] st h = Run M_X5_note 26 [x0, x1, .int a, x3, x4] (.int a :: st) h := R_iload_n d_X5_note_25 rfl
theorem d_X5_note_26 : decode (mB M_X5_note) 26 = .ok (.laload, 1) := by decide +kernel
theorem r_X5_note_26 {x0 x1 x2 x3 x4 : Value} {a : Nat} {i : Int32} {st : List Value} {h : AH} : Run M_X5_note 26 [x0, x1, x2, x3, x4] (.int i :: .ref a :: st) h = if (gJ h a i).isSome = true then Run M_X5_note 27 [x0, x1, x2, x3, x4] (.long ((gJ h a i).getD 0) :: st) h else none := R_laload d_X5_note_26
theorem d_X5_note_27 : decode (mB M_X5_note) 27 = .ok (.lstore_n 3, 1) := by decide +kernel
theorem r_X5_note_27 {x0 x1 x2 x3 x4 : Value} {a : Int64} {st : List Value} {h : AH} (hc : x2.category = 1) : Run M_X5_note 27 [x0, x1, x2, x3, x4] (.long a :: st) h = Run M_X5_note 28 [x0, x1, x2, .long a, .null] st h := R_lstore_n d_X5_note_27 (Nat.lt_of_lt_of_le (by decide : 4 < 5) (Nat.le_refl 5)) (catP_of rfl hc)
theorem d_X5_note_28 : decode (mB M_X5_note) 28 = .ok (.lload_n 3, 1) := by decide +kernel
theorem r_X5_note_28 {x0 x1 x2 x4 : Value} {a : Int64} {st : List Value} {h : AH} : Run M_X5_note 28 [x0, x1, x2, .long a, x4] st h = Run M_X5_note 29 [x0, x1, x2, .long a, x4] (.long a :: st) h := R_lload_n d_X5_note_28 rfl
theorem d_X5_note_29 : decode (mB M_X5_note) 29 = .ok (.lconst 0, 1) := by decide +kernel
theorem r_X5_note_29 {x0 x1 x2 x3 x4 : Value} {st : List Value} {h : AH} : Run M_X5_note 29 [x0, x1, x2, x3, x4] st h = Run M_X5_note 30 [x0, x1, x2, x3, x4] (.long (lN 0) :: st) h := R_lconst d_X5_note_29 (by decide)
theorem d_X5_note_30 : decode (mB M_X5_note) 30 = .ok (.lcmp, 1) := by decide +kernel
theorem r_X5_note_30 {x0 x1 x2 x3 x4 : Value} {x y : Int64} {st : List Value} {h : AH} : Run M_X5_note 30 [x0, x1, x2, x3, x4] (.long y :: .long x :: st) h = Run M_X5_note 31 [x0, x1, x2, x3, x4] (.int (lg_cmp x y) :: st) h := R_lcmp d_X5_note_30
theorem d_X5_note_31 : decode (mB M_X5_note) 31 = .ok (.ifCond .le 65, 3) := by decide +kernel
theorem r_X5_note_31 {x0 x1 x2 x3 x4 : Value} {x : Int32} {st : List Value} {h : AH} : Run M_X5_note 31 [x0, x1, x2, x3, x4] (.int x :: st) h = if x ≤ nI 0 then Run M_X5_note 96 [x0, x1, x2, x3, x4] st h else Run M_X5_note 34 [x0, x1, x2, x3, x4] st h := R_if_le d_X5_note_31 (by decide)
theorem d_X5_note_34 : decode (mB M_X5_note) 34 = .ok (.aload_n 0, 1) := by decide +kernel
theorem r_X5_note_34 {x1 x2 x3 x4 : Value} {a : Nat} {st : List Value} {h : AH} : Run M_X5_note 34 [.ref a, x1, x2, x3, x4] st h = Run M_X5_note 35 [.ref a, x1, x2, x3, x4] (.ref a :: st) h := R_aload_n d_X5_note_34 rfl
theorem d_X5_note_35 : decode (mB M_X5_note) 35 = .ok (.getfield 15, 3) := by decide +kernel
theorem r_X5_note_35 {x0 x1 x2 x3 x4 : Value} {a : Nat} {st : List Value} {h : AH} : Run M_X5_note 35 [x0, x1, x2, x3, x4] (.ref a :: st) h = if (gF h a 5 1).isSome = true then Run M_X5_note 38 [x0, x1, x2, x3, x4] ((gF h a 5 1).getD .null :: st) h else none := R_getfield d_X5_note_35 rfl
theorem d_X5_note_38 : decode (mB M_X5_note) 38 = .ok (.iload_n 2, 1) := by decide +kernel
theorem r_X5_note_38 {x0 x1 x3 x4 : Value} {a : Int32} {st : List Value} {h : AH} : Run M_X5_note 38 [x0, x1, .int a, x3, x4] st h = Run M_X5_note 39 [x0, x1, .int a, x3, x4] (.int a :: st) h := R_iload_n d_X5_note_38 rfl
theorem d_X5_note_39 : decode (mB M_X5_note) 39 = .ok (.aload_n 0, 1) := by decide +kernel
theorem r_X5_note_39 {x1 x2 x3 x4 : Value} {a : Nat} {st : List Value} {h : AH} : Run M_X5_note 39 [.ref a, x1, x2, x3, x4] st h = Run M_X5_note 40 [.ref a, x1, x2, x3, x4] (.ref a :: st) h := R_aload_n d_X5_note_39 rfl
theorem d_X5_note_40 : decode (mB M_X5_note) 40 = .ok (.getfield 9, 3) := by decide +kernel
theorem r_X5_note_40 {x0 x1 x2 x3 x4 : Value} {a : Nat} {st : List Value} {h : AH} : Run M_X5_note 40 [x0, x1, x2, x3, x4] (.ref a :: st) h = if (gF h a 5 0).isSome = true then Run M_X5_note 43 [x0, x1, x2, x3, x4] ((gF h a 5 0).getD .null :: st) h else none := R_getfield d_X5_note_40 rfl
theorem d_X5_note_43 : decode (mB M_X5_note) 43 = .ok (.iload_n 2, 1) := by decide +kernel
theorem r_X5_note_43 {x0 x1 x3 x4 : Value} {a : Int32} {st : List Value} {h : AH} : Run M_X5_note 43 [x0, x1, .int a, x3, x4] st h = Run M_X5_note 44 [x0, x1, .int a, x3, x4] (.int a :: st) h := R_iload_n d_X5_note_43 rfl
theorem d_X5_note_44 : decode (mB M_X5_note) 44 = .ok (.iaload, 1) := by decide +kernel
theorem r_X5_note_44 {x0 x1 x2 x3 x4 : Value} {a : Nat} {i : Int32} {st : List Value} {h : AH} : Run M_X5_note 44 [x0, x1, x2, x3, x4] (.int i :: .ref a :: st) h = if (gI 0 h a i).isSome = true then Run M_X5_note 45 [x0, x1, x2, x3, x4] (.int ((gI 0 h a i).getD 0) :: st) h else none := R_iaload d_X5_note_44
theorem d_X5_note_45 : decode (mB M_X5_note) 45 = .ok (.ifCond .ne 7, 3) := by decide +kernel
theorem r_X5_note_45 {x0 x1 x2 x3 x4 : Value} {x : Int32} {st : List Value} {h : AH} : Run M_X5_note 45 [x0, x1, x2, x3, x4] (.int x :: st) h = if x = nI 0 then Run M_X5_note 48 [x0, x1, x2, x3, x4] st h else Run M_X5_note 52 [x0, x1, x2, x3, x4] st h := R_if_ne d_X5_note_45 (by decide)
theorem d_X5_note_48 : decode (mB M_X5_note) 48 = .ok (.iload_n 1, 1) := by decide +kernel
theorem r_X5_note_48 {x0 x2 x3 x4 : Value} {a : Int32} {st : List Value} {h : AH} : Run M_X5_note 48 [x0, .int a, x2, x3, x4] st h = Run M_X5_note 49 [x0, .int a, x2, x3, x4] (.int a :: st) h := R_iload_n d_X5_note_48 rfl
theorem d_X5_note_49 : decode (mB M_X5_note) 49 = .ok (.goto 11, 3) := by decide +kernel
theorem r_X5_note_49 {x0 x1 x2 x3 x4 : Value} {st : List Value} {h : AH} : Run M_X5_note 49 [x0, x1, x2, x3, x4] st h = Run M_X5_note 60 [x0, x1, x2, x3, x4] st h := R_goto d_X5_note_49 (by decide)
theorem d_X5_note_52 : decode (mB M_X5_note) 52 = .ok (.aload_n 0, 1) := by decide +kernel
theorem r_X5_note_52 {x1 x2 x3 x4 : Value} {a : Nat} {st : List Value} {h : AH} : Run M_X5_note 52 [.ref a, x1, x2, x3, x4] st h = Run M_X5_note 53 [.ref a, x1, x2, x3, x4] (.ref a :: st) h := R_aload_n d_X5_note_52 rfl
theorem d_X5_note_53 : decode (mB M_X5_note) 53 = .ok (.getfield 15, 3) := by decide +kernel
theorem r_X5_note_53 {x0 x1 x2 x3 x4 : Value} {a : Nat} {st : List Value} {h : AH} : Run M_X5_note 53 [x0, x1, x2, x3, x4] (.ref a :: st) h = if (gF h a 5 1).isSome = true then Run M_X5_note 56 [x0, x1, x2, x3, x4] ((gF h a 5 1).getD .null :: st) h else none := R_getfield d_X5_note_53 rfl
theorem d_X5_note_56 : decode (mB M_X5_note) 56 = .ok (.iload_n 2, 1) := by decide +kernel
theorem r_X5_note_56 {x0 x1 x3 x4 : Value} {a : Int32} {st : List Value} {h : AH} : Run M_X5_note 56 [x0, x1, .int a, x3, x4] st h = Run M_X5_note 57 [x0, x1, .int a, x3, x4] (.int a :: st) h := R_iload_n d_X5_note_56 rfl
theorem d_X5_note_57 : decode (mB M_X5_note) 57 = .ok (.iaload, 1) := by decide +kernel
theorem r_X5_note_57 {x0 x1 x2 x3 x4 : Value} {a : Nat} {i : Int32} {st : List Value} {h : AH} : Run M_X5_note 57 [x0, x1, x2, x3, x4] (.int i :: .ref a :: st) h = if (gI 0 h a i).isSome = true then Run M_X5_note 58 [x0, x1, x2, x3, x4] (.int ((gI 0 h a i).getD 0) :: st) h else none := R_iaload d_X5_note_57
theorem d_X5_note_58 : decode (mB M_X5_note) 58 = .ok (.iload_n 1, 1) := by decide +kernel
theorem r_X5_note_58 {x0 x2 x3 x4 : Value} {a : Int32} {st : List Value} {h : AH} : Run M_X5_note 58 [x0, .int a, x2, x3, x4] st h = Run M_X5_note 59 [x0, .int a, x2, x3, x4] (.int a :: st) h := R_iload_n d_X5_note_58 rfl
theorem d_X5_note_59 : decode (mB M_X5_note) 59 = .ok (.iand, 1) := by decide +kernel
theorem r_X5_note_59 {x0 x1 x2 x3 x4 : Value} {x y : Int32} {st : List Value} {h : AH} : Run M_X5_note 59 [x0, x1, x2, x3, x4] (.int y :: .int x :: st) h = Run M_X5_note 60 [x0, x1, x2, x3, x4] (.int (x &&& y) :: st) h := R_iand d_X5_note_59
theorem d_X5_note_60 : decode (mB M_X5_note) 60 = .ok (.iastore, 1) := by decide +kernel
theorem r_X5_note_60 {x0 x1 x2 x3 x4 : Value} {a : Nat} {i x : Int32} {st : List Value} {h : AH} : Run M_X5_note 60 [x0, x1, x2, x3, x4] (.int x :: .int i :: .ref a :: st) h = if (pI 0 h a i x).isSome = true then Run M_X5_note 61 [x0, x1, x2, x3, x4] st ((pI 0 h a i x).getD h) else none := R_iastore d_X5_note_60
theorem d_X5_note_61 : decode (mB M_X5_note) 61 = .ok (.aload_n 0, 1) := by decide +kernel
theorem r_X5_note_61 {x1 x2 x3 x4 : Value} {a : Nat} {st : List Value} {h : AH} : Run M_X5_note 61 [.ref a, x1, x2, x3, x4] st h = Run M_X5_note 62 [.ref a, x1, x2, x3, x4] (.ref a :: st) h := R_aload_n d_X5_note_61 rfl
theorem d_X5_note_62 : decode (mB M_X5_note) 62 = .ok (.getfield 9, 3) := by decide +kernel
theorem r_X5_note_62 {x0 x1 x2 x3 x4 : Value} {a : Nat} {st : List Value} {h : AH} : Run M_X5_note 62 [x0, x1, x2, x3, x4] (.ref a :: st) h = if (gF h a 5 0).isSome = true then Run M_X5_note 65 [x0, x1, x2, x3, x4] ((gF h a 5 0).getD .null :: st) h else none := R_getfield d_X5_note_62 rfl
theorem d_X5_note_65 : decode (mB M_X5_note) 65 = .ok (.iload_n 2, 1) := by decide +kernel
theorem r_X5_note_65 {x0 x1 x3 x4 : Value} {a : Int32} {st : List Value} {h : AH} : Run M_X5_note 65 [x0, x1, .int a, x3, x4] st h = Run M_X5_note 66 [x0, x1, .int a, x3, x4] (.int a :: st) h := R_iload_n d_X5_note_65 rfl
theorem d_X5_note_66 : decode (mB M_X5_note) 66 = .ok (.dup2, 1) := by decide +kernel
theorem r_X5_note_66 {x0 x1 x2 x3 x4 : Value} {x : Nat} {y : Int32} {st : List Value} {h : AH} : Run M_X5_note 66 [x0, x1, x2, x3, x4] (.int y :: .ref x :: st) h = Run M_X5_note 67 [x0, x1, x2, x3, x4] (.int y :: .ref x :: .int y :: .ref x :: st) h := R_dup2 d_X5_note_66
theorem d_X5_note_67 : decode (mB M_X5_note) 67 = .ok (.iaload, 1) := by decide +kernel
theorem r_X5_note_67 {x0 x1 x2 x3 x4 : Value} {a : Nat} {i : Int32} {st : List Value} {h : AH} : Run M_X5_note 67 [x0, x1, x2, x3, x4] (.int i :: .ref a :: st) h = if (gI 0 h a i).isSome = true then Run M_X5_note 68 [x0, x1, x2, x3, x4] (.int ((gI 0 h a i).getD 0) :: st) h else none := R_iaload d_X5_note_67
theorem d_X5_note_68 : decode (mB M_X5_note) 68 = .ok (.iconst 1, 1) := by decide +kernel
theorem r_X5_note_68 {x0 x1 x2 x3 x4 : Value} {st : List Value} {h : AH} : Run M_X5_note 68 [x0, x1, x2, x3, x4] st h = Run M_X5_note 69 [x0, x1, x2, x3, x4] (.int (nI 1) :: st) h := R_iconst d_X5_note_68 (by decide)
theorem d_X5_note_69 : decode (mB M_X5_note) 69 = .ok (.iadd, 1) := by decide +kernel
theorem r_X5_note_69 {x0 x1 x2 x3 x4 : Value} {x y : Int32} {st : List Value} {h : AH} : Run M_X5_note 69 [x0, x1, x2, x3, x4] (.int y :: .int x :: st) h = Run M_X5_note 70 [x0, x1, x2, x3, x4] (.int (x + y) :: st) h := R_iadd d_X5_note_69
theorem d_X5_note_70 : decode (mB M_X5_note) 70 = .ok (.iastore, 1) := by decide +kernel
theorem r_X5_note_70 {x0 x1 x2 x3 x4 : Value} {a : Nat} {i x : Int32} {st : List Value} {h : AH} : Run M_X5_note 70 [x0, x1, x2, x3, x4] (.int x :: .int i :: .ref a :: st) h = if (pI 0 h a i x).isSome = true then Run M_X5_note 71 [x0, x1, x2, x3, x4] st ((pI 0 h a i x).getD h) else none := R_iastore d_X5_note_70
theorem d_X5_note_71 : decode (mB M_X5_note) 71 = .ok (.lload_n 3, 1) := by decide +kernel
theorem r_X5_note_71 {x0 x1 x2 x4 : Value} {a : Int64} {st : List Value} {h : AH} : Run M_X5_note 71 [x0, x1, x2, .long a, x4] st h = Run M_X5_note 72 [x0, x1, x2, .long a, x4] (.long a :: st) h := R_lload_n d_X5_note_71 rfl
theorem d_X5_note_72 : decode (mB M_X5_note) 72 = .ok (.aload_n 0, 1) := by decide +kernel
theorem r_X5_note_72 {x1 x2 x3 x4 : Value} {a : Nat} {st : List Value} {h : AH} : Run M_X5_note 72 [.ref a, x1, x2, x3, x4] st h = Run M_X5_note 73 [.ref a, x1, x2, x3, x4] (.ref a :: st) h := R_aload_n d_X5_note_72 rfl
theorem d_X5_note_73 : decode (mB M_X5_note) 73 = .ok (.getfield 21, 3) := by decide +kernel
theorem r_X5_note_73 {x0 x1 x2 x3 x4 : Value} {a : Nat} {st : List Value} {h : AH} : Run M_X5_note 73 [x0, x1, x2, x3, x4] (.ref a :: st) h = if (gF h a 5 3).isSome = true then Run M_X5_note 76 [x0, x1, x2, x3, x4] ((gF h a 5 3).getD .null :: st) h else none := R_getfield d_X5_note_73 rfl
theorem d_X5_note_76 : decode (mB M_X5_note) 76 = .ok (.iload_n 2, 1) := by decide +kernel
theorem r_X5_note_76 {x0 x1 x3 x4 : Value} {a : Int32} {st : List Value} {h : AH} : Run M_X5_note 76 [x0, x1, .int a, x3, x4] st h = Run M_X5_note 77 [x0, x1, .int a, x3, x4] (.int a :: st) h := R_iload_n d_X5_note_76 rfl
theorem d_X5_note_77 : decode (mB M_X5_note) 77 = .ok (.laload, 1) := by decide +kernel
theorem r_X5_note_77 {x0 x1 x2 x3 x4 : Value} {a : Nat} {i : Int32} {st : List Value} {h : AH} : Run M_X5_note 77 [x0, x1, x2, x3, x4] (.int i :: .ref a :: st) h = if (gJ h a i).isSome = true then Run M_X5_note 78 [x0, x1, x2, x3, x4] (.long ((gJ h a i).getD 0) :: st) h else none := R_laload d_X5_note_77
theorem d_X5_note_78 : decode (mB M_X5_note) 78 = .ok (.lcmp, 1) := by decide +kernel
theorem r_X5_note_78 {x0 x1 x2 x3 x4 : Value} {x y : Int64} {st : List Value} {h : AH} : Run M_X5_note 78 [x0, x1, x2, x3, x4] (.long y :: .long x :: st) h = Run M_X5_note 79 [x0, x1, x2, x3, x4] (.int (lg_cmp x y) :: st) h := R_lcmp d_X5_note_78
theorem d_X5_note_79 : decode (mB M_X5_note) 79 = .ok (.ifCond .le 17, 3) := by decide +kernel
theorem r_X5_note_79 {x0 x1 x2 x3 x4 : Value} {x : Int32} {st : List Value} {h : AH} : Run M_X5_note 79 [x0, x1, x2, x3, x4] (.int x :: st) h = if x ≤ nI 0 then Run M_X5_note 96 [x0, x1, x2, x3, x4] st h else Run M_X5_note 82 [x0, x1, x2, x3, x4] st h := R_if_le d_X5_note_79 (by decide)
theorem d_X5_note_82 : decode (mB M_X5_note) 82 = .ok (.aload_n 0, 1) := by decide +kernel
theorem r_X5_note_82 {x1 x2 x3 x4 : Value} {a : Nat} {st : List Value} {h : AH} : Run M_X5_note 82 [.ref a, x1, x2, x3, x4] st h = Run M_X5_note 83 [.ref a, x1, x2, x3, x4] (.ref a :: st) h := R_aload_n d_X5_note_82 rfl
theorem d_X5_note_83 : decode (mB M_X5_note) 83 = .ok (.getfield 21, 3) := by decide +kernel
theorem r_X5_note_83 {x0 x1 x2 x3 x4 : Value} {a : Nat} {st : List Value} {h : AH} : Run M_X5_note 83 [x0, x1, x2, x3, x4] (.ref a :: st) h = if (gF h a 5 3).isSome = true then Run M_X5_note 86 [x0, x1, x2, x3, x4] ((gF h a 5 3).getD .null :: st) h else none := R_getfield d_X5_note_83 rfl
theorem d_X5_note_86 : decode (mB M_X5_note) 86 = .ok (.iload_n 2, 1) := by decide +kernel
theorem r_X5_note_86 {x0 x1 x3 x4 : Value} {a : Int32} {st : List Value} {h : AH} : Run M_X5_note 86 [x0, x1, .int a, x3, x4] st h = Run M_X5_note 87 [x0, x1, .int a, x3, x4] (.int a :: st) h := R_iload_n d_X5_note_86 rfl
theorem d_X5_note_87 : decode (mB M_X5_note) 87 = .ok (.lload_n 3, 1) := by decide +kernel
theorem r_X5_note_87 {x0 x1 x2 x4 : Value} {a : Int64} {st : List Value} {h : AH} : Run M_X5_note 87 [x0, x1, x2, .long a, x4] st h = Run M_X5_note 88 [x0, x1, x2, .long a, x4] (.long a :: st) h := R_lload_n d_X5_note_87 rfl
theorem d_X5_note_88 : decode (mB M_X5_note) 88 = .ok (.lastore, 1) := by decide +kernel
theorem r_X5_note_88 {x0 x1 x2 x3 x4 : Value} {a : Nat} {i : Int32} {x : Int64} {st : List Value} {h : AH} : Run M_X5_note 88 [x0, x1, x2, x3, x4] (.long x :: .int i :: .ref a :: st) h = if (pJ h a i x).isSome = true then Run M_X5_note 89 [x0, x1, x2, x3, x4] st ((pJ h a i x).getD h) else none := R_lastore d_X5_note_88
theorem d_X5_note_89 : decode (mB M_X5_note) 89 = .ok (.aload_n 0, 1) := by decide +kernel
theorem r_X5_note_89 {x1 x2 x3 x4 : Value} {a : Nat} {st : List Value} {h : AH} : Run M_X5_note 89 [.ref a, x1, x2, x3, x4] st h = Run M_X5_note 90 [.ref a, x1, x2, x3, x4] (.ref a :: st) h := R_aload_n d_X5_note_89 rfl
theorem d_X5_note_90 : decode (mB M_X5_note) 90 = .ok (.getfield 18, 3) := by decide +kernel
theorem r_X5_note_90 {x0 x1 x2 x3 x4 : Value} {a : Nat} {st : List Value} {h : AH} : Run M_X5_note 90 [x0, x1, x2, x3, x4] (.ref a :: st) h = if (gF h a 5 2).isSome = true then Run M_X5_note 93 [x0, x1, x2, x3, x4] ((gF h a 5 2).getD .null :: st) h else none := R_getfield d_X5_note_90 rfl
theorem d_X5_note_93 : decode (mB M_X5_note) 93 = .ok (.iload_n 2, 1) := by decide +kernel
theorem r_X5_note_93 {x0 x1 x3 x4 : Value} {a : Int32} {st : List Value} {h : AH} : Run M_X5_note 93 [x0, x1, .int a, x3, x4] st h = Run M_X5_note 94 [x0, x1, .int a, x3, x4] (.int a :: st) h := R_iload_n d_X5_note_93 rfl
theorem d_X5_note_94 : decode (mB M_X5_note) 94 = .ok (.iload_n 1, 1) := by decide +kernel
theorem r_X5_note_94 {x0 x2 x3 x4 : Value} {a : Int32} {st : List Value} {h : AH} : Run M_X5_note 94 [x0, .int a, x2, x3, x4] st h = Run M_X5_note 95 [x0, .int a, x2, x3, x4] (.int a :: st) h := R_iload_n d_X5_note_94 rfl
theorem d_X5_note_95 : decode (mB M_X5_note) 95 = .ok (.iastore, 1) := by decide +kernel
theorem r_X5_note_95 {x0 x1 x2 x3 x4 : Value} {a : Nat} {i x : Int32} {st : List Value} {h : AH} : Run M_X5_note 95 [x0, x1, x2, x3, x4] (.int x :: .int i :: .ref a :: st) h = if (pI 0 h a i x).isSome = true then Run M_X5_note 96 [x0, x1, x2, x3, x4] st ((pI 0 h a i x).getD h) else none := R_iastore d_X5_note_95
theorem d_X5_note_96 : decode (mB M_X5_note) 96 = .ok (.iinc 2 1, 3) := by decide +kernel
theorem r_X5_note_96 {x0 x1 x3 x4 : Value} {a : Int32} {st : List Value} {h : AH} (hc : x1.category = 1) : Run M_X5_note 96 [x0, x1, .int a, x3, x4] st h = Run M_X5_note 99 [x0, x1, .int (a + (nI 1)), x3, x4] st h := R_iinc d_X5_note_96 (by decide) rfl (catP_of rfl hc)
theorem d_X5_note_99 : decode (mB M_X5_note) 99 = .ok (.goto (-97), 3) := by decide +kernel
theorem r_X5_note_99 {x0 x1 x2 x3 x4 : Value} {st : List Value} {h : AH} : Run M_X5_note 99 [x0, x1, x2, x3, x4] st h = Run M_X5_note 2 [x0, x1, x2, x3, x4] st h := R_goto d_X5_note_99 (by decide)
theorem d_X5_note_102 : decode (mB M_X5_note) 102 = .ok (.return_, 1) := by decide +kernel
theorem r_X5_note_102 {x0 x1 x2 x3 x4 : Value} {h : AH} : Run M_X5_note 102 [x0, x1, x2, x3, x4] [] h = some (h, none) := R_return d_X5_note_102 rfl
