/-! the equations of the run, an instruction each (program: wip/whole/gen_pcs.py) -/
theorem d_X9_init_0 : decode (mB M_X9_init) 0 = .ok (.aload_n 0, 1) := by decide +kernel
theorem r_X9_init_0 {a : Nat} {st : List Value} {h : AH} : Run M_X9_init 0 [.ref a] st h = Run M_X9_init 1 [.ref a] (.ref a :: st) h := R_aload_n d_X9_init_0 rfl
theorem d_X9_init_1 : decode (mB M_X9_init) 1 = .ok (.invokespecial 1, 3) := by decide +kernel
theorem r_X9_init_1 {x0 : Value} {a : Nat} {h : AH} : Run M_X9_init 1 [x0] (.ref a :: []) h = Run M_X9_init 4 [x0] [] h := R_obj d_X9_init_1 rfl rfl ⟨by decide, Nat.le_of_ble_eq_true rfl, by decide, by decide⟩
theorem d_X9_init_4 : decode (mB M_X9_init) 4 = .ok (.aload_n 0, 1) := by decide +kernel
theorem r_X9_init_4 {a : Nat} {st : List Value} {h : AH} : Run M_X9_init 4 [.ref a] st h = Run M_X9_init 5 [.ref a] (.ref a :: st) h := R_aload_n d_X9_init_4 rfl
theorem d_X9_init_5 : decode (mB M_X9_init) 5 = .ok (.bipush 19, 2) := by decide +kernel
theorem r_X9_init_5 {x0 : Value} {st : List Value} {h : AH} : Run M_X9_init 5 [x0] st h = Run M_X9_init 7 [x0] (.int (nI 19) :: st) h := R_bipush d_X9_init_5 (by decide)
theorem d_X9_init_7 : decode (mB M_X9_init) 7 = .ok (.newarray .int, 2) := by decide +kernel
theorem r_X9_init_7 {x0 : Value} {st : List Value} {h : AH} : Run M_X9_init 7 [x0] (.int (nI 19) :: st) h = Run M_X9_init 9 [x0] (.ref h.1 :: st) (hnew h 19 (iA 19 (fun _ => 0))) := R_newarray d_X9_init_7 rfl ⟨by decide, by decide⟩ (by decide) rfl
theorem d_X9_init_9 : decode (mB M_X9_init) 9 = .ok (.putfield 7, 3) := by decide +kernel
theorem r_X9_init_9 {x0 : Value} {v : Nat} {a : Nat} {st : List Value} {h : AH} : Run M_X9_init 9 [x0] (.ref v :: .ref a :: st) h = if (pF h a 9 0 (.ref v)).isSome = true then Run M_X9_init 12 [x0] st ((pF h a 9 0 (.ref v)).getD h) else none := R_putfield d_X9_init_9 rfl (okP_arr rfl (Or.inr ⟨rfl, rfl⟩))
theorem d_X9_init_12 : decode (mB M_X9_init) 12 = .ok (.aload_n 0, 1) := by decide +kernel
theorem r_X9_init_12 {a : Nat} {st : List Value} {h : AH} : Run M_X9_init 12 [.ref a] st h = Run M_X9_init 13 [.ref a] (.ref a :: st) h := R_aload_n d_X9_init_12 rfl
theorem d_X9_init_13 : decode (mB M_X9_init) 13 = .ok (.bipush 38, 2) := by decide +kernel
theorem r_X9_init_13 {x0 : Value} {st : List Value} {h : AH} : Run M_X9_init 13 [x0] st h = Run M_X9_init 15 [x0] (.int (nI 38) :: st) h := R_bipush d_X9_init_13 (by decide)
theorem d_X9_init_15 : decode (mB M_X9_init) 15 = .ok (.newarray .int, 2) := by decide +kernel
theorem r_X9_init_15 {x0 : Value} {st : List Value} {h : AH} : Run M_X9_init 15 [x0] (.int (nI 38) :: st) h = Run M_X9_init 17 [x0] (.ref h.1 :: st) (hnew h 38 (iA 38 (fun _ => 0))) := R_newarray d_X9_init_15 rfl ⟨by decide, by decide⟩ (by decide) rfl
theorem d_X9_init_17 : decode (mB M_X9_init) 17 = .ok (.putfield 13, 3) := by decide +kernel
theorem r_X9_init_17 {x0 : Value} {v : Nat} {a : Nat} {st : List Value} {h : AH} : Run M_X9_init 17 [x0] (.ref v :: .ref a :: st) h = if (pF h a 9 1 (.ref v)).isSome = true then Run M_X9_init 20 [x0] st ((pF h a 9 1 (.ref v)).getD h) else none := R_putfield d_X9_init_17 rfl (okP_arr rfl (Or.inr ⟨rfl, rfl⟩))
theorem d_X9_init_20 : decode (mB M_X9_init) 20 = .ok (.aload_n 0, 1) := by decide +kernel
theorem r_X9_init_20 {a : Nat} {st : List Value} {h : AH} : Run M_X9_init 20 [.ref a] st h = Run M_X9_init 21 [.ref a] (.ref a :: st) h := R_aload_n d_X9_init_20 rfl
theorem d_X9_init_21 : decode (mB M_X9_init) 21 = .ok (.iconst 2, 1) := by decide +kernel
theorem r_X9_init_21 {x0 : Value} {st : List Value} {h : AH} : Run M_X9_init 21 [x0] st h = Run M_X9_init 22 [x0] (.int (nI 2) :: st) h := R_iconst d_X9_init_21 (by decide)
theorem d_X9_init_22 : decode (mB M_X9_init) 22 = .ok (.newarray .boolean, 2) := by decide +kernel
theorem r_X9_init_22 {x0 : Value} {st : List Value} {h : AH} : Run M_X9_init 22 [x0] (.int (nI 2) :: st) h = Run M_X9_init 24 [x0] (.ref h.1 :: st) (hnew h 2 (zA 2 (fun _ => 0))) := R_newarray d_X9_init_22 rfl ⟨by decide, by decide⟩ (by decide) rfl
theorem d_X9_init_24 : decode (mB M_X9_init) 24 = .ok (.putfield 16, 3) := by decide +kernel
theorem r_X9_init_24 {x0 : Value} {v : Nat} {a : Nat} {st : List Value} {h : AH} : Run M_X9_init 24 [x0] (.ref v :: .ref a :: st) h = if (pF h a 9 2 (.ref v)).isSome = true then Run M_X9_init 27 [x0] st ((pF h a 9 2 (.ref v)).getD h) else none := R_putfield d_X9_init_24 rfl (okP_arr rfl (Or.inr ⟨rfl, rfl⟩))
theorem d_X9_init_27 : decode (mB M_X9_init) 27 = .ok (.aload_n 0, 1) := by decide +kernel
theorem r_X9_init_27 {a : Nat} {st : List Value} {h : AH} : Run M_X9_init 27 [.ref a] st h = Run M_X9_init 28 [.ref a] (.ref a :: st) h := R_aload_n d_X9_init_27 rfl
theorem d_X9_init_28 : decode (mB M_X9_init) 28 = .ok (.bipush 7, 2) := by decide +kernel
theorem r_X9_init_28 {x0 : Value} {st : List Value} {h : AH} : Run M_X9_init 28 [x0] st h = Run M_X9_init 30 [x0] (.int (nI 7) :: st) h := R_bipush d_X9_init_28 (by decide)
theorem d_X9_init_30 : decode (mB M_X9_init) 30 = .ok (.newarray .int, 2) := by decide +kernel
theorem r_X9_init_30 {x0 : Value} {st : List Value} {h : AH} : Run M_X9_init 30 [x0] (.int (nI 7) :: st) h = Run M_X9_init 32 [x0] (.ref h.1 :: st) (hnew h 7 (iA 7 (fun _ => 0))) := R_newarray d_X9_init_30 rfl ⟨by decide, by decide⟩ (by decide) rfl
theorem d_X9_init_32 : decode (mB M_X9_init) 32 = .ok (.putfield 20, 3) := by decide +kernel
theorem r_X9_init_32 {x0 : Value} {v : Nat} {a : Nat} {st : List Value} {h : AH} : Run M_X9_init 32 [x0] (.ref v :: .ref a :: st) h = if (pF h a 9 4 (.ref v)).isSome = true then Run M_X9_init 35 [x0] st ((pF h a 9 4 (.ref v)).getD h) else none := R_putfield d_X9_init_32 rfl (okP_arr rfl (Or.inr ⟨rfl, rfl⟩))
theorem d_X9_init_35 : decode (mB M_X9_init) 35 = .ok (.aload_n 0, 1) := by decide +kernel
theorem r_X9_init_35 {a : Nat} {st : List Value} {h : AH} : Run M_X9_init 35 [.ref a] st h = Run M_X9_init 36 [.ref a] (.ref a :: st) h := R_aload_n d_X9_init_35 rfl
theorem d_X9_init_36 : decode (mB M_X9_init) 36 = .ok (.bipush 7, 2) := by decide +kernel
theorem r_X9_init_36 {x0 : Value} {st : List Value} {h : AH} : Run M_X9_init 36 [x0] st h = Run M_X9_init 38 [x0] (.int (nI 7) :: st) h := R_bipush d_X9_init_36 (by decide)
theorem d_X9_init_38 : decode (mB M_X9_init) 38 = .ok (.newarray .int, 2) := by decide +kernel
theorem r_X9_init_38 {x0 : Value} {st : List Value} {h : AH} : Run M_X9_init 38 [x0] (.int (nI 7) :: st) h = Run M_X9_init 40 [x0] (.ref h.1 :: st) (hnew h 7 (iA 7 (fun _ => 0))) := R_newarray d_X9_init_38 rfl ⟨by decide, by decide⟩ (by decide) rfl
theorem d_X9_init_40 : decode (mB M_X9_init) 40 = .ok (.putfield 23, 3) := by decide +kernel
theorem r_X9_init_40 {x0 : Value} {v : Nat} {a : Nat} {st : List Value} {h : AH} : Run M_X9_init 40 [x0] (.ref v :: .ref a :: st) h = if (pF h a 9 5 (.ref v)).isSome = true then Run M_X9_init 43 [x0] st ((pF h a 9 5 (.ref v)).getD h) else none := R_putfield d_X9_init_40 rfl (okP_arr rfl (Or.inr ⟨rfl, rfl⟩))
theorem d_X9_init_43 : decode (mB M_X9_init) 43 = .ok (.aload_n 0, 1) := by decide +kernel
theorem r_X9_init_43 {a : Nat} {st : List Value} {h : AH} : Run M_X9_init 43 [.ref a] st h = Run M_X9_init 44 [.ref a] (.ref a :: st) h := R_aload_n d_X9_init_43 rfl
theorem d_X9_init_44 : decode (mB M_X9_init) 44 = .ok (.bipush 7, 2) := by decide +kernel
theorem r_X9_init_44 {x0 : Value} {st : List Value} {h : AH} : Run M_X9_init 44 [x0] st h = Run M_X9_init 46 [x0] (.int (nI 7) :: st) h := R_bipush d_X9_init_44 (by decide)
theorem d_X9_init_46 : decode (mB M_X9_init) 46 = .ok (.newarray .int, 2) := by decide +kernel
theorem r_X9_init_46 {x0 : Value} {st : List Value} {h : AH} : Run M_X9_init 46 [x0] (.int (nI 7) :: st) h = Run M_X9_init 48 [x0] (.ref h.1 :: st) (hnew h 7 (iA 7 (fun _ => 0))) := R_newarray d_X9_init_46 rfl ⟨by decide, by decide⟩ (by decide) rfl
theorem d_X9_init_48 : decode (mB M_X9_init) 48 = .ok (.putfield 26, 3) := by decide +kernel
theorem r_X9_init_48 {x0 : Value} {v : Nat} {a : Nat} {st : List Value} {h : AH} : Run M_X9_init 48 [x0] (.ref v :: .ref a :: st) h = if (pF h a 9 6 (.ref v)).isSome = true then Run M_X9_init 51 [x0] st ((pF h a 9 6 (.ref v)).getD h) else none := R_putfield d_X9_init_48 rfl (okP_arr rfl (Or.inr ⟨rfl, rfl⟩))
theorem d_X9_init_51 : decode (mB M_X9_init) 51 = .ok (.aload_n 0, 1) := by decide +kernel
theorem r_X9_init_51 {a : Nat} {st : List Value} {h : AH} : Run M_X9_init 51 [.ref a] st h = Run M_X9_init 52 [.ref a] (.ref a :: st) h := R_aload_n d_X9_init_51 rfl
theorem d_X9_init_52 : decode (mB M_X9_init) 52 = .ok (.bipush 7, 2) := by decide +kernel
theorem r_X9_init_52 {x0 : Value} {st : List Value} {h : AH} : Run M_X9_init 52 [x0] st h = Run M_X9_init 54 [x0] (.int (nI 7) :: st) h := R_bipush d_X9_init_52 (by decide)
theorem d_X9_init_54 : decode (mB M_X9_init) 54 = .ok (.newarray .int, 2) := by decide +kernel
theorem r_X9_init_54 {x0 : Value} {st : List Value} {h : AH} : Run M_X9_init 54 [x0] (.int (nI 7) :: st) h = Run M_X9_init 56 [x0] (.ref h.1 :: st) (hnew h 7 (iA 7 (fun _ => 0))) := R_newarray d_X9_init_54 rfl ⟨by decide, by decide⟩ (by decide) rfl
theorem d_X9_init_56 : decode (mB M_X9_init) 56 = .ok (.putfield 29, 3) := by decide +kernel
theorem r_X9_init_56 {x0 : Value} {v : Nat} {a : Nat} {st : List Value} {h : AH} : Run M_X9_init 56 [x0] (.ref v :: .ref a :: st) h = if (pF h a 9 7 (.ref v)).isSome = true then Run M_X9_init 59 [x0] st ((pF h a 9 7 (.ref v)).getD h) else none := R_putfield d_X9_init_56 rfl (okP_arr rfl (Or.inr ⟨rfl, rfl⟩))
theorem d_X9_init_59 : decode (mB M_X9_init) 59 = .ok (.aload_n 0, 1) := by decide +kernel
theorem r_X9_init_59 {a : Nat} {st : List Value} {h : AH} : Run M_X9_init 59 [.ref a] st h = Run M_X9_init 60 [.ref a] (.ref a :: st) h := R_aload_n d_X9_init_59 rfl
theorem d_X9_init_60 : decode (mB M_X9_init) 60 = .ok (.bipush 28, 2) := by decide +kernel
theorem r_X9_init_60 {x0 : Value} {st : List Value} {h : AH} : Run M_X9_init 60 [x0] st h = Run M_X9_init 62 [x0] (.int (nI 28) :: st) h := R_bipush d_X9_init_60 (by decide)
theorem d_X9_init_62 : decode (mB M_X9_init) 62 = .ok (.newarray .int, 2) := by decide +kernel
theorem r_X9_init_62 {x0 : Value} {st : List Value} {h : AH} : Run M_X9_init 62 [x0] (.int (nI 28) :: st) h = Run M_X9_init 64 [x0] (.ref h.1 :: st) (hnew h 28 (iA 28 (fun _ => 0))) := R_newarray d_X9_init_62 rfl ⟨by decide, by decide⟩ (by decide) rfl
theorem d_X9_init_64 : decode (mB M_X9_init) 64 = .ok (.putfield 32, 3) := by decide +kernel
theorem r_X9_init_64 {x0 : Value} {v : Nat} {a : Nat} {st : List Value} {h : AH} : Run M_X9_init 64 [x0] (.ref v :: .ref a :: st) h = if (pF h a 9 8 (.ref v)).isSome = true then Run M_X9_init 67 [x0] st ((pF h a 9 8 (.ref v)).getD h) else none := R_putfield d_X9_init_64 rfl (okP_arr rfl (Or.inr ⟨rfl, rfl⟩))
theorem d_X9_init_67 : decode (mB M_X9_init) 67 = .ok (.aload_n 0, 1) := by decide +kernel
theorem r_X9_init_67 {a : Nat} {st : List Value} {h : AH} : Run M_X9_init 67 [.ref a] st h = Run M_X9_init 68 [.ref a] (.ref a :: st) h := R_aload_n d_X9_init_67 rfl
theorem d_X9_init_68 : decode (mB M_X9_init) 68 = .ok (.bipush 10, 2) := by decide +kernel
theorem r_X9_init_68 {x0 : Value} {st : List Value} {h : AH} : Run M_X9_init 68 [x0] st h = Run M_X9_init 70 [x0] (.int (nI 10) :: st) h := R_bipush d_X9_init_68 (by decide)
theorem d_X9_init_70 : decode (mB M_X9_init) 70 = .ok (.newarray .int, 2) := by decide +kernel
theorem r_X9_init_70 {x0 : Value} {st : List Value} {h : AH} : Run M_X9_init 70 [x0] (.int (nI 10) :: st) h = Run M_X9_init 72 [x0] (.ref h.1 :: st) (hnew h 10 (iA 10 (fun _ => 0))) := R_newarray d_X9_init_70 rfl ⟨by decide, by decide⟩ (by decide) rfl
theorem d_X9_init_72 : decode (mB M_X9_init) 72 = .ok (.putfield 35, 3) := by decide +kernel
theorem r_X9_init_72 {x0 : Value} {v : Nat} {a : Nat} {st : List Value} {h : AH} : Run M_X9_init 72 [x0] (.ref v :: .ref a :: st) h = if (pF h a 9 11 (.ref v)).isSome = true then Run M_X9_init 75 [x0] st ((pF h a 9 11 (.ref v)).getD h) else none := R_putfield d_X9_init_72 rfl (okP_arr rfl (Or.inr ⟨rfl, rfl⟩))
theorem d_X9_init_75 : decode (mB M_X9_init) 75 = .ok (.aload_n 0, 1) := by decide +kernel
theorem r_X9_init_75 {a : Nat} {st : List Value} {h : AH} : Run M_X9_init 75 [.ref a] st h = Run M_X9_init 76 [.ref a] (.ref a :: st) h := R_aload_n d_X9_init_75 rfl
theorem d_X9_init_76 : decode (mB M_X9_init) 76 = .ok (.sipush 250, 3) := by decide +kernel
theorem r_X9_init_76 {x0 : Value} {st : List Value} {h : AH} : Run M_X9_init 76 [x0] st h = Run M_X9_init 79 [x0] (.int (nI 250) :: st) h := R_sipush d_X9_init_76 (by decide)
theorem d_X9_init_79 : decode (mB M_X9_init) 79 = .ok (.newarray .int, 2) := by decide +kernel
theorem r_X9_init_79 {x0 : Value} {st : List Value} {h : AH} : Run M_X9_init 79 [x0] (.int (nI 250) :: st) h = Run M_X9_init 81 [x0] (.ref h.1 :: st) (hnew h 250 (iA 250 (fun _ => 0))) := R_newarray d_X9_init_79 rfl ⟨by decide, by decide⟩ (by decide) rfl
theorem d_X9_init_81 : decode (mB M_X9_init) 81 = .ok (.putfield 38, 3) := by decide +kernel
theorem r_X9_init_81 {x0 : Value} {v : Nat} {a : Nat} {st : List Value} {h : AH} : Run M_X9_init 81 [x0] (.ref v :: .ref a :: st) h = if (pF h a 9 12 (.ref v)).isSome = true then Run M_X9_init 84 [x0] st ((pF h a 9 12 (.ref v)).getD h) else none := R_putfield d_X9_init_81 rfl (okP_arr rfl (Or.inr ⟨rfl, rfl⟩))
theorem d_X9_init_84 : decode (mB M_X9_init) 84 = .ok (.aload_n 0, 1) := by decide +kernel
theorem r_X9_init_84 {a : Nat} {st : List Value} {h : AH} : Run M_X9_init 84 [.ref a] st h = Run M_X9_init 85 [.ref a] (.ref a :: st) h := R_aload_n d_X9_init_84 rfl
theorem d_X9_init_85 : decode (mB M_X9_init) 85 = .ok (.iconst (-1), 1) := by decide +kernel
theorem r_X9_init_85 {x0 : Value} {st : List Value} {h : AH} : Run M_X9_init 85 [x0] st h = Run M_X9_init 86 [x0] (.int (-1) :: st) h := R_iconst d_X9_init_85 (by decide)
theorem d_X9_init_86 : decode (mB M_X9_init) 86 = .ok (.putfield 41, 3) := by decide +kernel
theorem r_X9_init_86 {x0 : Value} {v : Int32} {a : Nat} {st : List Value} {h : AH} : Run M_X9_init 86 [x0] (.int v :: .ref a :: st) h = if (pF h a 9 20 (.int v)).isSome = true then Run M_X9_init 89 [x0] st ((pF h a 9 20 (.int v)).getD h) else none := R_putfield d_X9_init_86 rfl (okP_int rfl rfl)
theorem d_X9_init_89 : decode (mB M_X9_init) 89 = .ok (.aload_n 0, 1) := by decide +kernel
theorem r_X9_init_89 {a : Nat} {st : List Value} {h : AH} : Run M_X9_init 89 [.ref a] st h = Run M_X9_init 90 [.ref a] (.ref a :: st) h := R_aload_n d_X9_init_89 rfl
theorem d_X9_init_90 : decode (mB M_X9_init) 90 = .ok (.bipush 7, 2) := by decide +kernel
theorem r_X9_init_90 {x0 : Value} {st : List Value} {h : AH} : Run M_X9_init 90 [x0] st h = Run M_X9_init 92 [x0] (.int (nI 7) :: st) h := R_bipush d_X9_init_90 (by decide)
theorem d_X9_init_92 : decode (mB M_X9_init) 92 = .ok (.newarray .int, 2) := by decide +kernel
theorem r_X9_init_92 {x0 : Value} {st : List Value} {h : AH} : Run M_X9_init 92 [x0] (.int (nI 7) :: st) h = Run M_X9_init 94 [x0] (.ref h.1 :: st) (hnew h 7 (iA 7 (fun _ => 0))) := R_newarray d_X9_init_92 rfl ⟨by decide, by decide⟩ (by decide) rfl
theorem d_X9_init_94 : decode (mB M_X9_init) 94 = .ok (.putfield 45, 3) := by decide +kernel
theorem r_X9_init_94 {x0 : Value} {v : Nat} {a : Nat} {st : List Value} {h : AH} : Run M_X9_init 94 [x0] (.ref v :: .ref a :: st) h = if (pF h a 9 22 (.ref v)).isSome = true then Run M_X9_init 97 [x0] st ((pF h a 9 22 (.ref v)).getD h) else none := R_putfield d_X9_init_94 rfl (okP_arr rfl (Or.inr ⟨rfl, rfl⟩))
theorem d_X9_init_97 : decode (mB M_X9_init) 97 = .ok (.aload_n 0, 1) := by decide +kernel
theorem r_X9_init_97 {a : Nat} {st : List Value} {h : AH} : Run M_X9_init 97 [.ref a] st h = Run M_X9_init 98 [.ref a] (.ref a :: st) h := R_aload_n d_X9_init_97 rfl
theorem d_X9_init_98 : decode (mB M_X9_init) 98 = .ok (.bipush 7, 2) := by decide +kernel
theorem r_X9_init_98 {x0 : Value} {st : List Value} {h : AH} : Run M_X9_init 98 [x0] st h = Run M_X9_init 100 [x0] (.int (nI 7) :: st) h := R_bipush d_X9_init_98 (by decide)
theorem d_X9_init_100 : decode (mB M_X9_init) 100 = .ok (.newarray .int, 2) := by decide +kernel
theorem r_X9_init_100 {x0 : Value} {st : List Value} {h : AH} : Run M_X9_init 100 [x0] (.int (nI 7) :: st) h = Run M_X9_init 102 [x0] (.ref h.1 :: st) (hnew h 7 (iA 7 (fun _ => 0))) := R_newarray d_X9_init_100 rfl ⟨by decide, by decide⟩ (by decide) rfl
theorem d_X9_init_102 : decode (mB M_X9_init) 102 = .ok (.putfield 48, 3) := by decide +kernel
theorem r_X9_init_102 {x0 : Value} {v : Nat} {a : Nat} {st : List Value} {h : AH} : Run M_X9_init 102 [x0] (.ref v :: .ref a :: st) h = if (pF h a 9 23 (.ref v)).isSome = true then Run M_X9_init 105 [x0] st ((pF h a 9 23 (.ref v)).getD h) else none := R_putfield d_X9_init_102 rfl (okP_arr rfl (Or.inr ⟨rfl, rfl⟩))
theorem d_X9_init_105 : decode (mB M_X9_init) 105 = .ok (.aload_n 0, 1) := by decide +kernel
theorem r_X9_init_105 {a : Nat} {st : List Value} {h : AH} : Run M_X9_init 105 [.ref a] st h = Run M_X9_init 106 [.ref a] (.ref a :: st) h := R_aload_n d_X9_init_105 rfl
theorem d_X9_init_106 : decode (mB M_X9_init) 106 = .ok (.bipush 7, 2) := by decide +kernel
theorem r_X9_init_106 {x0 : Value} {st : List Value} {h : AH} : Run M_X9_init 106 [x0] st h = Run M_X9_init 108 [x0] (.int (nI 7) :: st) h := R_bipush d_X9_init_106 (by decide)
theorem d_X9_init_108 : decode (mB M_X9_init) 108 = .ok (.newarray .int, 2) := by decide +kernel
theorem r_X9_init_108 {x0 : Value} {st : List Value} {h : AH} : Run M_X9_init 108 [x0] (.int (nI 7) :: st) h = Run M_X9_init 110 [x0] (.ref h.1 :: st) (hnew h 7 (iA 7 (fun _ => 0))) := R_newarray d_X9_init_108 rfl ⟨by decide, by decide⟩ (by decide) rfl
theorem d_X9_init_110 : decode (mB M_X9_init) 110 = .ok (.putfield 51, 3) := by decide +kernel
theorem r_X9_init_110 {x0 : Value} {v : Nat} {a : Nat} {st : List Value} {h : AH} : Run M_X9_init 110 [x0] (.ref v :: .ref a :: st) h = if (pF h a 9 24 (.ref v)).isSome = true then Run M_X9_init 113 [x0] st ((pF h a 9 24 (.ref v)).getD h) else none := R_putfield d_X9_init_110 rfl (okP_arr rfl (Or.inr ⟨rfl, rfl⟩))
theorem d_X9_init_113 : decode (mB M_X9_init) 113 = .ok (.aload_n 0, 1) := by decide +kernel
theorem r_X9_init_113 {a : Nat} {st : List Value} {h : AH} : Run M_X9_init 113 [.ref a] st h = Run M_X9_init 114 [.ref a] (.ref a :: st) h := R_aload_n d_X9_init_113 rfl
theorem d_X9_init_114 : decode (mB M_X9_init) 114 = .ok (.bipush 7, 2) := by decide +kernel
theorem r_X9_init_114 {x0 : Value} {st : List Value} {h : AH} : Run M_X9_init 114 [x0] st h = Run M_X9_init 116 [x0] (.int (nI 7) :: st) h := R_bipush d_X9_init_114 (by decide)
theorem d_X9_init_116 : decode (mB M_X9_init) 116 = .ok (.newarray .int, 2) := by decide +kernel
theorem r_X9_init_116 {x0 : Value} {st : List Value} {h : AH} : Run M_X9_init 116 [x0] (.int (nI 7) :: st) h = Run M_X9_init 118 [x0] (.ref h.1 :: st) (hnew h 7 (iA 7 (fun _ => 0))) := R_newarray d_X9_init_116 rfl ⟨by decide, by decide⟩ (by decide) rfl
theorem d_X9_init_118 : decode (mB M_X9_init) 118 = .ok (.putfield 54, 3) := by decide +kernel
theorem r_X9_init_118 {x0 : Value} {v : Nat} {a : Nat} {st : List Value} {h : AH} : Run M_X9_init 118 [x0] (.ref v :: .ref a :: st) h = if (pF h a 9 25 (.ref v)).isSome = true then Run M_X9_init 121 [x0] st ((pF h a 9 25 (.ref v)).getD h) else none := R_putfield d_X9_init_118 rfl (okP_arr rfl (Or.inr ⟨rfl, rfl⟩))
theorem d_X9_init_121 : decode (mB M_X9_init) 121 = .ok (.aload_n 0, 1) := by decide +kernel
theorem r_X9_init_121 {a : Nat} {st : List Value} {h : AH} : Run M_X9_init 121 [.ref a] st h = Run M_X9_init 122 [.ref a] (.ref a :: st) h := R_aload_n d_X9_init_121 rfl
theorem d_X9_init_122 : decode (mB M_X9_init) 122 = .ok (.bipush 28, 2) := by decide +kernel
theorem r_X9_init_122 {x0 : Value} {st : List Value} {h : AH} : Run M_X9_init 122 [x0] st h = Run M_X9_init 124 [x0] (.int (nI 28) :: st) h := R_bipush d_X9_init_122 (by decide)
theorem d_X9_init_124 : decode (mB M_X9_init) 124 = .ok (.newarray .int, 2) := by decide +kernel
theorem r_X9_init_124 {x0 : Value} {st : List Value} {h : AH} : Run M_X9_init 124 [x0] (.int (nI 28) :: st) h = Run M_X9_init 126 [x0] (.ref h.1 :: st) (hnew h 28 (iA 28 (fun _ => 0))) := R_newarray d_X9_init_124 rfl ⟨by decide, by decide⟩ (by decide) rfl
theorem d_X9_init_126 : decode (mB M_X9_init) 126 = .ok (.putfield 57, 3) := by decide +kernel
theorem r_X9_init_126 {x0 : Value} {v : Nat} {a : Nat} {st : List Value} {h : AH} : Run M_X9_init 126 [x0] (.ref v :: .ref a :: st) h = if (pF h a 9 26 (.ref v)).isSome = true then Run M_X9_init 129 [x0] st ((pF h a 9 26 (.ref v)).getD h) else none := R_putfield d_X9_init_126 rfl (okP_arr rfl (Or.inr ⟨rfl, rfl⟩))
theorem d_X9_init_129 : decode (mB M_X9_init) 129 = .ok (.aload_n 0, 1) := by decide +kernel
theorem r_X9_init_129 {a : Nat} {st : List Value} {h : AH} : Run M_X9_init 129 [.ref a] st h = Run M_X9_init 130 [.ref a] (.ref a :: st) h := R_aload_n d_X9_init_129 rfl
theorem d_X9_init_130 : decode (mB M_X9_init) 130 = .ok (.bipush 10, 2) := by decide +kernel
theorem r_X9_init_130 {x0 : Value} {st : List Value} {h : AH} : Run M_X9_init 130 [x0] st h = Run M_X9_init 132 [x0] (.int (nI 10) :: st) h := R_bipush d_X9_init_130 (by decide)
theorem d_X9_init_132 : decode (mB M_X9_init) 132 = .ok (.newarray .int, 2) := by decide +kernel
theorem r_X9_init_132 {x0 : Value} {st : List Value} {h : AH} : Run M_X9_init 132 [x0] (.int (nI 10) :: st) h = Run M_X9_init 134 [x0] (.ref h.1 :: st) (hnew h 10 (iA 10 (fun _ => 0))) := R_newarray d_X9_init_132 rfl ⟨by decide, by decide⟩ (by decide) rfl
theorem d_X9_init_134 : decode (mB M_X9_init) 134 = .ok (.putfield 60, 3) := by decide +kernel
theorem r_X9_init_134 {x0 : Value} {v : Nat} {a : Nat} {st : List Value} {h : AH} : Run M_X9_init 134 [x0] (.ref v :: .ref a :: st) h = if (pF h a 9 28 (.ref v)).isSome = true then Run M_X9_init 137 [x0] st ((pF h a 9 28 (.ref v)).getD h) else none := R_putfield d_X9_init_134 rfl (okP_arr rfl (Or.inr ⟨rfl, rfl⟩))
theorem d_X9_init_137 : decode (mB M_X9_init) 137 = .ok (.aload_n 0, 1) := by decide +kernel
theorem r_X9_init_137 {a : Nat} {st : List Value} {h : AH} : Run M_X9_init 137 [.ref a] st h = Run M_X9_init 138 [.ref a] (.ref a :: st) h := R_aload_n d_X9_init_137 rfl
theorem d_X9_init_138 : decode (mB M_X9_init) 138 = .ok (.bipush 10, 2) := by decide +kernel
theorem r_X9_init_138 {x0 : Value} {st : List Value} {h : AH} : Run M_X9_init 138 [x0] st h = Run M_X9_init 140 [x0] (.int (nI 10) :: st) h := R_bipush d_X9_init_138 (by decide)
theorem d_X9_init_140 : decode (mB M_X9_init) 140 = .ok (.newarray .int, 2) := by decide +kernel
theorem r_X9_init_140 {x0 : Value} {st : List Value} {h : AH} : Run M_X9_init 140 [x0] (.int (nI 10) :: st) h = Run M_X9_init 142 [x0] (.ref h.1 :: st) (hnew h 10 (iA 10 (fun _ => 0))) := R_newarray d_X9_init_140 rfl ⟨by decide, by decide⟩ (by decide) rfl
theorem d_X9_init_142 : decode (mB M_X9_init) 142 = .ok (.putfield 63, 3) := by decide +kernel
theorem r_X9_init_142 {x0 : Value} {v : Nat} {a : Nat} {st : List Value} {h : AH} : Run M_X9_init 142 [x0] (.ref v :: .ref a :: st) h = if (pF h a 9 30 (.ref v)).isSome = true then Run M_X9_init 145 [x0] st ((pF h a 9 30 (.ref v)).getD h) else none := R_putfield d_X9_init_142 rfl (okP_arr rfl (Or.inr ⟨rfl, rfl⟩))
theorem d_X9_init_145 : decode (mB M_X9_init) 145 = .ok (.aload_n 0, 1) := by decide +kernel
theorem r_X9_init_145 {a : Nat} {st : List Value} {h : AH} : Run M_X9_init 145 [.ref a] st h = Run M_X9_init 146 [.ref a] (.ref a :: st) h := R_aload_n d_X9_init_145 rfl
theorem d_X9_init_146 : decode (mB M_X9_init) 146 = .ok (.iconst 5, 1) := by decide +kernel
theorem r_X9_init_146 {x0 : Value} {st : List Value} {h : AH} : Run M_X9_init 146 [x0] st h = Run M_X9_init 147 [x0] (.int (nI 5) :: st) h := R_iconst d_X9_init_146 (by decide)
theorem d_X9_init_147 : decode (mB M_X9_init) 147 = .ok (.newarray .int, 2) := by decide +kernel
theorem r_X9_init_147 {x0 : Value} {st : List Value} {h : AH} : Run M_X9_init 147 [x0] (.int (nI 5) :: st) h = Run M_X9_init 149 [x0] (.ref h.1 :: st) (hnew h 5 (iA 5 (fun _ => 0))) := R_newarray d_X9_init_147 rfl ⟨by decide, by decide⟩ (by decide) rfl
theorem d_X9_init_149 : decode (mB M_X9_init) 149 = .ok (.putfield 66, 3) := by decide +kernel
theorem r_X9_init_149 {x0 : Value} {v : Nat} {a : Nat} {st : List Value} {h : AH} : Run M_X9_init 149 [x0] (.ref v :: .ref a :: st) h = if (pF h a 9 31 (.ref v)).isSome = true then Run M_X9_init 152 [x0] st ((pF h a 9 31 (.ref v)).getD h) else none := R_putfield d_X9_init_149 rfl (okP_arr rfl (Or.inr ⟨rfl, rfl⟩))
theorem d_X9_init_152 : decode (mB M_X9_init) 152 = .ok (.aload_n 0, 1) := by decide +kernel
theorem r_X9_init_152 {a : Nat} {st : List Value} {h : AH} : Run M_X9_init 152 [.ref a] st h = Run M_X9_init 153 [.ref a] (.ref a :: st) h := R_aload_n d_X9_init_152 rfl
theorem d_X9_init_153 : decode (mB M_X9_init) 153 = .ok (.sipush 421, 3) := by decide +kernel
theorem r_X9_init_153 {x0 : Value} {st : List Value} {h : AH} : Run M_X9_init 153 [x0] st h = Run M_X9_init 156 [x0] (.int (nI 421) :: st) h := R_sipush d_X9_init_153 (by decide)
theorem d_X9_init_156 : decode (mB M_X9_init) 156 = .ok (.newarray .long, 2) := by decide +kernel
theorem r_X9_init_156 {x0 : Value} {st : List Value} {h : AH} : Run M_X9_init 156 [x0] (.int (nI 421) :: st) h = Run M_X9_init 158 [x0] (.ref h.1 :: st) (hnew h 421 (jA 421 (fun _ => 0))) := R_newarray d_X9_init_156 rfl ⟨by decide, by decide⟩ (by decide) rfl
theorem d_X9_init_158 : decode (mB M_X9_init) 158 = .ok (.putfield 69, 3) := by decide +kernel
theorem r_X9_init_158 {x0 : Value} {v : Nat} {a : Nat} {st : List Value} {h : AH} : Run M_X9_init 158 [x0] (.ref v :: .ref a :: st) h = if (pF h a 9 34 (.ref v)).isSome = true then Run M_X9_init 161 [x0] st ((pF h a 9 34 (.ref v)).getD h) else none := R_putfield d_X9_init_158 rfl (okP_arr rfl (Or.inr ⟨rfl, rfl⟩))
theorem d_X9_init_161 : decode (mB M_X9_init) 161 = .ok (.aload_n 0, 1) := by decide +kernel
theorem r_X9_init_161 {a : Nat} {st : List Value} {h : AH} : Run M_X9_init 161 [.ref a] st h = Run M_X9_init 162 [.ref a] (.ref a :: st) h := R_aload_n d_X9_init_161 rfl
theorem d_X9_init_162 : decode (mB M_X9_init) 162 = .ok (.sipush 421, 3) := by decide +kernel
theorem r_X9_init_162 {x0 : Value} {st : List Value} {h : AH} : Run M_X9_init 162 [x0] st h = Run M_X9_init 165 [x0] (.int (nI 421) :: st) h := R_sipush d_X9_init_162 (by decide)
theorem d_X9_init_165 : decode (mB M_X9_init) 165 = .ok (.newarray .long, 2) := by decide +kernel
theorem r_X9_init_165 {x0 : Value} {st : List Value} {h : AH} : Run M_X9_init 165 [x0] (.int (nI 421) :: st) h = Run M_X9_init 167 [x0] (.ref h.1 :: st) (hnew h 421 (jA 421 (fun _ => 0))) := R_newarray d_X9_init_165 rfl ⟨by decide, by decide⟩ (by decide) rfl
theorem d_X9_init_167 : decode (mB M_X9_init) 167 = .ok (.putfield 73, 3) := by decide +kernel
theorem r_X9_init_167 {x0 : Value} {v : Nat} {a : Nat} {st : List Value} {h : AH} : Run M_X9_init 167 [x0] (.ref v :: .ref a :: st) h = if (pF h a 9 35 (.ref v)).isSome = true then Run M_X9_init 170 [x0] st ((pF h a 9 35 (.ref v)).getD h) else none := R_putfield d_X9_init_167 rfl (okP_arr rfl (Or.inr ⟨rfl, rfl⟩))
theorem d_X9_init_170 : decode (mB M_X9_init) 170 = .ok (.aload_n 0, 1) := by decide +kernel
theorem r_X9_init_170 {a : Nat} {st : List Value} {h : AH} : Run M_X9_init 170 [.ref a] st h = Run M_X9_init 171 [.ref a] (.ref a :: st) h := R_aload_n d_X9_init_170 rfl
theorem d_X9_init_171 : decode (mB M_X9_init) 171 = .ok (.bipush 24, 2) := by decide +kernel
theorem r_X9_init_171 {x0 : Value} {st : List Value} {h : AH} : Run M_X9_init 171 [x0] st h = Run M_X9_init 173 [x0] (.int (nI 24) :: st) h := R_bipush d_X9_init_171 (by decide)
theorem d_X9_init_173 : decode (mB M_X9_init) 173 = .ok (.newarray .int, 2) := by decide +kernel
theorem r_X9_init_173 {x0 : Value} {st : List Value} {h : AH} : Run M_X9_init 173 [x0] (.int (nI 24) :: st) h = Run M_X9_init 175 [x0] (.ref h.1 :: st) (hnew h 24 (iA 24 (fun _ => 0))) := R_newarray d_X9_init_173 rfl ⟨by decide, by decide⟩ (by decide) rfl
theorem d_X9_init_175 : decode (mB M_X9_init) 175 = .ok (.putfield 76, 3) := by decide +kernel
theorem r_X9_init_175 {x0 : Value} {v : Nat} {a : Nat} {st : List Value} {h : AH} : Run M_X9_init 175 [x0] (.ref v :: .ref a :: st) h = if (pF h a 9 37 (.ref v)).isSome = true then Run M_X9_init 178 [x0] st ((pF h a 9 37 (.ref v)).getD h) else none := R_putfield d_X9_init_175 rfl (okP_arr rfl (Or.inr ⟨rfl, rfl⟩))
theorem d_X9_init_178 : decode (mB M_X9_init) 178 = .ok (.aload_n 0, 1) := by decide +kernel
theorem r_X9_init_178 {a : Nat} {st : List Value} {h : AH} : Run M_X9_init 178 [.ref a] st h = Run M_X9_init 179 [.ref a] (.ref a :: st) h := R_aload_n d_X9_init_178 rfl
theorem d_X9_init_179 : decode (mB M_X9_init) 179 = .ok (.bipush 40, 2) := by decide +kernel
theorem r_X9_init_179 {x0 : Value} {st : List Value} {h : AH} : Run M_X9_init 179 [x0] st h = Run M_X9_init 181 [x0] (.int (nI 40) :: st) h := R_bipush d_X9_init_179 (by decide)
theorem d_X9_init_181 : decode (mB M_X9_init) 181 = .ok (.newarray .int, 2) := by decide +kernel
theorem r_X9_init_181 {x0 : Value} {st : List Value} {h : AH} : Run M_X9_init 181 [x0] (.int (nI 40) :: st) h = Run M_X9_init 183 [x0] (.ref h.1 :: st) (hnew h 40 (iA 40 (fun _ => 0))) := R_newarray d_X9_init_181 rfl ⟨by decide, by decide⟩ (by decide) rfl
theorem d_X9_init_183 : decode (mB M_X9_init) 183 = .ok (.putfield 79, 3) := by decide +kernel
theorem r_X9_init_183 {x0 : Value} {v : Nat} {a : Nat} {st : List Value} {h : AH} : Run M_X9_init 183 [x0] (.ref v :: .ref a :: st) h = if (pF h a 9 39 (.ref v)).isSome = true then Run M_X9_init 186 [x0] st ((pF h a 9 39 (.ref v)).getD h) else none := R_putfield d_X9_init_183 rfl (okP_arr rfl (Or.inr ⟨rfl, rfl⟩))
theorem d_X9_init_186 : decode (mB M_X9_init) 186 = .ok (.aload_n 0, 1) := by decide +kernel
theorem r_X9_init_186 {a : Nat} {st : List Value} {h : AH} : Run M_X9_init 186 [.ref a] st h = Run M_X9_init 187 [.ref a] (.ref a :: st) h := R_aload_n d_X9_init_186 rfl
theorem d_X9_init_187 : decode (mB M_X9_init) 187 = .ok (.getfield 7, 3) := by decide +kernel
theorem r_X9_init_187 {x0 : Value} {a : Nat} {st : List Value} {h : AH} : Run M_X9_init 187 [x0] (.ref a :: st) h = if (gF h a 9 0).isSome = true then Run M_X9_init 190 [x0] ((gF h a 9 0).getD .null :: st) h else none := R_getfield d_X9_init_187 rfl
theorem d_X9_init_190 : decode (mB M_X9_init) 190 = .ok (.iconst 0, 1) := by decide +kernel
theorem r_X9_init_190 {x0 : Value} {st : List Value} {h : AH} : Run M_X9_init 190 [x0] st h = Run M_X9_init 191 [x0] (.int (nI 0) :: st) h := R_iconst d_X9_init_190 (by decide)
theorem d_X9_init_191 : decode (mB M_X9_init) 191 = .ok (.iconst 3, 1) := by decide +kernel
theorem r_X9_init_191 {x0 : Value} {st : List Value} {h : AH} : Run M_X9_init 191 [x0] st h = Run M_X9_init 192 [x0] (.int (nI 3) :: st) h := R_iconst d_X9_init_191 (by decide)
theorem d_X9_init_192 : decode (mB M_X9_init) 192 = .ok (.iastore, 1) := by decide +kernel
theorem r_X9_init_192 {x0 : Value} {a : Nat} {i x : Int32} {st : List Value} {h : AH} : Run M_X9_init 192 [x0] (.int x :: .int i :: .ref a :: st) h = if (pI 0 h a i x).isSome = true then Run M_X9_init 193 [x0] st ((pI 0 h a i x).getD h) else none := R_iastore d_X9_init_192
theorem d_X9_init_193 : decode (mB M_X9_init) 193 = .ok (.aload_n 0, 1) := by decide +kernel
theorem r_X9_init_193 {a : Nat} {st : List Value} {h : AH} : Run M_X9_init 193 [.ref a] st h = Run M_X9_init 194 [.ref a] (.ref a :: st) h := R_aload_n d_X9_init_193 rfl
theorem d_X9_init_194 : decode (mB M_X9_init) 194 = .ok (.getfield 7, 3) := by decide +kernel
theorem r_X9_init_194 {x0 : Value} {a : Nat} {st : List Value} {h : AH} : Run M_X9_init 194 [x0] (.ref a :: st) h = if (gF h a 9 0).isSome = true then Run M_X9_init 197 [x0] ((gF h a 9 0).getD .null :: st) h else none := R_getfield d_X9_init_194 rfl
theorem d_X9_init_197 : decode (mB M_X9_init) 197 = .ok (.iconst 1, 1) := by decide +kernel
theorem r_X9_init_197 {x0 : Value} {st : List Value} {h : AH} : Run M_X9_init 197 [x0] st h = Run M_X9_init 198 [x0] (.int (nI 1) :: st) h := R_iconst d_X9_init_197 (by decide)
theorem d_X9_init_198 : decode (mB M_X9_init) 198 = .ok (.iconst 2, 1) := by decide +kernel
theorem r_X9_init_198 {x0 : Value} {st : List Value} {h : AH} : Run M_X9_init 198 [x0] st h = Run M_X9_init 199 [x0] (.int (nI 2) :: st) h := R_iconst d_X9_init_198 (by decide)
theorem d_X9_init_199 : decode (mB M_X9_init) 199 = .ok (.iastore, 1) := by decide +kernel
theorem r_X9_init_199 {x0 : Value} {a : Nat} {i x : Int32} {st : List Value} {h : AH} : Run M_X9_init 199 [x0] (.int x :: .int i :: .ref a :: st) h = if (pI 0 h a i x).isSome = true then Run M_X9_init 200 [x0] st ((pI 0 h a i x).getD h) else none := R_iastore d_X9_init_199
theorem d_X9_init_200 : decode (mB M_X9_init) 200 = .ok (.aload_n 0, 1) := by decide +kernel
theorem r_X9_init_200 {a : Nat} {st : List Value} {h : AH} : Run M_X9_init 200 [.ref a] st h = Run M_X9_init 201 [.ref a] (.ref a :: st) h := R_aload_n d_X9_init_200 rfl
theorem d_X9_init_201 : decode (mB M_X9_init) 201 = .ok (.getfield 7, 3) := by decide +kernel
theorem r_X9_init_201 {x0 : Value} {a : Nat} {st : List Value} {h : AH} : Run M_X9_init 201 [x0] (.ref a :: st) h = if (gF h a 9 0).isSome = true then Run M_X9_init 204 [x0] ((gF h a 9 0).getD .null :: st) h else none := R_getfield d_X9_init_201 rfl
theorem d_X9_init_204 : decode (mB M_X9_init) 204 = .ok (.iconst 2, 1) := by decide +kernel
theorem r_X9_init_204 {x0 : Value} {st : List Value} {h : AH} : Run M_X9_init 204 [x0] st h = Run M_X9_init 205 [x0] (.int (nI 2) :: st) h := R_iconst d_X9_init_204 (by decide)
theorem d_X9_init_205 : decode (mB M_X9_init) 205 = .ok (.iconst 1, 1) := by decide +kernel
theorem r_X9_init_205 {x0 : Value} {st : List Value} {h : AH} : Run M_X9_init 205 [x0] st h = Run M_X9_init 206 [x0] (.int (nI 1) :: st) h := R_iconst d_X9_init_205 (by decide)
theorem d_X9_init_206 : decode (mB M_X9_init) 206 = .ok (.iastore, 1) := by decide +kernel
theorem r_X9_init_206 {x0 : Value} {a : Nat} {i x : Int32} {st : List Value} {h : AH} : Run M_X9_init 206 [x0] (.int x :: .int i :: .ref a :: st) h = if (pI 0 h a i x).isSome = true then Run M_X9_init 207 [x0] st ((pI 0 h a i x).getD h) else none := R_iastore d_X9_init_206
theorem d_X9_init_207 : decode (mB M_X9_init) 207 = .ok (.aload_n 0, 1) := by decide +kernel
theorem r_X9_init_207 {a : Nat} {st : List Value} {h : AH} : Run M_X9_init 207 [.ref a] st h = Run M_X9_init 208 [.ref a] (.ref a :: st) h := R_aload_n d_X9_init_207 rfl
theorem d_X9_init_208 : decode (mB M_X9_init) 208 = .ok (.getfield 7, 3) := by decide +kernel
theorem r_X9_init_208 {x0 : Value} {a : Nat} {st : List Value} {h : AH} : Run M_X9_init 208 [x0] (.ref a :: st) h = if (gF h a 9 0).isSome = true then Run M_X9_init 211 [x0] ((gF h a 9 0).getD .null :: st) h else none := R_getfield d_X9_init_208 rfl
theorem d_X9_init_211 : decode (mB M_X9_init) 211 = .ok (.iconst 3, 1) := by decide +kernel
theorem r_X9_init_211 {x0 : Value} {st : List Value} {h : AH} : Run M_X9_init 211 [x0] st h = Run M_X9_init 212 [x0] (.int (nI 3) :: st) h := R_iconst d_X9_init_211 (by decide)
theorem d_X9_init_212 : decode (mB M_X9_init) 212 = .ok (.bipush 8, 2) := by decide +kernel
theorem r_X9_init_212 {x0 : Value} {st : List Value} {h : AH} : Run M_X9_init 212 [x0] st h = Run M_X9_init 214 [x0] (.int (nI 8) :: st) h := R_bipush d_X9_init_212 (by decide)
theorem d_X9_init_214 : decode (mB M_X9_init) 214 = .ok (.iastore, 1) := by decide +kernel
theorem r_X9_init_214 {x0 : Value} {a : Nat} {i x : Int32} {st : List Value} {h : AH} : Run M_X9_init 214 [x0] (.int x :: .int i :: .ref a :: st) h = if (pI 0 h a i x).isSome = true then Run M_X9_init 215 [x0] st ((pI 0 h a i x).getD h) else none := R_iastore d_X9_init_214
theorem d_X9_init_215 : decode (mB M_X9_init) 215 = .ok (.return_, 1) := by decide +kernel
theorem r_X9_init_215 {x0 : Value} {h : AH} : Run M_X9_init 215 [x0] [] h = some (h, none) := R_return d_X9_init_215 rfl
theorem d_X9_in_0 : decode (mB M_X9_in) 0 = .ok (.iload_n 0, 1) := by decide +kernel
theorem r_X9_in_0 {x1 x2 : Value} {a : Int32} {st : List Value} {h : AH} : Run M_X9_in 0 [.int a, x1, x2] st h = Run M_X9_in 1 [.int a, x1, x2] (.int a :: st) h := R_iload_n d_X9_in_0 rfl
theorem d_X9_in_1 : decode (mB M_X9_in) 1 = .ok (.iload_n 1, 1) := by decide +kernel
theorem r_X9_in_1 {x0 x2 : Value} {a : Int32} {st : List Value} {h : AH} : Run M_X9_in 1 [x0, .int a, x2] st h = Run M_X9_in 2 [x0, .int a, x2] (.int a :: st) h := R_iload_n d_X9_in_1 rfl
theorem d_X9_in_2 : decode (mB M_X9_in) 2 = .ok (.if_icmp .lt 12, 3) := by decide +kernel
theorem r_X9_in_2 {x0 x1 x2 : Value} {x y : Int32} {st : List Value} {h : AH} : Run M_X9_in 2 [x0, x1, x2] (.int y :: .int x :: st) h = if x < y then Run M_X9_in 14 [x0, x1, x2] st h else Run M_X9_in 5 [x0, x1, x2] st h := R_icmp_lt d_X9_in_2 (by decide)
theorem d_X9_in_5 : decode (mB M_X9_in) 5 = .ok (.iload_n 0, 1) := by decide +kernel
theorem r_X9_in_5 {x1 x2 : Value} {a : Int32} {st : List Value} {h : AH} : Run M_X9_in 5 [.int a, x1, x2] st h = Run M_X9_in 6 [.int a, x1, x2] (.int a :: st) h := R_iload_n d_X9_in_5 rfl
theorem d_X9_in_6 : decode (mB M_X9_in) 6 = .ok (.iload_n 2, 1) := by decide +kernel
theorem r_X9_in_6 {x0 x1 : Value} {a : Int32} {st : List Value} {h : AH} : Run M_X9_in 6 [x0, x1, .int a] st h = Run M_X9_in 7 [x0, x1, .int a] (.int a :: st) h := R_iload_n d_X9_in_6 rfl
theorem d_X9_in_7 : decode (mB M_X9_in) 7 = .ok (.if_icmp .gt 7, 3) := by decide +kernel
theorem r_X9_in_7 {x0 x1 x2 : Value} {x y : Int32} {st : List Value} {h : AH} : Run M_X9_in 7 [x0, x1, x2] (.int y :: .int x :: st) h = if y < x then Run M_X9_in 14 [x0, x1, x2] st h else Run M_X9_in 10 [x0, x1, x2] st h := R_icmp_gt d_X9_in_7 (by decide)
theorem d_X9_in_10 : decode (mB M_X9_in) 10 = .ok (.iconst 1, 1) := by decide +kernel
theorem r_X9_in_10 {x0 x1 x2 : Value} {st : List Value} {h : AH} : Run M_X9_in 10 [x0, x1, x2] st h = Run M_X9_in 11 [x0, x1, x2] (.int (nI 1) :: st) h := R_iconst d_X9_in_10 (by decide)
theorem d_X9_in_11 : decode (mB M_X9_in) 11 = .ok (.goto 4, 3) := by decide +kernel
theorem r_X9_in_11 {x0 x1 x2 : Value} {st : List Value} {h : AH} : Run M_X9_in 11 [x0, x1, x2] st h = Run M_X9_in 15 [x0, x1, x2] st h := R_goto d_X9_in_11 (by decide)
theorem d_X9_in_14 : decode (mB M_X9_in) 14 = .ok (.iconst 0, 1) := by decide +kernel
theorem r_X9_in_14 {x0 x1 x2 : Value} {st : List Value} {h : AH} : Run M_X9_in 14 [x0, x1, x2] st h = Run M_X9_in 15 [x0, x1, x2] (.int (nI 0) :: st) h := R_iconst d_X9_in_14 (by decide)
theorem d_X9_in_15 : decode (mB M_X9_in) 15 = .ok (.ireturn, 1) := by decide +kernel
theorem r_X9_in_15_0 {x0 x1 x2 : Value} {h : AH} : Run M_X9_in 15 [x0, x1, x2] [.int (nI 0)] h = some (h, some (.int (nI 0))) := R_ireturn d_X9_in_15 rfl (by decide)
theorem r_X9_in_15_1 {x0 x1 x2 : Value} {h : AH} : Run M_X9_in 15 [x0, x1, x2] [.int (nI 1)] h = some (h, some (.int (nI 1))) := R_ireturn d_X9_in_15 rfl (by decide)
theorem r_X9_in_15_c {x0 x1 x2 : Value} {c : Prop} [Decidable c] {h : AH} : Run M_X9_in 15 [x0, x1, x2] [.int (bI c)] h = some (h, some (.int (bI c))) := R_ireturn d_X9_in_15 rfl narrow_bI
theorem d_X9_has_0 : decode (mB M_X9_has) 0 = .ok (.iload_n 0, 1) := by decide +kernel
theorem r_X9_has_0 {x1 : Value} {a : Int32} {st : List Value} {h : AH} : Run M_X9_has 0 [.int a, x1] st h = Run M_X9_has 1 [.int a, x1] (.int a :: st) h := R_iload_n d_X9_has_0 rfl
theorem d_X9_has_1 : decode (mB M_X9_has) 1 = .ok (.iload_n 1, 1) := by decide +kernel
theorem r_X9_has_1 {x0 : Value} {a : Int32} {st : List Value} {h : AH} : Run M_X9_has 1 [x0, .int a] st h = Run M_X9_has 2 [x0, .int a] (.int a :: st) h := R_iload_n d_X9_has_1 rfl
theorem d_X9_has_2 : decode (mB M_X9_has) 2 = .ok (.ishr, 1) := by decide +kernel
theorem r_X9_has_2 {x0 x1 : Value} {x y : Int32} {st : List Value} {h : AH} : Run M_X9_has 2 [x0, x1] (.int y :: .int x :: st) h = Run M_X9_has 3 [x0, x1] (.int (x >>> (y &&& 31)) :: st) h := R_ishr d_X9_has_2
theorem d_X9_has_3 : decode (mB M_X9_has) 3 = .ok (.iconst 1, 1) := by decide +kernel
theorem r_X9_has_3 {x0 x1 : Value} {st : List Value} {h : AH} : Run M_X9_has 3 [x0, x1] st h = Run M_X9_has 4 [x0, x1] (.int (nI 1) :: st) h := R_iconst d_X9_has_3 (by decide)
theorem d_X9_has_4 : decode (mB M_X9_has) 4 = .ok (.iand, 1) := by decide +kernel
theorem r_X9_has_4 {x0 x1 : Value} {x y : Int32} {st : List Value} {h : AH} : Run M_X9_has 4 [x0, x1] (.int y :: .int x :: st) h = Run M_X9_has 5 [x0, x1] (.int (x &&& y) :: st) h := R_iand d_X9_has_4
theorem d_X9_has_5 : decode (mB M_X9_has) 5 = .ok (.iconst 1, 1) := by decide +kernel
theorem r_X9_has_5 {x0 x1 : Value} {st : List Value} {h : AH} : Run M_X9_has 5 [x0, x1] st h = Run M_X9_has 6 [x0, x1] (.int (nI 1) :: st) h := R_iconst d_X9_has_5 (by decide)
theorem d_X9_has_6 : decode (mB M_X9_has) 6 = .ok (.if_icmp .ne 7, 3) := by decide +kernel
theorem r_X9_has_6 {x0 x1 : Value} {x y : Int32} {st : List Value} {h : AH} : Run M_X9_has 6 [x0, x1] (.int y :: .int x :: st) h = if x = y then Run M_X9_has 9 [x0, x1] st h else Run M_X9_has 13 [x0, x1] st h := R_icmp_ne d_X9_has_6 (by decide)
theorem d_X9_has_9 : decode (mB M_X9_has) 9 = .ok (.iconst 1, 1) := by decide +kernel
theorem r_X9_has_9 {x0 x1 : Value} {st : List Value} {h : AH} : Run M_X9_has 9 [x0, x1] st h = Run M_X9_has 10 [x0, x1] (.int (nI 1) :: st) h := R_iconst d_X9_has_9 (by decide)
theorem d_X9_has_10 : decode (mB M_X9_has) 10 = .ok (.goto 4, 3) := by decide +kernel
theorem r_X9_has_10 {x0 x1 : Value} {st : List Value} {h : AH} : Run M_X9_has 10 [x0, x1] st h = Run M_X9_has 14 [x0, x1] st h := R_goto d_X9_has_10 (by decide)
theorem d_X9_has_13 : decode (mB M_X9_has) 13 = .ok (.iconst 0, 1) := by decide +kernel
theorem r_X9_has_13 {x0 x1 : Value} {st : List Value} {h : AH} : Run M_X9_has 13 [x0, x1] st h = Run M_X9_has 14 [x0, x1] (.int (nI 0) :: st) h := R_iconst d_X9_has_13 (by decide)
theorem d_X9_has_14 : decode (mB M_X9_has) 14 = .ok (.ireturn, 1) := by decide +kernel
theorem r_X9_has_14_0 {x0 x1 : Value} {h : AH} : Run M_X9_has 14 [x0, x1] [.int (nI 0)] h = some (h, some (.int (nI 0))) := R_ireturn d_X9_has_14 rfl (by decide)
theorem r_X9_has_14_1 {x0 x1 : Value} {h : AH} : Run M_X9_has 14 [x0, x1] [.int (nI 1)] h = some (h, some (.int (nI 1))) := R_ireturn d_X9_has_14 rfl (by decide)
theorem r_X9_has_14_c {x0 x1 : Value} {c : Prop} [Decidable c] {h : AH} : Run M_X9_has 14 [x0, x1] [.int (bI c)] h = some (h, some (.int (bI c))) := R_ireturn d_X9_has_14 rfl narrow_bI
theorem d_X9_bits_0 : decode (mB M_X9_bits) 0 = .ok (.iconst 0, 1) := by decide +kernel
theorem r_X9_bits_0 {x0 x1 x2 : Value} {st : List Value} {h : AH} : Run M_X9_bits 0 [x0, x1, x2] st h = Run M_X9_bits 1 [x0, x1, x2] (.int (nI 0) :: st) h := R_iconst d_X9_bits_0 (by decide)
theorem d_X9_bits_1 : decode (mB M_X9_bits) 1 = .ok (.istore_n 1, 1) := by decide +kernel
theorem r_X9_bits_1 {x0 x1 x2 : Value} {a : Int32} {st : List Value} {h : AH} (hc : x0.category = 1) : Run M_X9_bits 1 [x0, x1, x2] (.int a :: st) h = Run M_X9_bits 2 [x0, .int a, x2] st h := R_istore_n d_X9_bits_1 (Nat.lt_of_lt_of_le (by decide : 1 < 3) (Nat.le_refl 3)) (catP_of rfl hc)
theorem d_X9_bits_2 : decode (mB M_X9_bits) 2 = .ok (.iload_n 0, 1) := by decide +kernel
theorem r_X9_bits_2 {x1 x2 : Value} {a : Int32} {st : List Value} {h : AH} : Run M_X9_bits 2 [.int a, x1, x2] st h = Run M_X9_bits 3 [.int a, x1, x2] (.int a :: st) h := R_iload_n d_X9_bits_2 rfl
theorem d_X9_bits_3 : decode (mB M_X9_bits) 3 = .ok (.istore_n 2, 1) := by decide +kernel
theorem r_X9_bits_3 {x0 x1 x2 : Value} {a : Int32} {st : List Value} {h : AH} (hc : x1.category = 1) : Run M_X9_bits 3 [x0, x1, x2] (.int a :: st) h = Run M_X9_bits 4 [x0, x1, .int a] st h := R_istore_n d_X9_bits_3 (Nat.lt_of_lt_of_le (by decide : 2 < 3) (Nat.le_refl 3)) (catP_of rfl hc)
theorem d_X9_bits_4 : decode (mB M_X9_bits) 4 = .ok (.iload_n 2, 1) := by decide +kernel
theorem r_X9_bits_4 {x0 x1 : Value} {a : Int32} {st : List Value} {h : AH} : Run M_X9_bits 4 [x0, x1, .int a] st h = Run M_X9_bits 5 [x0, x1, .int a] (.int a :: st) h := R_iload_n d_X9_bits_4 rfl
theorem d_X9_bits_5 : decode (mB M_X9_bits) 5 = .ok (.ifCond .le 15, 3) := by decide +kernel
theorem r_X9_bits_5 {x0 x1 x2 : Value} {x : Int32} {st : List Value} {h : AH} : Run M_X9_bits 5 [x0, x1, x2] (.int x :: st) h = if x ≤ nI 0 then Run M_X9_bits 20 [x0, x1, x2] st h else Run M_X9_bits 8 [x0, x1, x2] st h := R_if_le d_X9_bits_5 (by decide)
theorem d_X9_bits_8 : decode (mB M_X9_bits) 8 = .ok (.iinc 1 1, 3) := by decide +kernel
theorem r_X9_bits_8 {x0 x2 : Value} {a : Int32} {st : List Value} {h : AH} (hc : x0.category = 1) : Run M_X9_bits 8 [x0, .int a, x2] st h = Run M_X9_bits 11 [x0, .int (a + (nI 1)), x2] st h := R_iinc d_X9_bits_8 (by decide) rfl (catP_of rfl hc)
theorem d_X9_bits_11 : decode (mB M_X9_bits) 11 = .ok (.iload_n 2, 1) := by decide +kernel
theorem r_X9_bits_11 {x0 x1 : Value} {a : Int32} {st : List Value} {h : AH} : Run M_X9_bits 11 [x0, x1, .int a] st h = Run M_X9_bits 12 [x0, x1, .int a] (.int a :: st) h := R_iload_n d_X9_bits_11 rfl
theorem d_X9_bits_12 : decode (mB M_X9_bits) 12 = .ok (.iload_n 2, 1) := by decide +kernel
theorem r_X9_bits_12 {x0 x1 : Value} {a : Int32} {st : List Value} {h : AH} : Run M_X9_bits 12 [x0, x1, .int a] st h = Run M_X9_bits 13 [x0, x1, .int a] (.int a :: st) h := R_iload_n d_X9_bits_12 rfl
theorem d_X9_bits_13 : decode (mB M_X9_bits) 13 = .ok (.iconst 1, 1) := by decide +kernel
theorem r_X9_bits_13 {x0 x1 x2 : Value} {st : List Value} {h : AH} : Run M_X9_bits 13 [x0, x1, x2] st h = Run M_X9_bits 14 [x0, x1, x2] (.int (nI 1) :: st) h := R_iconst d_X9_bits_13 (by decide)
theorem d_X9_bits_14 : decode (mB M_X9_bits) 14 = .ok (.isub, 1) := by decide +kernel
theorem r_X9_bits_14 {x0 x1 x2 : Value} {x y : Int32} {st : List Value} {h : AH} : Run M_X9_bits 14 [x0, x1, x2] (.int y :: .int x :: st) h = Run M_X9_bits 15 [x0, x1, x2] (.int (x - y) :: st) h := R_isub d_X9_bits_14
theorem d_X9_bits_15 : decode (mB M_X9_bits) 15 = .ok (.iand, 1) := by decide +kernel
theorem r_X9_bits_15 {x0 x1 x2 : Value} {x y : Int32} {st : List Value} {h : AH} : Run M_X9_bits 15 [x0, x1, x2] (.int y :: .int x :: st) h = Run M_X9_bits 16 [x0, x1, x2] (.int (x &&& y) :: st) h := R_iand d_X9_bits_15
theorem d_X9_bits_16 : decode (mB M_X9_bits) 16 = .ok (.istore_n 2, 1) := by decide +kernel
theorem r_X9_bits_16 {x0 x1 x2 : Value} {a : Int32} {st : List Value} {h : AH} (hc : x1.category = 1) : Run M_X9_bits 16 [x0, x1, x2] (.int a :: st) h = Run M_X9_bits 17 [x0, x1, .int a] st h := R_istore_n d_X9_bits_16 (Nat.lt_of_lt_of_le (by decide : 2 < 3) (Nat.le_refl 3)) (catP_of rfl hc)
theorem d_X9_bits_17 : decode (mB M_X9_bits) 17 = .ok (.goto (-13), 3) := by decide +kernel
theorem r_X9_bits_17 {x0 x1 x2 : Value} {st : List Value} {h : AH} : Run M_X9_bits 17 [x0, x1, x2] st h = Run M_X9_bits 4 [x0, x1, x2] st h := R_goto d_X9_bits_17 (by decide)
theorem d_X9_bits_20 : decode (mB M_X9_bits) 20 = .ok (.iload_n 1, 1) := by decide +kernel
theorem r_X9_bits_20 {x0 x2 : Value} {a : Int32} {st : List Value} {h : AH} : Run M_X9_bits 20 [x0, .int a, x2] st h = Run M_X9_bits 21 [x0, .int a, x2] (.int a :: st) h := R_iload_n d_X9_bits_20 rfl
theorem d_X9_bits_21 : decode (mB M_X9_bits) 21 = .ok (.ireturn, 1) := by decide +kernel
theorem r_X9_bits_21 {x0 x1 x2 : Value} {v : Int32} {h : AH} : Run M_X9_bits 21 [x0, x1, x2] [.int v] h = some (h, some (.int v)) := R_ireturn d_X9_bits_21 rfl rfl
theorem d_X9_most_0 : decode (mB M_X9_most) 0 = .ok (.iload_n 0, 1) := by decide +kernel
theorem r_X9_most_0 {x1 : Value} {a : Int32} {st : List Value} {h : AH} : Run M_X9_most 0 [.int a, x1] st h = Run M_X9_most 1 [.int a, x1] (.int a :: st) h := R_iload_n d_X9_most_0 rfl
theorem d_X9_most_1 : decode (mB M_X9_most) 1 = .ok (.iload_n 1, 1) := by decide +kernel
theorem r_X9_most_1 {x0 : Value} {a : Int32} {st : List Value} {h : AH} : Run M_X9_most 1 [x0, .int a] st h = Run M_X9_most 2 [x0, .int a] (.int a :: st) h := R_iload_n d_X9_most_1 rfl
theorem d_X9_most_2 : decode (mB M_X9_most) 2 = .ok (.if_icmp .le 7, 3) := by decide +kernel
theorem r_X9_most_2 {x0 x1 : Value} {x y : Int32} {st : List Value} {h : AH} : Run M_X9_most 2 [x0, x1] (.int y :: .int x :: st) h = if x ≤ y then Run M_X9_most 9 [x0, x1] st h else Run M_X9_most 5 [x0, x1] st h := R_icmp_le d_X9_most_2 (by decide)
theorem d_X9_most_5 : decode (mB M_X9_most) 5 = .ok (.iload_n 0, 1) := by decide +kernel
theorem r_X9_most_5 {x1 : Value} {a : Int32} {st : List Value} {h : AH} : Run M_X9_most 5 [.int a, x1] st h = Run M_X9_most 6 [.int a, x1] (.int a :: st) h := R_iload_n d_X9_most_5 rfl
theorem d_X9_most_6 : decode (mB M_X9_most) 6 = .ok (.goto 4, 3) := by decide +kernel
theorem r_X9_most_6 {x0 x1 : Value} {st : List Value} {h : AH} : Run M_X9_most 6 [x0, x1] st h = Run M_X9_most 10 [x0, x1] st h := R_goto d_X9_most_6 (by decide)
theorem d_X9_most_9 : decode (mB M_X9_most) 9 = .ok (.iload_n 1, 1) := by decide +kernel
theorem r_X9_most_9 {x0 : Value} {a : Int32} {st : List Value} {h : AH} : Run M_X9_most 9 [x0, .int a] st h = Run M_X9_most 10 [x0, .int a] (.int a :: st) h := R_iload_n d_X9_most_9 rfl
theorem d_X9_most_10 : decode (mB M_X9_most) 10 = .ok (.ireturn, 1) := by decide +kernel
theorem r_X9_most_10 {x0 x1 : Value} {v : Int32} {h : AH} : Run M_X9_most 10 [x0, x1] [.int v] h = some (h, some (.int v)) := R_ireturn d_X9_most_10 rfl rfl
theorem d_X9_isPart_0 : decode (mB M_X9_isPart) 0 = .ok (.iload_n 1, 1) := by decide +kernel
theorem r_X9_isPart_0 {x0 : Value} {a : Int32} {st : List Value} {h : AH} : Run M_X9_isPart 0 [x0, .int a] st h = Run M_X9_isPart 1 [x0, .int a] (.int a :: st) h := R_iload_n d_X9_isPart_0 rfl
theorem d_X9_isPart_1 : decode (mB M_X9_isPart) 1 = .ok (.iconst 0, 1) := by decide +kernel
theorem r_X9_isPart_1 {x0 x1 : Value} {st : List Value} {h : AH} : Run M_X9_isPart 1 [x0, x1] st h = Run M_X9_isPart 2 [x0, x1] (.int (nI 0) :: st) h := R_iconst d_X9_isPart_1 (by decide)
theorem d_X9_isPart_2 : decode (mB M_X9_isPart) 2 = .ok (.aload_n 0, 1) := by decide +kernel
theorem r_X9_isPart_2 {x1 : Value} {a : Nat} {st : List Value} {h : AH} : Run M_X9_isPart 2 [.ref a, x1] st h = Run M_X9_isPart 3 [.ref a, x1] (.ref a :: st) h := R_aload_n d_X9_isPart_2 rfl
theorem d_X9_isPart_3 : decode (mB M_X9_isPart) 3 = .ok (.getfield 82, 3) := by decide +kernel
theorem r_X9_isPart_3 {x0 x1 : Value} {a : Nat} {st : List Value} {h : AH} : Run M_X9_isPart 3 [x0, x1] (.ref a :: st) h = if (gF h a 9 3).isSome = true then Run M_X9_isPart 6 [x0, x1] ((gF h a 9 3).getD .null :: st) h else none := R_getfield d_X9_isPart_3 rfl
theorem d_X9_isPart_6 : decode (mB M_X9_isPart) 6 = .ok (.iconst 1, 1) := by decide +kernel
theorem r_X9_isPart_6 {x0 x1 : Value} {st : List Value} {h : AH} : Run M_X9_isPart 6 [x0, x1] st h = Run M_X9_isPart 7 [x0, x1] (.int (nI 1) :: st) h := R_iconst d_X9_isPart_6 (by decide)
theorem d_X9_isPart_7 : decode (mB M_X9_isPart) 7 = .ok (.isub, 1) := by decide +kernel
theorem r_X9_isPart_7 {x0 x1 : Value} {x y : Int32} {st : List Value} {h : AH} : Run M_X9_isPart 7 [x0, x1] (.int y :: .int x :: st) h = Run M_X9_isPart 8 [x0, x1] (.int (x - y) :: st) h := R_isub d_X9_isPart_7
theorem d_X9_isPart_8 : decode (mB M_X9_isPart) 8 = .ok (.invokestatic 85, 3) := by decide +kernel
theorem r_X9_isPart_8 {x0 x1 : Value} {p0 : Int32} {p1 : Int32} {p2 : Int32} {h : AH} : Run M_X9_isPart 8 [x0, x1] (.int p2 :: .int p1 :: .int p0 :: []) h = if (Call M_X9_in h [.int p0, .int p1, .int p2]).isSome = true then Run M_X9_isPart 11 [x0, x1] (rL (Call M_X9_in h [.int p0, .int p1, .int p2]) ++ []) (cH (Call M_X9_in h [.int p0, .int p1, .int p2])) else none := R_stat d_X9_isPart_8 rfl rfl rfl rfl (Nat.le_of_ble_eq_true rfl)
theorem d_X9_isPart_11 : decode (mB M_X9_isPart) 11 = .ok (.ireturn, 1) := by decide +kernel
theorem r_X9_isPart_11_0 {x0 x1 : Value} {h : AH} : Run M_X9_isPart 11 [x0, x1] [.int (nI 0)] h = some (h, some (.int (nI 0))) := R_ireturn d_X9_isPart_11 rfl (by decide)
theorem r_X9_isPart_11_1 {x0 x1 : Value} {h : AH} : Run M_X9_isPart 11 [x0, x1] [.int (nI 1)] h = some (h, some (.int (nI 1))) := R_ireturn d_X9_isPart_11 rfl (by decide)
theorem r_X9_isPart_11_c {x0 x1 : Value} {c : Prop} [Decidable c] {h : AH} : Run M_X9_isPart 11 [x0, x1] [.int (bI c)] h = some (h, some (.int (bI c))) := R_ireturn d_X9_isPart_11 rfl narrow_bI
theorem d_X9_isPlayer_0 : decode (mB M_X9_isPlayer) 0 = .ok (.iload_n 1, 1) := by decide +kernel
theorem r_X9_isPlayer_0 {x0 : Value} {a : Int32} {st : List Value} {h : AH} : Run M_X9_isPlayer 0 [x0, .int a] st h = Run M_X9_isPlayer 1 [x0, .int a] (.int a :: st) h := R_iload_n d_X9_isPlayer_0 rfl
theorem d_X9_isPlayer_1 : decode (mB M_X9_isPlayer) 1 = .ok (.iconst 0, 1) := by decide +kernel
theorem r_X9_isPlayer_1 {x0 x1 : Value} {st : List Value} {h : AH} : Run M_X9_isPlayer 1 [x0, x1] st h = Run M_X9_isPlayer 2 [x0, x1] (.int (nI 0) :: st) h := R_iconst d_X9_isPlayer_1 (by decide)
theorem d_X9_isPlayer_2 : decode (mB M_X9_isPlayer) 2 = .ok (.aload_n 0, 1) := by decide +kernel
theorem r_X9_isPlayer_2 {x1 : Value} {a : Nat} {st : List Value} {h : AH} : Run M_X9_isPlayer 2 [.ref a, x1] st h = Run M_X9_isPlayer 3 [.ref a, x1] (.ref a :: st) h := R_aload_n d_X9_isPlayer_2 rfl
theorem d_X9_isPlayer_3 : decode (mB M_X9_isPlayer) 3 = .ok (.getfield 89, 3) := by decide +kernel
theorem r_X9_isPlayer_3 {x0 x1 : Value} {a : Nat} {st : List Value} {h : AH} : Run M_X9_isPlayer 3 [x0, x1] (.ref a :: st) h = if (gF h a 9 9).isSome = true then Run M_X9_isPlayer 6 [x0, x1] ((gF h a 9 9).getD .null :: st) h else none := R_getfield d_X9_isPlayer_3 rfl
theorem d_X9_isPlayer_6 : decode (mB M_X9_isPlayer) 6 = .ok (.iconst 1, 1) := by decide +kernel
theorem r_X9_isPlayer_6 {x0 x1 : Value} {st : List Value} {h : AH} : Run M_X9_isPlayer 6 [x0, x1] st h = Run M_X9_isPlayer 7 [x0, x1] (.int (nI 1) :: st) h := R_iconst d_X9_isPlayer_6 (by decide)
theorem d_X9_isPlayer_7 : decode (mB M_X9_isPlayer) 7 = .ok (.isub, 1) := by decide +kernel
theorem r_X9_isPlayer_7 {x0 x1 : Value} {x y : Int32} {st : List Value} {h : AH} : Run M_X9_isPlayer 7 [x0, x1] (.int y :: .int x :: st) h = Run M_X9_isPlayer 8 [x0, x1] (.int (x - y) :: st) h := R_isub d_X9_isPlayer_7
theorem d_X9_isPlayer_8 : decode (mB M_X9_isPlayer) 8 = .ok (.invokestatic 85, 3) := by decide +kernel
theorem r_X9_isPlayer_8 {x0 x1 : Value} {p0 : Int32} {p1 : Int32} {p2 : Int32} {h : AH} : Run M_X9_isPlayer 8 [x0, x1] (.int p2 :: .int p1 :: .int p0 :: []) h = if (Call M_X9_in h [.int p0, .int p1, .int p2]).isSome = true then Run M_X9_isPlayer 11 [x0, x1] (rL (Call M_X9_in h [.int p0, .int p1, .int p2]) ++ []) (cH (Call M_X9_in h [.int p0, .int p1, .int p2])) else none := R_stat d_X9_isPlayer_8 rfl rfl rfl rfl (Nat.le_of_ble_eq_true rfl)
theorem d_X9_isPlayer_11 : decode (mB M_X9_isPlayer) 11 = .ok (.ireturn, 1) := by decide +kernel
theorem r_X9_isPlayer_11_0 {x0 x1 : Value} {h : AH} : Run M_X9_isPlayer 11 [x0, x1] [.int (nI 0)] h = some (h, some (.int (nI 0))) := R_ireturn d_X9_isPlayer_11 rfl (by decide)
theorem r_X9_isPlayer_11_1 {x0 x1 : Value} {h : AH} : Run M_X9_isPlayer 11 [x0, x1] [.int (nI 1)] h = some (h, some (.int (nI 1))) := R_ireturn d_X9_isPlayer_11 rfl (by decide)
theorem r_X9_isPlayer_11_c {x0 x1 : Value} {c : Prop} [Decidable c] {h : AH} : Run M_X9_isPlayer 11 [x0, x1] [.int (bI c)] h = some (h, some (.int (bI c))) := R_ireturn d_X9_isPlayer_11 rfl narrow_bI
theorem d_X9_isTenth_0 : decode (mB M_X9_isTenth) 0 = .ok (.iload_n 0, 1) := by decide +kernel
theorem r_X9_isTenth_0 {a : Int32} {st : List Value} {h : AH} : Run M_X9_isTenth 0 [.int a] st h = Run M_X9_isTenth 1 [.int a] (.int a :: st) h := R_iload_n d_X9_isTenth_0 rfl
theorem d_X9_isTenth_1 : decode (mB M_X9_isTenth) 1 = .ok (.iconst 0, 1) := by decide +kernel
theorem r_X9_isTenth_1 {x0 : Value} {st : List Value} {h : AH} : Run M_X9_isTenth 1 [x0] st h = Run M_X9_isTenth 2 [x0] (.int (nI 0) :: st) h := R_iconst d_X9_isTenth_1 (by decide)
theorem d_X9_isTenth_2 : decode (mB M_X9_isTenth) 2 = .ok (.sipush 420, 3) := by decide +kernel
theorem r_X9_isTenth_2 {x0 : Value} {st : List Value} {h : AH} : Run M_X9_isTenth 2 [x0] st h = Run M_X9_isTenth 5 [x0] (.int (nI 420) :: st) h := R_sipush d_X9_isTenth_2 (by decide)
theorem d_X9_isTenth_5 : decode (mB M_X9_isTenth) 5 = .ok (.invokestatic 85, 3) := by decide +kernel
theorem r_X9_isTenth_5 {x0 : Value} {p0 : Int32} {p1 : Int32} {p2 : Int32} {h : AH} : Run M_X9_isTenth 5 [x0] (.int p2 :: .int p1 :: .int p0 :: []) h = if (Call M_X9_in h [.int p0, .int p1, .int p2]).isSome = true then Run M_X9_isTenth 8 [x0] (rL (Call M_X9_in h [.int p0, .int p1, .int p2]) ++ []) (cH (Call M_X9_in h [.int p0, .int p1, .int p2])) else none := R_stat d_X9_isTenth_5 rfl rfl rfl rfl (Nat.le_of_ble_eq_true rfl)
theorem d_X9_isTenth_8 : decode (mB M_X9_isTenth) 8 = .ok (.ireturn, 1) := by decide +kernel
theorem r_X9_isTenth_8_0 {x0 : Value} {h : AH} : Run M_X9_isTenth 8 [x0] [.int (nI 0)] h = some (h, some (.int (nI 0))) := R_ireturn d_X9_isTenth_8 rfl (by decide)
theorem r_X9_isTenth_8_1 {x0 : Value} {h : AH} : Run M_X9_isTenth 8 [x0] [.int (nI 1)] h = some (h, some (.int (nI 1))) := R_ireturn d_X9_isTenth_8 rfl (by decide)
theorem r_X9_isTenth_8_c {x0 : Value} {c : Prop} [Decidable c] {h : AH} : Run M_X9_isTenth 8 [x0] [.int (bI c)] h = some (h, some (.int (bI c))) := R_ireturn d_X9_isTenth_8 rfl narrow_bI
theorem d_X9_share_0 : decode (mB M_X9_share) 0 = .ok (.lload_n 0, 1) := by decide +kernel
theorem r_X9_share_0 {x1 x2 x3 x4 x5 x6 x7 x8 x9 x10 : Value} {a : Int64} {st : List Value} {h : AH} : Run M_X9_share 0 [.long a, x1, x2, x3, x4, x5, x6, x7, x8, x9, x10] st h = Run M_X9_share 1 [.long a, x1, x2, x3, x4, x5, x6, x7, x8, x9, x10] (.long a :: st) h := R_lload_n d_X9_share_0 rfl
theorem d_X9_share_1 : decode (mB M_X9_share) 1 = .ok (.lstore 5, 2) := by decide +kernel
theorem r_X9_share_1 {x0 x1 x2 x3 x4 x5 x6 x7 x8 x9 x10 : Value} {a : Int64} {st : List Value} {h : AH} (hc : x4.category = 1) : Run M_X9_share 1 [x0, x1, x2, x3, x4, x5, x6, x7, x8, x9, x10] (.long a :: st) h = Run M_X9_share 3 [x0, x1, x2, x3, x4, .long a, .null, x7, x8, x9, x10] st h := R_lstore d_X9_share_1 (Nat.lt_of_lt_of_le (by decide : 6 < 11) (Nat.le_refl 11)) (catP_of rfl hc)
theorem d_X9_share_3 : decode (mB M_X9_share) 3 = .ok (.lload_n 2, 1) := by decide +kernel
theorem r_X9_share_3 {x0 x1 x3 x4 x5 x6 x7 x8 x9 x10 : Value} {a : Int64} {st : List Value} {h : AH} : Run M_X9_share 3 [x0, x1, .long a, x3, x4, x5, x6, x7, x8, x9, x10] st h = Run M_X9_share 4 [x0, x1, .long a, x3, x4, x5, x6, x7, x8, x9, x10] (.long a :: st) h := R_lload_n d_X9_share_3 rfl
theorem d_X9_share_4 : decode (mB M_X9_share) 4 = .ok (.lstore 7, 2) := by decide +kernel
theorem r_X9_share_4 {x0 x1 x2 x3 x4 x5 x6 x7 x8 x9 x10 : Value} {a : Int64} {st : List Value} {h : AH} (hc : x6.category = 1) : Run M_X9_share 4 [x0, x1, x2, x3, x4, x5, x6, x7, x8, x9, x10] (.long a :: st) h = Run M_X9_share 6 [x0, x1, x2, x3, x4, x5, x6, .long a, .null, x9, x10] st h := R_lstore d_X9_share_4 (Nat.lt_of_lt_of_le (by decide : 8 < 11) (Nat.le_refl 11)) (catP_of rfl hc)
theorem d_X9_share_6 : decode (mB M_X9_share) 6 = .ok (.lload 7, 2) := by decide +kernel
theorem r_X9_share_6 {x0 x1 x2 x3 x4 x5 x6 x8 x9 x10 : Value} {a : Int64} {st : List Value} {h : AH} : Run M_X9_share 6 [x0, x1, x2, x3, x4, x5, x6, .long a, x8, x9, x10] st h = Run M_X9_share 8 [x0, x1, x2, x3, x4, x5, x6, .long a, x8, x9, x10] (.long a :: st) h := R_lload d_X9_share_6 rfl
theorem d_X9_share_8 : decode (mB M_X9_share) 8 = .ok (.lconst 0, 1) := by decide +kernel
theorem r_X9_share_8 {x0 x1 x2 x3 x4 x5 x6 x7 x8 x9 x10 : Value} {st : List Value} {h : AH} : Run M_X9_share 8 [x0, x1, x2, x3, x4, x5, x6, x7, x8, x9, x10] st h = Run M_X9_share 9 [x0, x1, x2, x3, x4, x5, x6, x7, x8, x9, x10] (.long (lN 0) :: st) h := R_lconst d_X9_share_8 (by decide)
theorem d_X9_share_9 : decode (mB M_X9_share) 9 = .ok (.lcmp, 1) := by decide +kernel
theorem r_X9_share_9 {x0 x1 x2 x3 x4 x5 x6 x7 x8 x9 x10 : Value} {x y : Int64} {st : List Value} {h : AH} : Run M_X9_share 9 [x0, x1, x2, x3, x4, x5, x6, x7, x8, x9, x10] (.long y :: .long x :: st) h = Run M_X9_share 10 [x0, x1, x2, x3, x4, x5, x6, x7, x8, x9, x10] (.int (lg_cmp x y) :: st) h := R_lcmp d_X9_share_9
theorem d_X9_share_10 : decode (mB M_X9_share) 10 = .ok (.ifCond .le 21, 3) := by decide +kernel
theorem r_X9_share_10 {x0 x1 x2 x3 x4 x5 x6 x7 x8 x9 x10 : Value} {x : Int32} {st : List Value} {h : AH} : Run M_X9_share 10 [x0, x1, x2, x3, x4, x5, x6, x7, x8, x9, x10] (.int x :: st) h = if x ≤ nI 0 then Run M_X9_share 31 [x0, x1, x2, x3, x4, x5, x6, x7, x8, x9, x10] st h else Run M_X9_share 13 [x0, x1, x2, x3, x4, x5, x6, x7, x8, x9, x10] st h := R_if_le d_X9_share_10 (by decide)
theorem d_X9_share_13 : decode (mB M_X9_share) 13 = .ok (.lload 5, 2) := by decide +kernel
theorem r_X9_share_13 {x0 x1 x2 x3 x4 x6 x7 x8 x9 x10 : Value} {a : Int64} {st : List Value} {h : AH} : Run M_X9_share 13 [x0, x1, x2, x3, x4, .long a, x6, x7, x8, x9, x10] st h = Run M_X9_share 15 [x0, x1, x2, x3, x4, .long a, x6, x7, x8, x9, x10] (.long a :: st) h := R_lload d_X9_share_13 rfl
theorem d_X9_share_15 : decode (mB M_X9_share) 15 = .ok (.lload 7, 2) := by decide +kernel
theorem r_X9_share_15 {x0 x1 x2 x3 x4 x5 x6 x8 x9 x10 : Value} {a : Int64} {st : List Value} {h : AH} : Run M_X9_share 15 [x0, x1, x2, x3, x4, x5, x6, .long a, x8, x9, x10] st h = Run M_X9_share 17 [x0, x1, x2, x3, x4, x5, x6, .long a, x8, x9, x10] (.long a :: st) h := R_lload d_X9_share_15 rfl
theorem d_X9_share_17 : decode (mB M_X9_share) 17 = .ok (.lrem, 1) := by decide +kernel
theorem r_X9_share_17 {x0 x1 x2 x3 x4 x5 x6 x7 x8 x9 x10 : Value} {x y : Int64} {st : List Value} {h : AH} (hy : ¬ y = 0) : Run M_X9_share 17 [x0, x1, x2, x3, x4, x5, x6, x7, x8, x9, x10] (.long y :: .long x :: st) h = Run M_X9_share 18 [x0, x1, x2, x3, x4, x5, x6, x7, x8, x9, x10] (.long (x - x / y * y) :: st) h := R_lrem d_X9_share_17 hy
theorem d_X9_share_18 : decode (mB M_X9_share) 18 = .ok (.lstore 9, 2) := by decide +kernel
theorem r_X9_share_18 {x0 x1 x2 x3 x4 x5 x6 x7 x8 x9 x10 : Value} {a : Int64} {st : List Value} {h : AH} (hc : x8.category = 1) : Run M_X9_share 18 [x0, x1, x2, x3, x4, x5, x6, x7, x8, x9, x10] (.long a :: st) h = Run M_X9_share 20 [x0, x1, x2, x3, x4, x5, x6, x7, x8, .long a, .null] st h := R_lstore d_X9_share_18 (Nat.lt_of_lt_of_le (by decide : 10 < 11) (Nat.le_refl 11)) (catP_of rfl hc)
theorem d_X9_share_20 : decode (mB M_X9_share) 20 = .ok (.lload 7, 2) := by decide +kernel
theorem r_X9_share_20 {x0 x1 x2 x3 x4 x5 x6 x8 x9 x10 : Value} {a : Int64} {st : List Value} {h : AH} : Run M_X9_share 20 [x0, x1, x2, x3, x4, x5, x6, .long a, x8, x9, x10] st h = Run M_X9_share 22 [x0, x1, x2, x3, x4, x5, x6, .long a, x8, x9, x10] (.long a :: st) h := R_lload d_X9_share_20 rfl
theorem d_X9_share_22 : decode (mB M_X9_share) 22 = .ok (.lstore 5, 2) := by decide +kernel
theorem r_X9_share_22 {x0 x1 x2 x3 x4 x5 x6 x7 x8 x9 x10 : Value} {a : Int64} {st : List Value} {h : AH} (hc : x4.category = 1) : Run M_X9_share 22 [x0, x1, x2, x3, x4, x5, x6, x7, x8, x9, x10] (.long a :: st) h = Run M_X9_share 24 [x0, x1, x2, x3, x4, .long a, .null, x7, x8, x9, x10] st h := R_lstore d_X9_share_22 (Nat.lt_of_lt_of_le (by decide : 6 < 11) (Nat.le_refl 11)) (catP_of rfl hc)
theorem d_X9_share_24 : decode (mB M_X9_share) 24 = .ok (.lload 9, 2) := by decide +kernel
theorem r_X9_share_24 {x0 x1 x2 x3 x4 x5 x6 x7 x8 x10 : Value} {a : Int64} {st : List Value} {h : AH} : Run M_X9_share 24 [x0, x1, x2, x3, x4, x5, x6, x7, x8, .long a, x10] st h = Run M_X9_share 26 [x0, x1, x2, x3, x4, x5, x6, x7, x8, .long a, x10] (.long a :: st) h := R_lload d_X9_share_24 rfl
theorem d_X9_share_26 : decode (mB M_X9_share) 26 = .ok (.lstore 7, 2) := by decide +kernel
theorem r_X9_share_26 {x0 x1 x2 x3 x4 x5 x6 x7 x8 x9 x10 : Value} {a : Int64} {st : List Value} {h : AH} (hc : x6.category = 1) : Run M_X9_share 26 [x0, x1, x2, x3, x4, x5, x6, x7, x8, x9, x10] (.long a :: st) h = Run M_X9_share 28 [x0, x1, x2, x3, x4, x5, x6, .long a, .null, x9, x10] st h := R_lstore d_X9_share_26 (Nat.lt_of_lt_of_le (by decide : 8 < 11) (Nat.le_refl 11)) (catP_of rfl hc)
theorem d_X9_share_28 : decode (mB M_X9_share) 28 = .ok (.goto (-22), 3) := by decide +kernel
theorem r_X9_share_28 {x0 x1 x2 x3 x4 x5 x6 x7 x8 x9 x10 : Value} {st : List Value} {h : AH} : Run M_X9_share 28 [x0, x1, x2, x3, x4, x5, x6, x7, x8, x9, x10] st h = Run M_X9_share 6 [x0, x1, x2, x3, x4, x5, x6, x7, x8, x9, x10] st h := R_goto d_X9_share_28 (by decide)
theorem d_X9_share_31 : decode (mB M_X9_share) 31 = .ok (.iload 4, 2) := by decide +kernel
theorem r_X9_share_31 {x0 x1 x2 x3 x5 x6 x7 x8 x9 x10 : Value} {a : Int32} {st : List Value} {h : AH} : Run M_X9_share 31 [x0, x1, x2, x3, .int a, x5, x6, x7, x8, x9, x10] st h = Run M_X9_share 33 [x0, x1, x2, x3, .int a, x5, x6, x7, x8, x9, x10] (.int a :: st) h := R_iload d_X9_share_31 rfl
theorem d_X9_share_33 : decode (mB M_X9_share) 33 = .ok (.ifCond .ne 7, 3) := by decide +kernel
theorem r_X9_share_33 {x0 x1 x2 x3 x4 x5 x6 x7 x8 x9 x10 : Value} {x : Int32} {st : List Value} {h : AH} : Run M_X9_share 33 [x0, x1, x2, x3, x4, x5, x6, x7, x8, x9, x10] (.int x :: st) h = if x = nI 0 then Run M_X9_share 36 [x0, x1, x2, x3, x4, x5, x6, x7, x8, x9, x10] st h else Run M_X9_share 40 [x0, x1, x2, x3, x4, x5, x6, x7, x8, x9, x10] st h := R_if_ne d_X9_share_33 (by decide)
theorem d_X9_share_36 : decode (mB M_X9_share) 36 = .ok (.lload_n 0, 1) := by decide +kernel
theorem r_X9_share_36 {x1 x2 x3 x4 x5 x6 x7 x8 x9 x10 : Value} {a : Int64} {st : List Value} {h : AH} : Run M_X9_share 36 [.long a, x1, x2, x3, x4, x5, x6, x7, x8, x9, x10] st h = Run M_X9_share 37 [.long a, x1, x2, x3, x4, x5, x6, x7, x8, x9, x10] (.long a :: st) h := R_lload_n d_X9_share_36 rfl
theorem d_X9_share_37 : decode (mB M_X9_share) 37 = .ok (.goto 4, 3) := by decide +kernel
theorem r_X9_share_37 {x0 x1 x2 x3 x4 x5 x6 x7 x8 x9 x10 : Value} {st : List Value} {h : AH} : Run M_X9_share 37 [x0, x1, x2, x3, x4, x5, x6, x7, x8, x9, x10] st h = Run M_X9_share 41 [x0, x1, x2, x3, x4, x5, x6, x7, x8, x9, x10] st h := R_goto d_X9_share_37 (by decide)
theorem d_X9_share_40 : decode (mB M_X9_share) 40 = .ok (.lload_n 2, 1) := by decide +kernel
theorem r_X9_share_40 {x0 x1 x3 x4 x5 x6 x7 x8 x9 x10 : Value} {a : Int64} {st : List Value} {h : AH} : Run M_X9_share 40 [x0, x1, .long a, x3, x4, x5, x6, x7, x8, x9, x10] st h = Run M_X9_share 41 [x0, x1, .long a, x3, x4, x5, x6, x7, x8, x9, x10] (.long a :: st) h := R_lload_n d_X9_share_40 rfl
theorem d_X9_share_41 : decode (mB M_X9_share) 41 = .ok (.lload 5, 2) := by decide +kernel
theorem r_X9_share_41 {x0 x1 x2 x3 x4 x6 x7 x8 x9 x10 : Value} {a : Int64} {st : List Value} {h : AH} : Run M_X9_share 41 [x0, x1, x2, x3, x4, .long a, x6, x7, x8, x9, x10] st h = Run M_X9_share 43 [x0, x1, x2, x3, x4, .long a, x6, x7, x8, x9, x10] (.long a :: st) h := R_lload d_X9_share_41 rfl
theorem d_X9_share_43 : decode (mB M_X9_share) 43 = .ok (.ldiv, 1) := by decide +kernel
theorem r_X9_share_43 {x0 x1 x2 x3 x4 x5 x6 x7 x8 x9 x10 : Value} {x y : Int64} {st : List Value} {h : AH} (hy : ¬ y = 0) : Run M_X9_share 43 [x0, x1, x2, x3, x4, x5, x6, x7, x8, x9, x10] (.long y :: .long x :: st) h = Run M_X9_share 44 [x0, x1, x2, x3, x4, x5, x6, x7, x8, x9, x10] (.long (x / y) :: st) h := R_ldiv d_X9_share_43 hy
theorem d_X9_share_44 : decode (mB M_X9_share) 44 = .ok (.lreturn, 1) := by decide +kernel
theorem r_X9_share_44 {x0 x1 x2 x3 x4 x5 x6 x7 x8 x9 x10 : Value} {v : Int64} {h : AH} : Run M_X9_share 44 [x0, x1, x2, x3, x4, x5, x6, x7, x8, x9, x10] [.long v] h = some (h, some (.long v)) := R_lreturn d_X9_share_44 rfl
theorem d_X9_feed_0 : decode (mB M_X9_feed) 0 = .ok (.iload_n 1, 1) := by decide +kernel
theorem r_X9_feed_0 {x0 : Value} {a : Int32} {st : List Value} {h : AH} : Run M_X9_feed 0 [x0, .int a] st h = Run M_X9_feed 1 [x0, .int a] (.int a :: st) h := R_iload_n d_X9_feed_0 rfl
theorem d_X9_feed_1 : decode (mB M_X9_feed) 1 = .ok (.iconst 0, 1) := by decide +kernel
theorem r_X9_feed_1 {x0 x1 : Value} {st : List Value} {h : AH} : Run M_X9_feed 1 [x0, x1] st h = Run M_X9_feed 2 [x0, x1] (.int (nI 0) :: st) h := R_iconst d_X9_feed_1 (by decide)
theorem d_X9_feed_2 : decode (mB M_X9_feed) 2 = .ok (.sipush 255, 3) := by decide +kernel
theorem r_X9_feed_2 {x0 x1 : Value} {st : List Value} {h : AH} : Run M_X9_feed 2 [x0, x1] st h = Run M_X9_feed 5 [x0, x1] (.int (nI 255) :: st) h := R_sipush d_X9_feed_2 (by decide)
theorem d_X9_feed_5 : decode (mB M_X9_feed) 5 = .ok (.invokestatic 85, 3) := by decide +kernel
theorem r_X9_feed_5 {x0 x1 : Value} {p0 : Int32} {p1 : Int32} {p2 : Int32} {h : AH} : Run M_X9_feed 5 [x0, x1] (.int p2 :: .int p1 :: .int p0 :: []) h = if (Call M_X9_in h [.int p0, .int p1, .int p2]).isSome = true then Run M_X9_feed 8 [x0, x1] (rL (Call M_X9_in h [.int p0, .int p1, .int p2]) ++ []) (cH (Call M_X9_in h [.int p0, .int p1, .int p2])) else none := R_stat d_X9_feed_5 rfl rfl rfl rfl (Nat.le_of_ble_eq_true rfl)
theorem d_X9_feed_8 : decode (mB M_X9_feed) 8 = .ok (.ifCond .ne 6, 3) := by decide +kernel
theorem r_X9_feed_8 {x0 x1 : Value} {x : Int32} {st : List Value} {h : AH} : Run M_X9_feed 8 [x0, x1] (.int x :: st) h = if x = nI 0 then Run M_X9_feed 11 [x0, x1] st h else Run M_X9_feed 14 [x0, x1] st h := R_if_ne d_X9_feed_8 (by decide)
theorem d_X9_feed_11 : decode (mB M_X9_feed) 11 = .ok (.ldc 92, 2) := by decide +kernel
theorem r_X9_feed_11 {x0 x1 : Value} {st : List Value} {h : AH} : Run M_X9_feed 11 [x0, x1] st h = Run M_X9_feed 13 [x0, x1] (.int (-1000000002) :: st) h := R_ldc d_X9_feed_11 (by decide)
theorem d_X9_feed_13 : decode (mB M_X9_feed) 13 = .ok (.ireturn, 1) := by decide +kernel
theorem r_X9_feed_13 {x0 x1 : Value} {v : Int32} {h : AH} : Run M_X9_feed 13 [x0, x1] [.int v] h = some (h, some (.int v)) := R_ireturn d_X9_feed_13 rfl rfl
theorem d_X9_feed_14 : decode (mB M_X9_feed) 14 = .ok (.aload_n 0, 1) := by decide +kernel
theorem r_X9_feed_14 {x1 : Value} {a : Nat} {st : List Value} {h : AH} : Run M_X9_feed 14 [.ref a, x1] st h = Run M_X9_feed 15 [.ref a, x1] (.ref a :: st) h := R_aload_n d_X9_feed_14 rfl
theorem d_X9_feed_15 : decode (mB M_X9_feed) 15 = .ok (.getfield 93, 3) := by decide +kernel
theorem r_X9_feed_15 {x0 x1 : Value} {a : Nat} {st : List Value} {h : AH} : Run M_X9_feed 15 [x0, x1] (.ref a :: st) h = if (gF h a 9 13).isSome = true then Run M_X9_feed 18 [x0, x1] ((gF h a 9 13).getD .null :: st) h else none := R_getfield d_X9_feed_15 rfl
theorem d_X9_feed_18 : decode (mB M_X9_feed) 18 = .ok (.sipush 250, 3) := by decide +kernel
theorem r_X9_feed_18 {x0 x1 : Value} {st : List Value} {h : AH} : Run M_X9_feed 18 [x0, x1] st h = Run M_X9_feed 21 [x0, x1] (.int (nI 250) :: st) h := R_sipush d_X9_feed_18 (by decide)
theorem d_X9_feed_21 : decode (mB M_X9_feed) 21 = .ok (.if_icmp .ne 6, 3) := by decide +kernel
theorem r_X9_feed_21 {x0 x1 : Value} {x y : Int32} {st : List Value} {h : AH} : Run M_X9_feed 21 [x0, x1] (.int y :: .int x :: st) h = if x = y then Run M_X9_feed 24 [x0, x1] st h else Run M_X9_feed 27 [x0, x1] st h := R_icmp_ne d_X9_feed_21 (by decide)
theorem d_X9_feed_24 : decode (mB M_X9_feed) 24 = .ok (.ldc 96, 2) := by decide +kernel
theorem r_X9_feed_24 {x0 x1 : Value} {st : List Value} {h : AH} : Run M_X9_feed 24 [x0, x1] st h = Run M_X9_feed 26 [x0, x1] (.int (-1000000004) :: st) h := R_ldc d_X9_feed_24 (by decide)
theorem d_X9_feed_26 : decode (mB M_X9_feed) 26 = .ok (.ireturn, 1) := by decide +kernel
theorem r_X9_feed_26 {x0 x1 : Value} {v : Int32} {h : AH} : Run M_X9_feed 26 [x0, x1] [.int v] h = some (h, some (.int v)) := R_ireturn d_X9_feed_26 rfl rfl
theorem d_X9_feed_27 : decode (mB M_X9_feed) 27 = .ok (.aload_n 0, 1) := by decide +kernel
theorem r_X9_feed_27 {x1 : Value} {a : Nat} {st : List Value} {h : AH} : Run M_X9_feed 27 [.ref a, x1] st h = Run M_X9_feed 28 [.ref a, x1] (.ref a :: st) h := R_aload_n d_X9_feed_27 rfl
theorem d_X9_feed_28 : decode (mB M_X9_feed) 28 = .ok (.getfield 38, 3) := by decide +kernel
theorem r_X9_feed_28 {x0 x1 : Value} {a : Nat} {st : List Value} {h : AH} : Run M_X9_feed 28 [x0, x1] (.ref a :: st) h = if (gF h a 9 12).isSome = true then Run M_X9_feed 31 [x0, x1] ((gF h a 9 12).getD .null :: st) h else none := R_getfield d_X9_feed_28 rfl
theorem d_X9_feed_31 : decode (mB M_X9_feed) 31 = .ok (.aload_n 0, 1) := by decide +kernel
theorem r_X9_feed_31 {x1 : Value} {a : Nat} {st : List Value} {h : AH} : Run M_X9_feed 31 [.ref a, x1] st h = Run M_X9_feed 32 [.ref a, x1] (.ref a :: st) h := R_aload_n d_X9_feed_31 rfl
theorem d_X9_feed_32 : decode (mB M_X9_feed) 32 = .ok (.getfield 93, 3) := by decide +kernel
theorem r_X9_feed_32 {x0 x1 : Value} {a : Nat} {st : List Value} {h : AH} : Run M_X9_feed 32 [x0, x1] (.ref a :: st) h = if (gF h a 9 13).isSome = true then Run M_X9_feed 35 [x0, x1] ((gF h a 9 13).getD .null :: st) h else none := R_getfield d_X9_feed_32 rfl
theorem d_X9_feed_35 : decode (mB M_X9_feed) 35 = .ok (.iload_n 1, 1) := by decide +kernel
theorem r_X9_feed_35 {x0 : Value} {a : Int32} {st : List Value} {h : AH} : Run M_X9_feed 35 [x0, .int a] st h = Run M_X9_feed 36 [x0, .int a] (.int a :: st) h := R_iload_n d_X9_feed_35 rfl
theorem d_X9_feed_36 : decode (mB M_X9_feed) 36 = .ok (.iastore, 1) := by decide +kernel
theorem r_X9_feed_36 {x0 x1 : Value} {a : Nat} {i x : Int32} {st : List Value} {h : AH} : Run M_X9_feed 36 [x0, x1] (.int x :: .int i :: .ref a :: st) h = if (pI 0 h a i x).isSome = true then Run M_X9_feed 37 [x0, x1] st ((pI 0 h a i x).getD h) else none := R_iastore d_X9_feed_36
theorem d_X9_feed_37 : decode (mB M_X9_feed) 37 = .ok (.aload_n 0, 1) := by decide +kernel
theorem r_X9_feed_37 {x1 : Value} {a : Nat} {st : List Value} {h : AH} : Run M_X9_feed 37 [.ref a, x1] st h = Run M_X9_feed 38 [.ref a, x1] (.ref a :: st) h := R_aload_n d_X9_feed_37 rfl
theorem d_X9_feed_38 : decode (mB M_X9_feed) 38 = .ok (.dup, 1) := by decide +kernel
theorem r_X9_feed_38 {x0 x1 : Value} {x : Nat} {st : List Value} {h : AH} : Run M_X9_feed 38 [x0, x1] (.ref x :: st) h = Run M_X9_feed 39 [x0, x1] (.ref x :: .ref x :: st) h := R_dupr d_X9_feed_38
theorem d_X9_feed_39 : decode (mB M_X9_feed) 39 = .ok (.getfield 93, 3) := by decide +kernel
theorem r_X9_feed_39 {x0 x1 : Value} {a : Nat} {st : List Value} {h : AH} : Run M_X9_feed 39 [x0, x1] (.ref a :: st) h = if (gF h a 9 13).isSome = true then Run M_X9_feed 42 [x0, x1] ((gF h a 9 13).getD .null :: st) h else none := R_getfield d_X9_feed_39 rfl
theorem d_X9_feed_42 : decode (mB M_X9_feed) 42 = .ok (.iconst 1, 1) := by decide +kernel
theorem r_X9_feed_42 {x0 x1 : Value} {st : List Value} {h : AH} : Run M_X9_feed 42 [x0, x1] st h = Run M_X9_feed 43 [x0, x1] (.int (nI 1) :: st) h := R_iconst d_X9_feed_42 (by decide)
theorem d_X9_feed_43 : decode (mB M_X9_feed) 43 = .ok (.iadd, 1) := by decide +kernel
theorem r_X9_feed_43 {x0 x1 : Value} {x y : Int32} {st : List Value} {h : AH} : Run M_X9_feed 43 [x0, x1] (.int y :: .int x :: st) h = Run M_X9_feed 44 [x0, x1] (.int (x + y) :: st) h := R_iadd d_X9_feed_43
theorem d_X9_feed_44 : decode (mB M_X9_feed) 44 = .ok (.putfield 93, 3) := by decide +kernel
theorem r_X9_feed_44 {x0 x1 : Value} {v : Int32} {a : Nat} {st : List Value} {h : AH} : Run M_X9_feed 44 [x0, x1] (.int v :: .ref a :: st) h = if (pF h a 9 13 (.int v)).isSome = true then Run M_X9_feed 47 [x0, x1] st ((pF h a 9 13 (.int v)).getD h) else none := R_putfield d_X9_feed_44 rfl (okP_int rfl rfl)
theorem d_X9_feed_47 : decode (mB M_X9_feed) 47 = .ok (.aload_n 0, 1) := by decide +kernel
theorem r_X9_feed_47 {x1 : Value} {a : Nat} {st : List Value} {h : AH} : Run M_X9_feed 47 [.ref a, x1] st h = Run M_X9_feed 48 [.ref a, x1] (.ref a :: st) h := R_aload_n d_X9_feed_47 rfl
theorem d_X9_feed_48 : decode (mB M_X9_feed) 48 = .ok (.getfield 93, 3) := by decide +kernel
theorem r_X9_feed_48 {x0 x1 : Value} {a : Nat} {st : List Value} {h : AH} : Run M_X9_feed 48 [x0, x1] (.ref a :: st) h = if (gF h a 9 13).isSome = true then Run M_X9_feed 51 [x0, x1] ((gF h a 9 13).getD .null :: st) h else none := R_getfield d_X9_feed_48 rfl
theorem d_X9_feed_51 : decode (mB M_X9_feed) 51 = .ok (.ireturn, 1) := by decide +kernel
theorem r_X9_feed_51 {x0 x1 : Value} {v : Int32} {h : AH} : Run M_X9_feed 51 [x0, x1] [.int v] h = some (h, some (.int v)) := R_ireturn d_X9_feed_51 rfl rfl
theorem d_X9_letterAt_0 : decode (mB M_X9_letterAt) 0 = .ok (.iload_n 1, 1) := by decide +kernel
theorem r_X9_letterAt_0 {x0 : Value} {a : Int32} {st : List Value} {h : AH} : Run M_X9_letterAt 0 [x0, .int a] st h = Run M_X9_letterAt 1 [x0, .int a] (.int a :: st) h := R_iload_n d_X9_letterAt_0 rfl
theorem d_X9_letterAt_1 : decode (mB M_X9_letterAt) 1 = .ok (.aload_n 0, 1) := by decide +kernel
theorem r_X9_letterAt_1 {x1 : Value} {a : Nat} {st : List Value} {h : AH} : Run M_X9_letterAt 1 [.ref a, x1] st h = Run M_X9_letterAt 2 [.ref a, x1] (.ref a :: st) h := R_aload_n d_X9_letterAt_1 rfl
theorem d_X9_letterAt_2 : decode (mB M_X9_letterAt) 2 = .ok (.getfield 93, 3) := by decide +kernel
theorem r_X9_letterAt_2 {x0 x1 : Value} {a : Nat} {st : List Value} {h : AH} : Run M_X9_letterAt 2 [x0, x1] (.ref a :: st) h = if (gF h a 9 13).isSome = true then Run M_X9_letterAt 5 [x0, x1] ((gF h a 9 13).getD .null :: st) h else none := R_getfield d_X9_letterAt_2 rfl
theorem d_X9_letterAt_5 : decode (mB M_X9_letterAt) 5 = .ok (.if_icmp .ge 12, 3) := by decide +kernel
theorem r_X9_letterAt_5 {x0 x1 : Value} {x y : Int32} {st : List Value} {h : AH} : Run M_X9_letterAt 5 [x0, x1] (.int y :: .int x :: st) h = if y ≤ x then Run M_X9_letterAt 17 [x0, x1] st h else Run M_X9_letterAt 8 [x0, x1] st h := R_icmp_ge d_X9_letterAt_5 (by decide)
theorem d_X9_letterAt_8 : decode (mB M_X9_letterAt) 8 = .ok (.aload_n 0, 1) := by decide +kernel
theorem r_X9_letterAt_8 {x1 : Value} {a : Nat} {st : List Value} {h : AH} : Run M_X9_letterAt 8 [.ref a, x1] st h = Run M_X9_letterAt 9 [.ref a, x1] (.ref a :: st) h := R_aload_n d_X9_letterAt_8 rfl
theorem d_X9_letterAt_9 : decode (mB M_X9_letterAt) 9 = .ok (.getfield 38, 3) := by decide +kernel
theorem r_X9_letterAt_9 {x0 x1 : Value} {a : Nat} {st : List Value} {h : AH} : Run M_X9_letterAt 9 [x0, x1] (.ref a :: st) h = if (gF h a 9 12).isSome = true then Run M_X9_letterAt 12 [x0, x1] ((gF h a 9 12).getD .null :: st) h else none := R_getfield d_X9_letterAt_9 rfl
theorem d_X9_letterAt_12 : decode (mB M_X9_letterAt) 12 = .ok (.iload_n 1, 1) := by decide +kernel
theorem r_X9_letterAt_12 {x0 : Value} {a : Int32} {st : List Value} {h : AH} : Run M_X9_letterAt 12 [x0, .int a] st h = Run M_X9_letterAt 13 [x0, .int a] (.int a :: st) h := R_iload_n d_X9_letterAt_12 rfl
theorem d_X9_letterAt_13 : decode (mB M_X9_letterAt) 13 = .ok (.iaload, 1) := by decide +kernel
theorem r_X9_letterAt_13 {x0 x1 : Value} {a : Nat} {i : Int32} {st : List Value} {h : AH} : Run M_X9_letterAt 13 [x0, x1] (.int i :: .ref a :: st) h = if (gI 0 h a i).isSome = true then Run M_X9_letterAt 14 [x0, x1] (.int ((gI 0 h a i).getD 0) :: st) h else none := R_iaload d_X9_letterAt_13
theorem d_X9_letterAt_14 : decode (mB M_X9_letterAt) 14 = .ok (.goto 4, 3) := by decide +kernel
theorem r_X9_letterAt_14 {x0 x1 : Value} {st : List Value} {h : AH} : Run M_X9_letterAt 14 [x0, x1] st h = Run M_X9_letterAt 18 [x0, x1] st h := R_goto d_X9_letterAt_14 (by decide)
theorem d_X9_letterAt_17 : decode (mB M_X9_letterAt) 17 = .ok (.iconst (-1), 1) := by decide +kernel
theorem r_X9_letterAt_17 {x0 x1 : Value} {st : List Value} {h : AH} : Run M_X9_letterAt 17 [x0, x1] st h = Run M_X9_letterAt 18 [x0, x1] (.int (-1) :: st) h := R_iconst d_X9_letterAt_17 (by decide)
theorem d_X9_letterAt_18 : decode (mB M_X9_letterAt) 18 = .ok (.ireturn, 1) := by decide +kernel
theorem r_X9_letterAt_18 {x0 x1 : Value} {v : Int32} {h : AH} : Run M_X9_letterAt 18 [x0, x1] [.int v] h = some (h, some (.int v)) := R_ireturn d_X9_letterAt_18 rfl rfl
theorem d_X9_next_0 : decode (mB M_X9_next) 0 = .ok (.aload_n 0, 1) := by decide +kernel
theorem r_X9_next_0 {x1 x2 : Value} {a : Nat} {st : List Value} {h : AH} : Run M_X9_next 0 [.ref a, x1, x2] st h = Run M_X9_next 1 [.ref a, x1, x2] (.ref a :: st) h := R_aload_n d_X9_next_0 rfl
theorem d_X9_next_1 : decode (mB M_X9_next) 1 = .ok (.aload_n 0, 1) := by decide +kernel
theorem r_X9_next_1 {x1 x2 : Value} {a : Nat} {st : List Value} {h : AH} : Run M_X9_next 1 [.ref a, x1, x2] st h = Run M_X9_next 2 [.ref a, x1, x2] (.ref a :: st) h := R_aload_n d_X9_next_1 rfl
theorem d_X9_next_2 : decode (mB M_X9_next) 2 = .ok (.getfield 97, 3) := by decide +kernel
theorem r_X9_next_2 {x0 x1 x2 : Value} {a : Nat} {st : List Value} {h : AH} : Run M_X9_next 2 [x0, x1, x2] (.ref a :: st) h = if (gF h a 9 14).isSome = true then Run M_X9_next 5 [x0, x1, x2] ((gF h a 9 14).getD .null :: st) h else none := R_getfield d_X9_next_2 rfl
theorem d_X9_next_5 : decode (mB M_X9_next) 5 = .ok (.invokevirtual 100, 3) := by decide +kernel
theorem r_X9_next_5 {x0 x1 x2 : Value} {p0 : Int32} {a : Nat} {h : AH} : Run M_X9_next 5 [x0, x1, x2] (.int p0 :: .ref a :: []) h = if refO h 9 (some (.ref a)) = true then (if (Call M_X9_letterAt h [.ref a, .int p0]).isSome = true then Run M_X9_next 8 [x0, x1, x2] (rL (Call M_X9_letterAt h [.ref a, .int p0]) ++ []) (cH (Call M_X9_letterAt h [.ref a, .int p0])) else none) else none := R_virt d_X9_next_5 rfl rfl rfl rfl rfl (Nat.le_of_ble_eq_true rfl)
theorem d_X9_next_8 : decode (mB M_X9_next) 8 = .ok (.bipush 32, 2) := by decide +kernel
theorem r_X9_next_8 {x0 x1 x2 : Value} {st : List Value} {h : AH} : Run M_X9_next 8 [x0, x1, x2] st h = Run M_X9_next 10 [x0, x1, x2] (.int (nI 32) :: st) h := R_bipush d_X9_next_8 (by decide)
theorem d_X9_next_10 : decode (mB M_X9_next) 10 = .ok (.if_icmp .ne 16, 3) := by decide +kernel
theorem r_X9_next_10 {x0 x1 x2 : Value} {x y : Int32} {st : List Value} {h : AH} : Run M_X9_next 10 [x0, x1, x2] (.int y :: .int x :: st) h = if x = y then Run M_X9_next 13 [x0, x1, x2] st h else Run M_X9_next 26 [x0, x1, x2] st h := R_icmp_ne d_X9_next_10 (by decide)
theorem d_X9_next_13 : decode (mB M_X9_next) 13 = .ok (.aload_n 0, 1) := by decide +kernel
theorem r_X9_next_13 {x1 x2 : Value} {a : Nat} {st : List Value} {h : AH} : Run M_X9_next 13 [.ref a, x1, x2] st h = Run M_X9_next 14 [.ref a, x1, x2] (.ref a :: st) h := R_aload_n d_X9_next_13 rfl
theorem d_X9_next_14 : decode (mB M_X9_next) 14 = .ok (.dup, 1) := by decide +kernel
theorem r_X9_next_14 {x0 x1 x2 : Value} {x : Nat} {st : List Value} {h : AH} : Run M_X9_next 14 [x0, x1, x2] (.ref x :: st) h = Run M_X9_next 15 [x0, x1, x2] (.ref x :: .ref x :: st) h := R_dupr d_X9_next_14
theorem d_X9_next_15 : decode (mB M_X9_next) 15 = .ok (.getfield 97, 3) := by decide +kernel
theorem r_X9_next_15 {x0 x1 x2 : Value} {a : Nat} {st : List Value} {h : AH} : Run M_X9_next 15 [x0, x1, x2] (.ref a :: st) h = if (gF h a 9 14).isSome = true then Run M_X9_next 18 [x0, x1, x2] ((gF h a 9 14).getD .null :: st) h else none := R_getfield d_X9_next_15 rfl
theorem d_X9_next_18 : decode (mB M_X9_next) 18 = .ok (.iconst 1, 1) := by decide +kernel
theorem r_X9_next_18 {x0 x1 x2 : Value} {st : List Value} {h : AH} : Run M_X9_next 18 [x0, x1, x2] st h = Run M_X9_next 19 [x0, x1, x2] (.int (nI 1) :: st) h := R_iconst d_X9_next_18 (by decide)
theorem d_X9_next_19 : decode (mB M_X9_next) 19 = .ok (.iadd, 1) := by decide +kernel
theorem r_X9_next_19 {x0 x1 x2 : Value} {x y : Int32} {st : List Value} {h : AH} : Run M_X9_next 19 [x0, x1, x2] (.int y :: .int x :: st) h = Run M_X9_next 20 [x0, x1, x2] (.int (x + y) :: st) h := R_iadd d_X9_next_19
theorem d_X9_next_20 : decode (mB M_X9_next) 20 = .ok (.putfield 97, 3) := by decide +kernel
theorem r_X9_next_20 {x0 x1 x2 : Value} {v : Int32} {a : Nat} {st : List Value} {h : AH} : Run M_X9_next 20 [x0, x1, x2] (.int v :: .ref a :: st) h = if (pF h a 9 14 (.int v)).isSome = true then Run M_X9_next 23 [x0, x1, x2] st ((pF h a 9 14 (.int v)).getD h) else none := R_putfield d_X9_next_20 rfl (okP_int rfl rfl)
theorem d_X9_next_23 : decode (mB M_X9_next) 23 = .ok (.goto (-23), 3) := by decide +kernel
theorem r_X9_next_23 {x0 x1 x2 : Value} {st : List Value} {h : AH} : Run M_X9_next 23 [x0, x1, x2] st h = Run M_X9_next 0 [x0, x1, x2] st h := R_goto d_X9_next_23 (by decide)
theorem d_X9_next_26 : decode (mB M_X9_next) 26 = .ok (.aload_n 0, 1) := by decide +kernel
theorem r_X9_next_26 {x1 x2 : Value} {a : Nat} {st : List Value} {h : AH} : Run M_X9_next 26 [.ref a, x1, x2] st h = Run M_X9_next 27 [.ref a, x1, x2] (.ref a :: st) h := R_aload_n d_X9_next_26 rfl
theorem d_X9_next_27 : decode (mB M_X9_next) 27 = .ok (.aload_n 0, 1) := by decide +kernel
theorem r_X9_next_27 {x1 x2 : Value} {a : Nat} {st : List Value} {h : AH} : Run M_X9_next 27 [.ref a, x1, x2] st h = Run M_X9_next 28 [.ref a, x1, x2] (.ref a :: st) h := R_aload_n d_X9_next_27 rfl
theorem d_X9_next_28 : decode (mB M_X9_next) 28 = .ok (.getfield 97, 3) := by decide +kernel
theorem r_X9_next_28 {x0 x1 x2 : Value} {a : Nat} {st : List Value} {h : AH} : Run M_X9_next 28 [x0, x1, x2] (.ref a :: st) h = if (gF h a 9 14).isSome = true then Run M_X9_next 31 [x0, x1, x2] ((gF h a 9 14).getD .null :: st) h else none := R_getfield d_X9_next_28 rfl
theorem d_X9_next_31 : decode (mB M_X9_next) 31 = .ok (.putfield 104, 3) := by decide +kernel
theorem r_X9_next_31 {x0 x1 x2 : Value} {v : Int32} {a : Nat} {st : List Value} {h : AH} : Run M_X9_next 31 [x0, x1, x2] (.int v :: .ref a :: st) h = if (pF h a 9 15 (.int v)).isSome = true then Run M_X9_next 34 [x0, x1, x2] st ((pF h a 9 15 (.int v)).getD h) else none := R_putfield d_X9_next_31 rfl (okP_int rfl rfl)
theorem d_X9_next_34 : decode (mB M_X9_next) 34 = .ok (.aload_n 0, 1) := by decide +kernel
theorem r_X9_next_34 {x1 x2 : Value} {a : Nat} {st : List Value} {h : AH} : Run M_X9_next 34 [.ref a, x1, x2] st h = Run M_X9_next 35 [.ref a, x1, x2] (.ref a :: st) h := R_aload_n d_X9_next_34 rfl
theorem d_X9_next_35 : decode (mB M_X9_next) 35 = .ok (.aload_n 0, 1) := by decide +kernel
theorem r_X9_next_35 {x1 x2 : Value} {a : Nat} {st : List Value} {h : AH} : Run M_X9_next 35 [.ref a, x1, x2] st h = Run M_X9_next 36 [.ref a, x1, x2] (.ref a :: st) h := R_aload_n d_X9_next_35 rfl
theorem d_X9_next_36 : decode (mB M_X9_next) 36 = .ok (.getfield 97, 3) := by decide +kernel
theorem r_X9_next_36 {x0 x1 x2 : Value} {a : Nat} {st : List Value} {h : AH} : Run M_X9_next 36 [x0, x1, x2] (.ref a :: st) h = if (gF h a 9 14).isSome = true then Run M_X9_next 39 [x0, x1, x2] ((gF h a 9 14).getD .null :: st) h else none := R_getfield d_X9_next_36 rfl
theorem d_X9_next_39 : decode (mB M_X9_next) 39 = .ok (.invokevirtual 100, 3) := by decide +kernel
theorem r_X9_next_39 {x0 x1 x2 : Value} {p0 : Int32} {a : Nat} {h : AH} : Run M_X9_next 39 [x0, x1, x2] (.int p0 :: .ref a :: []) h = if refO h 9 (some (.ref a)) = true then (if (Call M_X9_letterAt h [.ref a, .int p0]).isSome = true then Run M_X9_next 42 [x0, x1, x2] (rL (Call M_X9_letterAt h [.ref a, .int p0]) ++ []) (cH (Call M_X9_letterAt h [.ref a, .int p0])) else none) else none := R_virt d_X9_next_39 rfl rfl rfl rfl rfl (Nat.le_of_ble_eq_true rfl)
theorem d_X9_next_42 : decode (mB M_X9_next) 42 = .ok (.istore_n 1, 1) := by decide +kernel
theorem r_X9_next_42 {x0 x1 x2 : Value} {a : Int32} {st : List Value} {h : AH} (hc : x0.category = 1) : Run M_X9_next 42 [x0, x1, x2] (.int a :: st) h = Run M_X9_next 43 [x0, .int a, x2] st h := R_istore_n d_X9_next_42 (Nat.lt_of_lt_of_le (by decide : 1 < 3) (Nat.le_refl 3)) (catP_of rfl hc)
theorem d_X9_next_43 : decode (mB M_X9_next) 43 = .ok (.iload_n 1, 1) := by decide +kernel
theorem r_X9_next_43 {x0 x2 : Value} {a : Int32} {st : List Value} {h : AH} : Run M_X9_next 43 [x0, .int a, x2] st h = Run M_X9_next 44 [x0, .int a, x2] (.int a :: st) h := R_iload_n d_X9_next_43 rfl
theorem d_X9_next_44 : decode (mB M_X9_next) 44 = .ok (.ifCond .ge 11, 3) := by decide +kernel
theorem r_X9_next_44 {x0 x1 x2 : Value} {x : Int32} {st : List Value} {h : AH} : Run M_X9_next 44 [x0, x1, x2] (.int x :: st) h = if nI 0 ≤ x then Run M_X9_next 55 [x0, x1, x2] st h else Run M_X9_next 47 [x0, x1, x2] st h := R_if_ge d_X9_next_44 (by decide)
theorem d_X9_next_47 : decode (mB M_X9_next) 47 = .ok (.aload_n 0, 1) := by decide +kernel
theorem r_X9_next_47 {x1 x2 : Value} {a : Nat} {st : List Value} {h : AH} : Run M_X9_next 47 [.ref a, x1, x2] st h = Run M_X9_next 48 [.ref a, x1, x2] (.ref a :: st) h := R_aload_n d_X9_next_47 rfl
theorem d_X9_next_48 : decode (mB M_X9_next) 48 = .ok (.iconst 0, 1) := by decide +kernel
theorem r_X9_next_48 {x0 x1 x2 : Value} {st : List Value} {h : AH} : Run M_X9_next 48 [x0, x1, x2] st h = Run M_X9_next 49 [x0, x1, x2] (.int (nI 0) :: st) h := R_iconst d_X9_next_48 (by decide)
theorem d_X9_next_49 : decode (mB M_X9_next) 49 = .ok (.putfield 107, 3) := by decide +kernel
theorem r_X9_next_49 {x0 x1 x2 : Value} {v : Int32} {a : Nat} {st : List Value} {h : AH} : Run M_X9_next 49 [x0, x1, x2] (.int v :: .ref a :: st) h = if (pF h a 9 16 (.int v)).isSome = true then Run M_X9_next 52 [x0, x1, x2] st ((pF h a 9 16 (.int v)).getD h) else none := R_putfield d_X9_next_49 rfl (okP_int rfl rfl)
theorem d_X9_next_52 : decode (mB M_X9_next) 52 = .ok (.goto 198, 3) := by decide +kernel
theorem r_X9_next_52 {x0 x1 x2 : Value} {st : List Value} {h : AH} : Run M_X9_next 52 [x0, x1, x2] st h = Run M_X9_next 250 [x0, x1, x2] st h := R_goto d_X9_next_52 (by decide)
theorem d_X9_next_55 : decode (mB M_X9_next) 55 = .ok (.iload_n 1, 1) := by decide +kernel
theorem r_X9_next_55 {x0 x2 : Value} {a : Int32} {st : List Value} {h : AH} : Run M_X9_next 55 [x0, .int a, x2] st h = Run M_X9_next 56 [x0, .int a, x2] (.int a :: st) h := R_iload_n d_X9_next_55 rfl
theorem d_X9_next_56 : decode (mB M_X9_next) 56 = .ok (.bipush 48, 2) := by decide +kernel
theorem r_X9_next_56 {x0 x1 x2 : Value} {st : List Value} {h : AH} : Run M_X9_next 56 [x0, x1, x2] st h = Run M_X9_next 58 [x0, x1, x2] (.int (nI 48) :: st) h := R_bipush d_X9_next_56 (by decide)
theorem d_X9_next_58 : decode (mB M_X9_next) 58 = .ok (.bipush 57, 2) := by decide +kernel
theorem r_X9_next_58 {x0 x1 x2 : Value} {st : List Value} {h : AH} : Run M_X9_next 58 [x0, x1, x2] st h = Run M_X9_next 60 [x0, x1, x2] (.int (nI 57) :: st) h := R_bipush d_X9_next_58 (by decide)
theorem d_X9_next_60 : decode (mB M_X9_next) 60 = .ok (.invokestatic 85, 3) := by decide +kernel
theorem r_X9_next_60 {x0 x1 x2 : Value} {p0 : Int32} {p1 : Int32} {p2 : Int32} {h : AH} : Run M_X9_next 60 [x0, x1, x2] (.int p2 :: .int p1 :: .int p0 :: []) h = if (Call M_X9_in h [.int p0, .int p1, .int p2]).isSome = true then Run M_X9_next 63 [x0, x1, x2] (rL (Call M_X9_in h [.int p0, .int p1, .int p2]) ++ []) (cH (Call M_X9_in h [.int p0, .int p1, .int p2])) else none := R_stat d_X9_next_60 rfl rfl rfl rfl (Nat.le_of_ble_eq_true rfl)
theorem d_X9_next_63 : decode (mB M_X9_next) 63 = .ok (.ifCond .eq 103, 3) := by decide +kernel
theorem r_X9_next_63 {x0 x1 x2 : Value} {x : Int32} {st : List Value} {h : AH} : Run M_X9_next 63 [x0, x1, x2] (.int x :: st) h = if x = nI 0 then Run M_X9_next 166 [x0, x1, x2] st h else Run M_X9_next 66 [x0, x1, x2] st h := R_if_eq d_X9_next_63 (by decide)
theorem d_X9_next_66 : decode (mB M_X9_next) 66 = .ok (.aload_n 0, 1) := by decide +kernel
theorem r_X9_next_66 {x1 x2 : Value} {a : Nat} {st : List Value} {h : AH} : Run M_X9_next 66 [.ref a, x1, x2] st h = Run M_X9_next 67 [.ref a, x1, x2] (.ref a :: st) h := R_aload_n d_X9_next_66 rfl
theorem d_X9_next_67 : decode (mB M_X9_next) 67 = .ok (.iconst 0, 1) := by decide +kernel
theorem r_X9_next_67 {x0 x1 x2 : Value} {st : List Value} {h : AH} : Run M_X9_next 67 [x0, x1, x2] st h = Run M_X9_next 68 [x0, x1, x2] (.int (nI 0) :: st) h := R_iconst d_X9_next_67 (by decide)
theorem d_X9_next_68 : decode (mB M_X9_next) 68 = .ok (.putfield 110, 3) := by decide +kernel
theorem r_X9_next_68 {x0 x1 x2 : Value} {v : Int32} {a : Nat} {st : List Value} {h : AH} : Run M_X9_next 68 [x0, x1, x2] (.int v :: .ref a :: st) h = if (pF h a 9 17 (.int v)).isSome = true then Run M_X9_next 71 [x0, x1, x2] st ((pF h a 9 17 (.int v)).getD h) else none := R_putfield d_X9_next_68 rfl (okP_int rfl rfl)
theorem d_X9_next_71 : decode (mB M_X9_next) 71 = .ok (.aload_n 0, 1) := by decide +kernel
theorem r_X9_next_71 {x1 x2 : Value} {a : Nat} {st : List Value} {h : AH} : Run M_X9_next 71 [.ref a, x1, x2] st h = Run M_X9_next 72 [.ref a, x1, x2] (.ref a :: st) h := R_aload_n d_X9_next_71 rfl
theorem d_X9_next_72 : decode (mB M_X9_next) 72 = .ok (.aload_n 0, 1) := by decide +kernel
theorem r_X9_next_72 {x1 x2 : Value} {a : Nat} {st : List Value} {h : AH} : Run M_X9_next 72 [.ref a, x1, x2] st h = Run M_X9_next 73 [.ref a, x1, x2] (.ref a :: st) h := R_aload_n d_X9_next_72 rfl
theorem d_X9_next_73 : decode (mB M_X9_next) 73 = .ok (.getfield 97, 3) := by decide +kernel
theorem r_X9_next_73 {x0 x1 x2 : Value} {a : Nat} {st : List Value} {h : AH} : Run M_X9_next 73 [x0, x1, x2] (.ref a :: st) h = if (gF h a 9 14).isSome = true then Run M_X9_next 76 [x0, x1, x2] ((gF h a 9 14).getD .null :: st) h else none := R_getfield d_X9_next_73 rfl
theorem d_X9_next_76 : decode (mB M_X9_next) 76 = .ok (.invokevirtual 100, 3) := by decide +kernel
theorem r_X9_next_76 {x0 x1 x2 : Value} {p0 : Int32} {a : Nat} {h : AH} : Run M_X9_next 76 [x0, x1, x2] (.int p0 :: .ref a :: []) h = if refO h 9 (some (.ref a)) = true then (if (Call M_X9_letterAt h [.ref a, .int p0]).isSome = true then Run M_X9_next 79 [x0, x1, x2] (rL (Call M_X9_letterAt h [.ref a, .int p0]) ++ []) (cH (Call M_X9_letterAt h [.ref a, .int p0])) else none) else none := R_virt d_X9_next_76 rfl rfl rfl rfl rfl (Nat.le_of_ble_eq_true rfl)
theorem d_X9_next_79 : decode (mB M_X9_next) 79 = .ok (.bipush 48, 2) := by decide +kernel
theorem r_X9_next_79 {x0 x1 x2 : Value} {st : List Value} {h : AH} : Run M_X9_next 79 [x0, x1, x2] st h = Run M_X9_next 81 [x0, x1, x2] (.int (nI 48) :: st) h := R_bipush d_X9_next_79 (by decide)
theorem d_X9_next_81 : decode (mB M_X9_next) 81 = .ok (.bipush 57, 2) := by decide +kernel
theorem r_X9_next_81 {x0 x1 x2 : Value} {st : List Value} {h : AH} : Run M_X9_next 81 [x0, x1, x2] st h = Run M_X9_next 83 [x0, x1, x2] (.int (nI 57) :: st) h := R_bipush d_X9_next_81 (by decide)
theorem d_X9_next_83 : decode (mB M_X9_next) 83 = .ok (.invokestatic 85, 3) := by decide +kernel
theorem r_X9_next_83 {x0 x1 x2 : Value} {p0 : Int32} {p1 : Int32} {p2 : Int32} {h : AH} : Run M_X9_next 83 [x0, x1, x2] (.int p2 :: .int p1 :: .int p0 :: []) h = if (Call M_X9_in h [.int p0, .int p1, .int p2]).isSome = true then Run M_X9_next 86 [x0, x1, x2] (rL (Call M_X9_in h [.int p0, .int p1, .int p2]) ++ []) (cH (Call M_X9_in h [.int p0, .int p1, .int p2])) else none := R_stat d_X9_next_83 rfl rfl rfl rfl (Nat.le_of_ble_eq_true rfl)
theorem d_X9_next_86 : decode (mB M_X9_next) 86 = .ok (.ifCond .eq 59, 3) := by decide +kernel
theorem r_X9_next_86 {x0 x1 x2 : Value} {x : Int32} {st : List Value} {h : AH} : Run M_X9_next 86 [x0, x1, x2] (.int x :: st) h = if x = nI 0 then Run M_X9_next 145 [x0, x1, x2] st h else Run M_X9_next 89 [x0, x1, x2] st h := R_if_eq d_X9_next_86 (by decide)
theorem d_X9_next_89 : decode (mB M_X9_next) 89 = .ok (.aload_n 0, 1) := by decide +kernel
theorem r_X9_next_89 {x1 x2 : Value} {a : Nat} {st : List Value} {h : AH} : Run M_X9_next 89 [.ref a, x1, x2] st h = Run M_X9_next 90 [.ref a, x1, x2] (.ref a :: st) h := R_aload_n d_X9_next_89 rfl
theorem d_X9_next_90 : decode (mB M_X9_next) 90 = .ok (.aload_n 0, 1) := by decide +kernel
theorem r_X9_next_90 {x1 x2 : Value} {a : Nat} {st : List Value} {h : AH} : Run M_X9_next 90 [.ref a, x1, x2] st h = Run M_X9_next 91 [.ref a, x1, x2] (.ref a :: st) h := R_aload_n d_X9_next_90 rfl
theorem d_X9_next_91 : decode (mB M_X9_next) 91 = .ok (.getfield 97, 3) := by decide +kernel
theorem r_X9_next_91 {x0 x1 x2 : Value} {a : Nat} {st : List Value} {h : AH} : Run M_X9_next 91 [x0, x1, x2] (.ref a :: st) h = if (gF h a 9 14).isSome = true then Run M_X9_next 94 [x0, x1, x2] ((gF h a 9 14).getD .null :: st) h else none := R_getfield d_X9_next_91 rfl
theorem d_X9_next_94 : decode (mB M_X9_next) 94 = .ok (.aload_n 0, 1) := by decide +kernel
theorem r_X9_next_94 {x1 x2 : Value} {a : Nat} {st : List Value} {h : AH} : Run M_X9_next 94 [.ref a, x1, x2] st h = Run M_X9_next 95 [.ref a, x1, x2] (.ref a :: st) h := R_aload_n d_X9_next_94 rfl
theorem d_X9_next_95 : decode (mB M_X9_next) 95 = .ok (.getfield 104, 3) := by decide +kernel
theorem r_X9_next_95 {x0 x1 x2 : Value} {a : Nat} {st : List Value} {h : AH} : Run M_X9_next 95 [x0, x1, x2] (.ref a :: st) h = if (gF h a 9 15).isSome = true then Run M_X9_next 98 [x0, x1, x2] ((gF h a 9 15).getD .null :: st) h else none := R_getfield d_X9_next_95 rfl
theorem d_X9_next_98 : decode (mB M_X9_next) 98 = .ok (.isub, 1) := by decide +kernel
theorem r_X9_next_98 {x0 x1 x2 : Value} {x y : Int32} {st : List Value} {h : AH} : Run M_X9_next 98 [x0, x1, x2] (.int y :: .int x :: st) h = Run M_X9_next 99 [x0, x1, x2] (.int (x - y) :: st) h := R_isub d_X9_next_98
theorem d_X9_next_99 : decode (mB M_X9_next) 99 = .ok (.iconst 3, 1) := by decide +kernel
theorem r_X9_next_99 {x0 x1 x2 : Value} {st : List Value} {h : AH} : Run M_X9_next 99 [x0, x1, x2] st h = Run M_X9_next 100 [x0, x1, x2] (.int (nI 3) :: st) h := R_iconst d_X9_next_99 (by decide)
theorem d_X9_next_100 : decode (mB M_X9_next) 100 = .ok (.if_icmp .ge 25, 3) := by decide +kernel
theorem r_X9_next_100 {x0 x1 x2 : Value} {x y : Int32} {st : List Value} {h : AH} : Run M_X9_next 100 [x0, x1, x2] (.int y :: .int x :: st) h = if y ≤ x then Run M_X9_next 125 [x0, x1, x2] st h else Run M_X9_next 103 [x0, x1, x2] st h := R_icmp_ge d_X9_next_100 (by decide)
theorem d_X9_next_103 : decode (mB M_X9_next) 103 = .ok (.bipush 10, 2) := by decide +kernel
theorem r_X9_next_103 {x0 x1 x2 : Value} {st : List Value} {h : AH} : Run M_X9_next 103 [x0, x1, x2] st h = Run M_X9_next 105 [x0, x1, x2] (.int (nI 10) :: st) h := R_bipush d_X9_next_103 (by decide)
theorem d_X9_next_105 : decode (mB M_X9_next) 105 = .ok (.aload_n 0, 1) := by decide +kernel
theorem r_X9_next_105 {x1 x2 : Value} {a : Nat} {st : List Value} {h : AH} : Run M_X9_next 105 [.ref a, x1, x2] st h = Run M_X9_next 106 [.ref a, x1, x2] (.ref a :: st) h := R_aload_n d_X9_next_105 rfl
theorem d_X9_next_106 : decode (mB M_X9_next) 106 = .ok (.getfield 110, 3) := by decide +kernel
theorem r_X9_next_106 {x0 x1 x2 : Value} {a : Nat} {st : List Value} {h : AH} : Run M_X9_next 106 [x0, x1, x2] (.ref a :: st) h = if (gF h a 9 17).isSome = true then Run M_X9_next 109 [x0, x1, x2] ((gF h a 9 17).getD .null :: st) h else none := R_getfield d_X9_next_106 rfl
theorem d_X9_next_109 : decode (mB M_X9_next) 109 = .ok (.imul, 1) := by decide +kernel
theorem r_X9_next_109 {x0 x1 x2 : Value} {x y : Int32} {st : List Value} {h : AH} : Run M_X9_next 109 [x0, x1, x2] (.int y :: .int x :: st) h = Run M_X9_next 110 [x0, x1, x2] (.int (x * y) :: st) h := R_imul d_X9_next_109
theorem d_X9_next_110 : decode (mB M_X9_next) 110 = .ok (.aload_n 0, 1) := by decide +kernel
theorem r_X9_next_110 {x1 x2 : Value} {a : Nat} {st : List Value} {h : AH} : Run M_X9_next 110 [.ref a, x1, x2] st h = Run M_X9_next 111 [.ref a, x1, x2] (.ref a :: st) h := R_aload_n d_X9_next_110 rfl
theorem d_X9_next_111 : decode (mB M_X9_next) 111 = .ok (.aload_n 0, 1) := by decide +kernel
theorem r_X9_next_111 {x1 x2 : Value} {a : Nat} {st : List Value} {h : AH} : Run M_X9_next 111 [.ref a, x1, x2] st h = Run M_X9_next 112 [.ref a, x1, x2] (.ref a :: st) h := R_aload_n d_X9_next_111 rfl
theorem d_X9_next_112 : decode (mB M_X9_next) 112 = .ok (.getfield 97, 3) := by decide +kernel
theorem r_X9_next_112 {x0 x1 x2 : Value} {a : Nat} {st : List Value} {h : AH} : Run M_X9_next 112 [x0, x1, x2] (.ref a :: st) h = if (gF h a 9 14).isSome = true then Run M_X9_next 115 [x0, x1, x2] ((gF h a 9 14).getD .null :: st) h else none := R_getfield d_X9_next_112 rfl
theorem d_X9_next_115 : decode (mB M_X9_next) 115 = .ok (.invokevirtual 100, 3) := by decide +kernel
theorem r_X9_next_115 {x0 x1 x2 : Value} {p0 : Int32} {a : Nat} {w0 w1 : Value} {h : AH} : Run M_X9_next 115 [x0, x1, x2] (.int p0 :: .ref a :: [w0, w1]) h = if refO h 9 (some (.ref a)) = true then (if (Call M_X9_letterAt h [.ref a, .int p0]).isSome = true then Run M_X9_next 118 [x0, x1, x2] (rL (Call M_X9_letterAt h [.ref a, .int p0]) ++ [w0, w1]) (cH (Call M_X9_letterAt h [.ref a, .int p0])) else none) else none := R_virt d_X9_next_115 rfl rfl rfl rfl rfl (Nat.le_of_ble_eq_true rfl)
theorem d_X9_next_118 : decode (mB M_X9_next) 118 = .ok (.iadd, 1) := by decide +kernel
theorem r_X9_next_118 {x0 x1 x2 : Value} {x y : Int32} {st : List Value} {h : AH} : Run M_X9_next 118 [x0, x1, x2] (.int y :: .int x :: st) h = Run M_X9_next 119 [x0, x1, x2] (.int (x + y) :: st) h := R_iadd d_X9_next_118
theorem d_X9_next_119 : decode (mB M_X9_next) 119 = .ok (.bipush 48, 2) := by decide +kernel
theorem r_X9_next_119 {x0 x1 x2 : Value} {st : List Value} {h : AH} : Run M_X9_next 119 [x0, x1, x2] st h = Run M_X9_next 121 [x0, x1, x2] (.int (nI 48) :: st) h := R_bipush d_X9_next_119 (by decide)
theorem d_X9_next_121 : decode (mB M_X9_next) 121 = .ok (.isub, 1) := by decide +kernel
theorem r_X9_next_121 {x0 x1 x2 : Value} {x y : Int32} {st : List Value} {h : AH} : Run M_X9_next 121 [x0, x1, x2] (.int y :: .int x :: st) h = Run M_X9_next 122 [x0, x1, x2] (.int (x - y) :: st) h := R_isub d_X9_next_121
theorem d_X9_next_122 : decode (mB M_X9_next) 122 = .ok (.goto 7, 3) := by decide +kernel
theorem r_X9_next_122 {x0 x1 x2 : Value} {st : List Value} {h : AH} : Run M_X9_next 122 [x0, x1, x2] st h = Run M_X9_next 129 [x0, x1, x2] st h := R_goto d_X9_next_122 (by decide)
theorem d_X9_next_125 : decode (mB M_X9_next) 125 = .ok (.aload_n 0, 1) := by decide +kernel
theorem r_X9_next_125 {x1 x2 : Value} {a : Nat} {st : List Value} {h : AH} : Run M_X9_next 125 [.ref a, x1, x2] st h = Run M_X9_next 126 [.ref a, x1, x2] (.ref a :: st) h := R_aload_n d_X9_next_125 rfl
theorem d_X9_next_126 : decode (mB M_X9_next) 126 = .ok (.getfield 110, 3) := by decide +kernel
theorem r_X9_next_126 {x0 x1 x2 : Value} {a : Nat} {st : List Value} {h : AH} : Run M_X9_next 126 [x0, x1, x2] (.ref a :: st) h = if (gF h a 9 17).isSome = true then Run M_X9_next 129 [x0, x1, x2] ((gF h a 9 17).getD .null :: st) h else none := R_getfield d_X9_next_126 rfl
theorem d_X9_next_129 : decode (mB M_X9_next) 129 = .ok (.putfield 110, 3) := by decide +kernel
theorem r_X9_next_129 {x0 x1 x2 : Value} {v : Int32} {a : Nat} {st : List Value} {h : AH} : Run M_X9_next 129 [x0, x1, x2] (.int v :: .ref a :: st) h = if (pF h a 9 17 (.int v)).isSome = true then Run M_X9_next 132 [x0, x1, x2] st ((pF h a 9 17 (.int v)).getD h) else none := R_putfield d_X9_next_129 rfl (okP_int rfl rfl)
theorem d_X9_next_132 : decode (mB M_X9_next) 132 = .ok (.aload_n 0, 1) := by decide +kernel
theorem r_X9_next_132 {x1 x2 : Value} {a : Nat} {st : List Value} {h : AH} : Run M_X9_next 132 [.ref a, x1, x2] st h = Run M_X9_next 133 [.ref a, x1, x2] (.ref a :: st) h := R_aload_n d_X9_next_132 rfl
theorem d_X9_next_133 : decode (mB M_X9_next) 133 = .ok (.dup, 1) := by decide +kernel
theorem r_X9_next_133 {x0 x1 x2 : Value} {x : Nat} {st : List Value} {h : AH} : Run M_X9_next 133 [x0, x1, x2] (.ref x :: st) h = Run M_X9_next 134 [x0, x1, x2] (.ref x :: .ref x :: st) h := R_dupr d_X9_next_133
theorem d_X9_next_134 : decode (mB M_X9_next) 134 = .ok (.getfield 97, 3) := by decide +kernel
theorem r_X9_next_134 {x0 x1 x2 : Value} {a : Nat} {st : List Value} {h : AH} : Run M_X9_next 134 [x0, x1, x2] (.ref a :: st) h = if (gF h a 9 14).isSome = true then Run M_X9_next 137 [x0, x1, x2] ((gF h a 9 14).getD .null :: st) h else none := R_getfield d_X9_next_134 rfl
theorem d_X9_next_137 : decode (mB M_X9_next) 137 = .ok (.iconst 1, 1) := by decide +kernel
theorem r_X9_next_137 {x0 x1 x2 : Value} {st : List Value} {h : AH} : Run M_X9_next 137 [x0, x1, x2] st h = Run M_X9_next 138 [x0, x1, x2] (.int (nI 1) :: st) h := R_iconst d_X9_next_137 (by decide)
theorem d_X9_next_138 : decode (mB M_X9_next) 138 = .ok (.iadd, 1) := by decide +kernel
theorem r_X9_next_138 {x0 x1 x2 : Value} {x y : Int32} {st : List Value} {h : AH} : Run M_X9_next 138 [x0, x1, x2] (.int y :: .int x :: st) h = Run M_X9_next 139 [x0, x1, x2] (.int (x + y) :: st) h := R_iadd d_X9_next_138
theorem d_X9_next_139 : decode (mB M_X9_next) 139 = .ok (.putfield 97, 3) := by decide +kernel
theorem r_X9_next_139 {x0 x1 x2 : Value} {v : Int32} {a : Nat} {st : List Value} {h : AH} : Run M_X9_next 139 [x0, x1, x2] (.int v :: .ref a :: st) h = if (pF h a 9 14 (.int v)).isSome = true then Run M_X9_next 142 [x0, x1, x2] st ((pF h a 9 14 (.int v)).getD h) else none := R_putfield d_X9_next_139 rfl (okP_int rfl rfl)
theorem d_X9_next_142 : decode (mB M_X9_next) 142 = .ok (.goto (-71), 3) := by decide +kernel
theorem r_X9_next_142 {x0 x1 x2 : Value} {st : List Value} {h : AH} : Run M_X9_next 142 [x0, x1, x2] st h = Run M_X9_next 71 [x0, x1, x2] st h := R_goto d_X9_next_142 (by decide)
theorem d_X9_next_145 : decode (mB M_X9_next) 145 = .ok (.aload_n 0, 1) := by decide +kernel
theorem r_X9_next_145 {x1 x2 : Value} {a : Nat} {st : List Value} {h : AH} : Run M_X9_next 145 [.ref a, x1, x2] st h = Run M_X9_next 146 [.ref a, x1, x2] (.ref a :: st) h := R_aload_n d_X9_next_145 rfl
theorem d_X9_next_146 : decode (mB M_X9_next) 146 = .ok (.aload_n 0, 1) := by decide +kernel
theorem r_X9_next_146 {x1 x2 : Value} {a : Nat} {st : List Value} {h : AH} : Run M_X9_next 146 [.ref a, x1, x2] st h = Run M_X9_next 147 [.ref a, x1, x2] (.ref a :: st) h := R_aload_n d_X9_next_146 rfl
theorem d_X9_next_147 : decode (mB M_X9_next) 147 = .ok (.getfield 97, 3) := by decide +kernel
theorem r_X9_next_147 {x0 x1 x2 : Value} {a : Nat} {st : List Value} {h : AH} : Run M_X9_next 147 [x0, x1, x2] (.ref a :: st) h = if (gF h a 9 14).isSome = true then Run M_X9_next 150 [x0, x1, x2] ((gF h a 9 14).getD .null :: st) h else none := R_getfield d_X9_next_147 rfl
theorem d_X9_next_150 : decode (mB M_X9_next) 150 = .ok (.aload_n 0, 1) := by decide +kernel
theorem r_X9_next_150 {x1 x2 : Value} {a : Nat} {st : List Value} {h : AH} : Run M_X9_next 150 [.ref a, x1, x2] st h = Run M_X9_next 151 [.ref a, x1, x2] (.ref a :: st) h := R_aload_n d_X9_next_150 rfl
theorem d_X9_next_151 : decode (mB M_X9_next) 151 = .ok (.getfield 104, 3) := by decide +kernel
theorem r_X9_next_151 {x0 x1 x2 : Value} {a : Nat} {st : List Value} {h : AH} : Run M_X9_next 151 [x0, x1, x2] (.ref a :: st) h = if (gF h a 9 15).isSome = true then Run M_X9_next 154 [x0, x1, x2] ((gF h a 9 15).getD .null :: st) h else none := R_getfield d_X9_next_151 rfl
theorem d_X9_next_154 : decode (mB M_X9_next) 154 = .ok (.isub, 1) := by decide +kernel
theorem r_X9_next_154 {x0 x1 x2 : Value} {x y : Int32} {st : List Value} {h : AH} : Run M_X9_next 154 [x0, x1, x2] (.int y :: .int x :: st) h = Run M_X9_next 155 [x0, x1, x2] (.int (x - y) :: st) h := R_isub d_X9_next_154
theorem d_X9_next_155 : decode (mB M_X9_next) 155 = .ok (.putfield 113, 3) := by decide +kernel
theorem r_X9_next_155 {x0 x1 x2 : Value} {v : Int32} {a : Nat} {st : List Value} {h : AH} : Run M_X9_next 155 [x0, x1, x2] (.int v :: .ref a :: st) h = if (pF h a 9 18 (.int v)).isSome = true then Run M_X9_next 158 [x0, x1, x2] st ((pF h a 9 18 (.int v)).getD h) else none := R_putfield d_X9_next_155 rfl (okP_int rfl rfl)
theorem d_X9_next_158 : decode (mB M_X9_next) 158 = .ok (.aload_n 0, 1) := by decide +kernel
theorem r_X9_next_158 {x1 x2 : Value} {a : Nat} {st : List Value} {h : AH} : Run M_X9_next 158 [.ref a, x1, x2] st h = Run M_X9_next 159 [.ref a, x1, x2] (.ref a :: st) h := R_aload_n d_X9_next_158 rfl
theorem d_X9_next_159 : decode (mB M_X9_next) 159 = .ok (.iconst 2, 1) := by decide +kernel
theorem r_X9_next_159 {x0 x1 x2 : Value} {st : List Value} {h : AH} : Run M_X9_next 159 [x0, x1, x2] st h = Run M_X9_next 160 [x0, x1, x2] (.int (nI 2) :: st) h := R_iconst d_X9_next_159 (by decide)
theorem d_X9_next_160 : decode (mB M_X9_next) 160 = .ok (.putfield 107, 3) := by decide +kernel
theorem r_X9_next_160 {x0 x1 x2 : Value} {v : Int32} {a : Nat} {st : List Value} {h : AH} : Run M_X9_next 160 [x0, x1, x2] (.int v :: .ref a :: st) h = if (pF h a 9 16 (.int v)).isSome = true then Run M_X9_next 163 [x0, x1, x2] st ((pF h a 9 16 (.int v)).getD h) else none := R_putfield d_X9_next_160 rfl (okP_int rfl rfl)
theorem d_X9_next_163 : decode (mB M_X9_next) 163 = .ok (.goto 87, 3) := by decide +kernel
theorem r_X9_next_163 {x0 x1 x2 : Value} {st : List Value} {h : AH} : Run M_X9_next 163 [x0, x1, x2] st h = Run M_X9_next 250 [x0, x1, x2] st h := R_goto d_X9_next_163 (by decide)
theorem d_X9_next_166 : decode (mB M_X9_next) 166 = .ok (.aload_n 0, 1) := by decide +kernel
theorem r_X9_next_166 {x1 x2 : Value} {a : Nat} {st : List Value} {h : AH} : Run M_X9_next 166 [.ref a, x1, x2] st h = Run M_X9_next 167 [.ref a, x1, x2] (.ref a :: st) h := R_aload_n d_X9_next_166 rfl
theorem d_X9_next_167 : decode (mB M_X9_next) 167 = .ok (.dup, 1) := by decide +kernel
theorem r_X9_next_167 {x0 x1 x2 : Value} {x : Nat} {st : List Value} {h : AH} : Run M_X9_next 167 [x0, x1, x2] (.ref x :: st) h = Run M_X9_next 168 [x0, x1, x2] (.ref x :: .ref x :: st) h := R_dupr d_X9_next_167
theorem d_X9_next_168 : decode (mB M_X9_next) 168 = .ok (.getfield 97, 3) := by decide +kernel
theorem r_X9_next_168 {x0 x1 x2 : Value} {a : Nat} {st : List Value} {h : AH} : Run M_X9_next 168 [x0, x1, x2] (.ref a :: st) h = if (gF h a 9 14).isSome = true then Run M_X9_next 171 [x0, x1, x2] ((gF h a 9 14).getD .null :: st) h else none := R_getfield d_X9_next_168 rfl
theorem d_X9_next_171 : decode (mB M_X9_next) 171 = .ok (.iconst 1, 1) := by decide +kernel
theorem r_X9_next_171 {x0 x1 x2 : Value} {st : List Value} {h : AH} : Run M_X9_next 171 [x0, x1, x2] st h = Run M_X9_next 172 [x0, x1, x2] (.int (nI 1) :: st) h := R_iconst d_X9_next_171 (by decide)
theorem d_X9_next_172 : decode (mB M_X9_next) 172 = .ok (.iadd, 1) := by decide +kernel
theorem r_X9_next_172 {x0 x1 x2 : Value} {x y : Int32} {st : List Value} {h : AH} : Run M_X9_next 172 [x0, x1, x2] (.int y :: .int x :: st) h = Run M_X9_next 173 [x0, x1, x2] (.int (x + y) :: st) h := R_iadd d_X9_next_172
theorem d_X9_next_173 : decode (mB M_X9_next) 173 = .ok (.putfield 97, 3) := by decide +kernel
theorem r_X9_next_173 {x0 x1 x2 : Value} {v : Int32} {a : Nat} {st : List Value} {h : AH} : Run M_X9_next 173 [x0, x1, x2] (.int v :: .ref a :: st) h = if (pF h a 9 14 (.int v)).isSome = true then Run M_X9_next 176 [x0, x1, x2] st ((pF h a 9 14 (.int v)).getD h) else none := R_putfield d_X9_next_173 rfl (okP_int rfl rfl)
theorem d_X9_next_176 : decode (mB M_X9_next) 176 = .ok (.aload_n 0, 1) := by decide +kernel
theorem r_X9_next_176 {x1 x2 : Value} {a : Nat} {st : List Value} {h : AH} : Run M_X9_next 176 [.ref a, x1, x2] st h = Run M_X9_next 177 [.ref a, x1, x2] (.ref a :: st) h := R_aload_n d_X9_next_176 rfl
theorem d_X9_next_177 : decode (mB M_X9_next) 177 = .ok (.iload_n 1, 1) := by decide +kernel
theorem r_X9_next_177 {x0 x2 : Value} {a : Int32} {st : List Value} {h : AH} : Run M_X9_next 177 [x0, .int a, x2] st h = Run M_X9_next 178 [x0, .int a, x2] (.int a :: st) h := R_iload_n d_X9_next_177 rfl
theorem d_X9_next_178 : decode (mB M_X9_next) 178 = .ok (.putfield 110, 3) := by decide +kernel
theorem r_X9_next_178 {x0 x1 x2 : Value} {v : Int32} {a : Nat} {st : List Value} {h : AH} : Run M_X9_next 178 [x0, x1, x2] (.int v :: .ref a :: st) h = if (pF h a 9 17 (.int v)).isSome = true then Run M_X9_next 181 [x0, x1, x2] st ((pF h a 9 17 (.int v)).getD h) else none := R_putfield d_X9_next_178 rfl (okP_int rfl rfl)
theorem d_X9_next_181 : decode (mB M_X9_next) 181 = .ok (.iload_n 1, 1) := by decide +kernel
theorem r_X9_next_181 {x0 x2 : Value} {a : Int32} {st : List Value} {h : AH} : Run M_X9_next 181 [x0, .int a, x2] st h = Run M_X9_next 182 [x0, .int a, x2] (.int a :: st) h := R_iload_n d_X9_next_181 rfl
theorem d_X9_next_182 : decode (mB M_X9_next) 182 = .ok (.bipush 112, 2) := by decide +kernel
theorem r_X9_next_182 {x0 x1 x2 : Value} {st : List Value} {h : AH} : Run M_X9_next 182 [x0, x1, x2] st h = Run M_X9_next 184 [x0, x1, x2] (.int (nI 112) :: st) h := R_bipush d_X9_next_182 (by decide)
theorem d_X9_next_184 : decode (mB M_X9_next) 184 = .ok (.if_icmp .eq 27, 3) := by decide +kernel
theorem r_X9_next_184 {x0 x1 x2 : Value} {x y : Int32} {st : List Value} {h : AH} : Run M_X9_next 184 [x0, x1, x2] (.int y :: .int x :: st) h = if x = y then Run M_X9_next 211 [x0, x1, x2] st h else Run M_X9_next 187 [x0, x1, x2] st h := R_icmp_eq d_X9_next_184 (by decide)
theorem d_X9_next_187 : decode (mB M_X9_next) 187 = .ok (.iload_n 1, 1) := by decide +kernel
theorem r_X9_next_187 {x0 x2 : Value} {a : Int32} {st : List Value} {h : AH} : Run M_X9_next 187 [x0, .int a, x2] st h = Run M_X9_next 188 [x0, .int a, x2] (.int a :: st) h := R_iload_n d_X9_next_187 rfl
theorem d_X9_next_188 : decode (mB M_X9_next) 188 = .ok (.bipush 115, 2) := by decide +kernel
theorem r_X9_next_188 {x0 x1 x2 : Value} {st : List Value} {h : AH} : Run M_X9_next 188 [x0, x1, x2] st h = Run M_X9_next 190 [x0, x1, x2] (.int (nI 115) :: st) h := R_bipush d_X9_next_188 (by decide)
theorem d_X9_next_190 : decode (mB M_X9_next) 190 = .ok (.if_icmp .eq 21, 3) := by decide +kernel
theorem r_X9_next_190 {x0 x1 x2 : Value} {x y : Int32} {st : List Value} {h : AH} : Run M_X9_next 190 [x0, x1, x2] (.int y :: .int x :: st) h = if x = y then Run M_X9_next 211 [x0, x1, x2] st h else Run M_X9_next 193 [x0, x1, x2] st h := R_icmp_eq d_X9_next_190 (by decide)
theorem d_X9_next_193 : decode (mB M_X9_next) 193 = .ok (.iload_n 1, 1) := by decide +kernel
theorem r_X9_next_193 {x0 x2 : Value} {a : Int32} {st : List Value} {h : AH} : Run M_X9_next 193 [x0, .int a, x2] st h = Run M_X9_next 194 [x0, .int a, x2] (.int a :: st) h := R_iload_n d_X9_next_193 rfl
theorem d_X9_next_194 : decode (mB M_X9_next) 194 = .ok (.bipush 99, 2) := by decide +kernel
theorem r_X9_next_194 {x0 x1 x2 : Value} {st : List Value} {h : AH} : Run M_X9_next 194 [x0, x1, x2] st h = Run M_X9_next 196 [x0, x1, x2] (.int (nI 99) :: st) h := R_bipush d_X9_next_194 (by decide)
theorem d_X9_next_196 : decode (mB M_X9_next) 196 = .ok (.if_icmp .eq 15, 3) := by decide +kernel
theorem r_X9_next_196 {x0 x1 x2 : Value} {x y : Int32} {st : List Value} {h : AH} : Run M_X9_next 196 [x0, x1, x2] (.int y :: .int x :: st) h = if x = y then Run M_X9_next 211 [x0, x1, x2] st h else Run M_X9_next 199 [x0, x1, x2] st h := R_icmp_eq d_X9_next_196 (by decide)
theorem d_X9_next_199 : decode (mB M_X9_next) 199 = .ok (.iload_n 1, 1) := by decide +kernel
theorem r_X9_next_199 {x0 x2 : Value} {a : Int32} {st : List Value} {h : AH} : Run M_X9_next 199 [x0, .int a, x2] st h = Run M_X9_next 200 [x0, .int a, x2] (.int a :: st) h := R_iload_n d_X9_next_199 rfl
theorem d_X9_next_200 : decode (mB M_X9_next) 200 = .ok (.bipush 108, 2) := by decide +kernel
theorem r_X9_next_200 {x0 x1 x2 : Value} {st : List Value} {h : AH} : Run M_X9_next 200 [x0, x1, x2] st h = Run M_X9_next 202 [x0, x1, x2] (.int (nI 108) :: st) h := R_bipush d_X9_next_200 (by decide)
theorem d_X9_next_202 : decode (mB M_X9_next) 202 = .ok (.if_icmp .eq 9, 3) := by decide +kernel
theorem r_X9_next_202 {x0 x1 x2 : Value} {x y : Int32} {st : List Value} {h : AH} : Run M_X9_next 202 [x0, x1, x2] (.int y :: .int x :: st) h = if x = y then Run M_X9_next 211 [x0, x1, x2] st h else Run M_X9_next 205 [x0, x1, x2] st h := R_icmp_eq d_X9_next_202 (by decide)
theorem d_X9_next_205 : decode (mB M_X9_next) 205 = .ok (.iload_n 1, 1) := by decide +kernel
theorem r_X9_next_205 {x0 x2 : Value} {a : Int32} {st : List Value} {h : AH} : Run M_X9_next 205 [x0, .int a, x2] st h = Run M_X9_next 206 [x0, .int a, x2] (.int a :: st) h := R_iload_n d_X9_next_205 rfl
theorem d_X9_next_206 : decode (mB M_X9_next) 206 = .ok (.bipush 105, 2) := by decide +kernel
theorem r_X9_next_206 {x0 x1 x2 : Value} {st : List Value} {h : AH} : Run M_X9_next 206 [x0, x1, x2] st h = Run M_X9_next 208 [x0, x1, x2] (.int (nI 105) :: st) h := R_bipush d_X9_next_206 (by decide)
theorem d_X9_next_208 : decode (mB M_X9_next) 208 = .ok (.if_icmp .ne 7, 3) := by decide +kernel
theorem r_X9_next_208 {x0 x1 x2 : Value} {x y : Int32} {st : List Value} {h : AH} : Run M_X9_next 208 [x0, x1, x2] (.int y :: .int x :: st) h = if x = y then Run M_X9_next 211 [x0, x1, x2] st h else Run M_X9_next 215 [x0, x1, x2] st h := R_icmp_ne d_X9_next_208 (by decide)
theorem d_X9_next_211 : decode (mB M_X9_next) 211 = .ok (.iconst 1, 1) := by decide +kernel
theorem r_X9_next_211 {x0 x1 x2 : Value} {st : List Value} {h : AH} : Run M_X9_next 211 [x0, x1, x2] st h = Run M_X9_next 212 [x0, x1, x2] (.int (nI 1) :: st) h := R_iconst d_X9_next_211 (by decide)
theorem d_X9_next_212 : decode (mB M_X9_next) 212 = .ok (.goto 4, 3) := by decide +kernel
theorem r_X9_next_212 {x0 x1 x2 : Value} {st : List Value} {h : AH} : Run M_X9_next 212 [x0, x1, x2] st h = Run M_X9_next 216 [x0, x1, x2] st h := R_goto d_X9_next_212 (by decide)
theorem d_X9_next_215 : decode (mB M_X9_next) 215 = .ok (.iconst 0, 1) := by decide +kernel
theorem r_X9_next_215 {x0 x1 x2 : Value} {st : List Value} {h : AH} : Run M_X9_next 215 [x0, x1, x2] st h = Run M_X9_next 216 [x0, x1, x2] (.int (nI 0) :: st) h := R_iconst d_X9_next_215 (by decide)
theorem d_X9_next_216 : decode (mB M_X9_next) 216 = .ok (.istore_n 2, 1) := by decide +kernel
theorem r_X9_next_216 {x0 x1 x2 : Value} {a : Int32} {st : List Value} {h : AH} (hc : x1.category = 1) : Run M_X9_next 216 [x0, x1, x2] (.int a :: st) h = Run M_X9_next 217 [x0, x1, .int a] st h := R_istore_n d_X9_next_216 (Nat.lt_of_lt_of_le (by decide : 2 < 3) (Nat.le_refl 3)) (catP_of rfl hc)
theorem d_X9_next_217 : decode (mB M_X9_next) 217 = .ok (.aload_n 0, 1) := by decide +kernel
theorem r_X9_next_217 {x1 x2 : Value} {a : Nat} {st : List Value} {h : AH} : Run M_X9_next 217 [.ref a, x1, x2] st h = Run M_X9_next 218 [.ref a, x1, x2] (.ref a :: st) h := R_aload_n d_X9_next_217 rfl
theorem d_X9_next_218 : decode (mB M_X9_next) 218 = .ok (.iload_n 2, 1) := by decide +kernel
theorem r_X9_next_218 {x0 x1 : Value} {a : Int32} {st : List Value} {h : AH} : Run M_X9_next 218 [x0, x1, .int a] st h = Run M_X9_next 219 [x0, x1, .int a] (.int a :: st) h := R_iload_n d_X9_next_218 rfl
theorem d_X9_next_219 : decode (mB M_X9_next) 219 = .ok (.ifCond .eq 7, 3) := by decide +kernel
theorem r_X9_next_219 {x0 x1 x2 : Value} {x : Int32} {st : List Value} {h : AH} : Run M_X9_next 219 [x0, x1, x2] (.int x :: st) h = if x = nI 0 then Run M_X9_next 226 [x0, x1, x2] st h else Run M_X9_next 222 [x0, x1, x2] st h := R_if_eq d_X9_next_219 (by decide)
theorem d_X9_next_222 : decode (mB M_X9_next) 222 = .ok (.iconst 1, 1) := by decide +kernel
theorem r_X9_next_222 {x0 x1 x2 : Value} {st : List Value} {h : AH} : Run M_X9_next 222 [x0, x1, x2] st h = Run M_X9_next 223 [x0, x1, x2] (.int (nI 1) :: st) h := R_iconst d_X9_next_222 (by decide)
theorem d_X9_next_223 : decode (mB M_X9_next) 223 = .ok (.goto 24, 3) := by decide +kernel
theorem r_X9_next_223 {x0 x1 x2 : Value} {st : List Value} {h : AH} : Run M_X9_next 223 [x0, x1, x2] st h = Run M_X9_next 247 [x0, x1, x2] st h := R_goto d_X9_next_223 (by decide)
theorem d_X9_next_226 : decode (mB M_X9_next) 226 = .ok (.iload_n 1, 1) := by decide +kernel
theorem r_X9_next_226 {x0 x2 : Value} {a : Int32} {st : List Value} {h : AH} : Run M_X9_next 226 [x0, .int a, x2] st h = Run M_X9_next 227 [x0, .int a, x2] (.int a :: st) h := R_iload_n d_X9_next_226 rfl
theorem d_X9_next_227 : decode (mB M_X9_next) 227 = .ok (.bipush 59, 2) := by decide +kernel
theorem r_X9_next_227 {x0 x1 x2 : Value} {st : List Value} {h : AH} : Run M_X9_next 227 [x0, x1, x2] st h = Run M_X9_next 229 [x0, x1, x2] (.int (nI 59) :: st) h := R_bipush d_X9_next_227 (by decide)
theorem d_X9_next_229 : decode (mB M_X9_next) 229 = .ok (.if_icmp .ne 7, 3) := by decide +kernel
theorem r_X9_next_229 {x0 x1 x2 : Value} {x y : Int32} {st : List Value} {h : AH} : Run M_X9_next 229 [x0, x1, x2] (.int y :: .int x :: st) h = if x = y then Run M_X9_next 232 [x0, x1, x2] st h else Run M_X9_next 236 [x0, x1, x2] st h := R_icmp_ne d_X9_next_229 (by decide)
theorem d_X9_next_232 : decode (mB M_X9_next) 232 = .ok (.iconst 3, 1) := by decide +kernel
theorem r_X9_next_232 {x0 x1 x2 : Value} {st : List Value} {h : AH} : Run M_X9_next 232 [x0, x1, x2] st h = Run M_X9_next 233 [x0, x1, x2] (.int (nI 3) :: st) h := R_iconst d_X9_next_232 (by decide)
theorem d_X9_next_233 : decode (mB M_X9_next) 233 = .ok (.goto 14, 3) := by decide +kernel
theorem r_X9_next_233 {x0 x1 x2 : Value} {st : List Value} {h : AH} : Run M_X9_next 233 [x0, x1, x2] st h = Run M_X9_next 247 [x0, x1, x2] st h := R_goto d_X9_next_233 (by decide)
theorem d_X9_next_236 : decode (mB M_X9_next) 236 = .ok (.iload_n 1, 1) := by decide +kernel
theorem r_X9_next_236 {x0 x2 : Value} {a : Int32} {st : List Value} {h : AH} : Run M_X9_next 236 [x0, .int a, x2] st h = Run M_X9_next 237 [x0, .int a, x2] (.int a :: st) h := R_iload_n d_X9_next_236 rfl
theorem d_X9_next_237 : decode (mB M_X9_next) 237 = .ok (.bipush 44, 2) := by decide +kernel
theorem r_X9_next_237 {x0 x1 x2 : Value} {st : List Value} {h : AH} : Run M_X9_next 237 [x0, x1, x2] st h = Run M_X9_next 239 [x0, x1, x2] (.int (nI 44) :: st) h := R_bipush d_X9_next_237 (by decide)
theorem d_X9_next_239 : decode (mB M_X9_next) 239 = .ok (.if_icmp .ne 7, 3) := by decide +kernel
theorem r_X9_next_239 {x0 x1 x2 : Value} {x y : Int32} {st : List Value} {h : AH} : Run M_X9_next 239 [x0, x1, x2] (.int y :: .int x :: st) h = if x = y then Run M_X9_next 242 [x0, x1, x2] st h else Run M_X9_next 246 [x0, x1, x2] st h := R_icmp_ne d_X9_next_239 (by decide)
theorem d_X9_next_242 : decode (mB M_X9_next) 242 = .ok (.iconst 4, 1) := by decide +kernel
theorem r_X9_next_242 {x0 x1 x2 : Value} {st : List Value} {h : AH} : Run M_X9_next 242 [x0, x1, x2] st h = Run M_X9_next 243 [x0, x1, x2] (.int (nI 4) :: st) h := R_iconst d_X9_next_242 (by decide)
theorem d_X9_next_243 : decode (mB M_X9_next) 243 = .ok (.goto 4, 3) := by decide +kernel
theorem r_X9_next_243 {x0 x1 x2 : Value} {st : List Value} {h : AH} : Run M_X9_next 243 [x0, x1, x2] st h = Run M_X9_next 247 [x0, x1, x2] st h := R_goto d_X9_next_243 (by decide)
theorem d_X9_next_246 : decode (mB M_X9_next) 246 = .ok (.iconst 5, 1) := by decide +kernel
theorem r_X9_next_246 {x0 x1 x2 : Value} {st : List Value} {h : AH} : Run M_X9_next 246 [x0, x1, x2] st h = Run M_X9_next 247 [x0, x1, x2] (.int (nI 5) :: st) h := R_iconst d_X9_next_246 (by decide)
theorem d_X9_next_247 : decode (mB M_X9_next) 247 = .ok (.putfield 107, 3) := by decide +kernel
theorem r_X9_next_247 {x0 x1 x2 : Value} {v : Int32} {a : Nat} {st : List Value} {h : AH} : Run M_X9_next 247 [x0, x1, x2] (.int v :: .ref a :: st) h = if (pF h a 9 16 (.int v)).isSome = true then Run M_X9_next 250 [x0, x1, x2] st ((pF h a 9 16 (.int v)).getD h) else none := R_putfield d_X9_next_247 rfl (okP_int rfl rfl)
theorem d_X9_next_250 : decode (mB M_X9_next) 250 = .ok (.return_, 1) := by decide +kernel
theorem r_X9_next_250 {x0 x1 x2 : Value} {h : AH} : Run M_X9_next 250 [x0, x1, x2] [] h = some (h, none) := R_return d_X9_next_250 rfl
theorem d_X9_isWell_0 : decode (mB M_X9_isWell) 0 = .ok (.aload_n 0, 1) := by decide +kernel
theorem r_X9_isWell_0 {a : Nat} {st : List Value} {h : AH} : Run M_X9_isWell 0 [.ref a] st h = Run M_X9_isWell 1 [.ref a] (.ref a :: st) h := R_aload_n d_X9_isWell_0 rfl
theorem d_X9_isWell_1 : decode (mB M_X9_isWell) 1 = .ok (.getfield 116, 3) := by decide +kernel
theorem r_X9_isWell_1 {x0 : Value} {a : Nat} {st : List Value} {h : AH} : Run M_X9_isWell 1 [x0] (.ref a :: st) h = if (gF h a 9 19).isSome = true then Run M_X9_isWell 4 [x0] ((gF h a 9 19).getD .null :: st) h else none := R_getfield d_X9_isWell_1 rfl
theorem d_X9_isWell_4 : decode (mB M_X9_isWell) 4 = .ok (.ifCond .ne 7, 3) := by decide +kernel
theorem r_X9_isWell_4 {x0 : Value} {x : Int32} {st : List Value} {h : AH} : Run M_X9_isWell 4 [x0] (.int x :: st) h = if x = nI 0 then Run M_X9_isWell 7 [x0] st h else Run M_X9_isWell 11 [x0] st h := R_if_ne d_X9_isWell_4 (by decide)
theorem d_X9_isWell_7 : decode (mB M_X9_isWell) 7 = .ok (.iconst 1, 1) := by decide +kernel
theorem r_X9_isWell_7 {x0 : Value} {st : List Value} {h : AH} : Run M_X9_isWell 7 [x0] st h = Run M_X9_isWell 8 [x0] (.int (nI 1) :: st) h := R_iconst d_X9_isWell_7 (by decide)
theorem d_X9_isWell_8 : decode (mB M_X9_isWell) 8 = .ok (.goto 4, 3) := by decide +kernel
theorem r_X9_isWell_8 {x0 : Value} {st : List Value} {h : AH} : Run M_X9_isWell 8 [x0] st h = Run M_X9_isWell 12 [x0] st h := R_goto d_X9_isWell_8 (by decide)
theorem d_X9_isWell_11 : decode (mB M_X9_isWell) 11 = .ok (.iconst 0, 1) := by decide +kernel
theorem r_X9_isWell_11 {x0 : Value} {st : List Value} {h : AH} : Run M_X9_isWell 11 [x0] st h = Run M_X9_isWell 12 [x0] (.int (nI 0) :: st) h := R_iconst d_X9_isWell_11 (by decide)
theorem d_X9_isWell_12 : decode (mB M_X9_isWell) 12 = .ok (.ireturn, 1) := by decide +kernel
theorem r_X9_isWell_12_0 {x0 : Value} {h : AH} : Run M_X9_isWell 12 [x0] [.int (nI 0)] h = some (h, some (.int (nI 0))) := R_ireturn d_X9_isWell_12 rfl (by decide)
theorem r_X9_isWell_12_1 {x0 : Value} {h : AH} : Run M_X9_isWell 12 [x0] [.int (nI 1)] h = some (h, some (.int (nI 1))) := R_ireturn d_X9_isWell_12 rfl (by decide)
theorem r_X9_isWell_12_c {x0 : Value} {c : Prop} [Decidable c] {h : AH} : Run M_X9_isWell 12 [x0] [.int (bI c)] h = some (h, some (.int (bI c))) := R_ireturn d_X9_isWell_12 rfl narrow_bI
theorem d_X9_fails_0 : decode (mB M_X9_fails) 0 = .ok (.aload_n 0, 1) := by decide +kernel
theorem r_X9_fails_0 {x1 : Value} {a : Nat} {st : List Value} {h : AH} : Run M_X9_fails 0 [.ref a, x1] st h = Run M_X9_fails 1 [.ref a, x1] (.ref a :: st) h := R_aload_n d_X9_fails_0 rfl
theorem d_X9_fails_1 : decode (mB M_X9_fails) 1 = .ok (.invokevirtual 119, 3) := by decide +kernel
theorem r_X9_fails_1 {x0 x1 : Value} {a : Nat} {h : AH} : Run M_X9_fails 1 [x0, x1] (.ref a :: []) h = if refO h 9 (some (.ref a)) = true then (if (Call M_X9_isWell h [.ref a]).isSome = true then Run M_X9_fails 4 [x0, x1] (rL (Call M_X9_isWell h [.ref a]) ++ []) (cH (Call M_X9_isWell h [.ref a])) else none) else none := R_virt d_X9_fails_1 rfl rfl rfl rfl rfl (Nat.le_of_ble_eq_true rfl)
theorem d_X9_fails_4 : decode (mB M_X9_fails) 4 = .ok (.ifCond .eq 16, 3) := by decide +kernel
theorem r_X9_fails_4 {x0 x1 : Value} {x : Int32} {st : List Value} {h : AH} : Run M_X9_fails 4 [x0, x1] (.int x :: st) h = if x = nI 0 then Run M_X9_fails 20 [x0, x1] st h else Run M_X9_fails 7 [x0, x1] st h := R_if_eq d_X9_fails_4 (by decide)
theorem d_X9_fails_7 : decode (mB M_X9_fails) 7 = .ok (.aload_n 0, 1) := by decide +kernel
theorem r_X9_fails_7 {x1 : Value} {a : Nat} {st : List Value} {h : AH} : Run M_X9_fails 7 [.ref a, x1] st h = Run M_X9_fails 8 [.ref a, x1] (.ref a :: st) h := R_aload_n d_X9_fails_7 rfl
theorem d_X9_fails_8 : decode (mB M_X9_fails) 8 = .ok (.iload_n 1, 1) := by decide +kernel
theorem r_X9_fails_8 {x0 : Value} {a : Int32} {st : List Value} {h : AH} : Run M_X9_fails 8 [x0, .int a] st h = Run M_X9_fails 9 [x0, .int a] (.int a :: st) h := R_iload_n d_X9_fails_8 rfl
theorem d_X9_fails_9 : decode (mB M_X9_fails) 9 = .ok (.putfield 116, 3) := by decide +kernel
theorem r_X9_fails_9 {x0 x1 : Value} {v : Int32} {a : Nat} {st : List Value} {h : AH} : Run M_X9_fails 9 [x0, x1] (.int v :: .ref a :: st) h = if (pF h a 9 19 (.int v)).isSome = true then Run M_X9_fails 12 [x0, x1] st ((pF h a 9 19 (.int v)).getD h) else none := R_putfield d_X9_fails_9 rfl (okP_int rfl rfl)
theorem d_X9_fails_12 : decode (mB M_X9_fails) 12 = .ok (.aload_n 0, 1) := by decide +kernel
theorem r_X9_fails_12 {x1 : Value} {a : Nat} {st : List Value} {h : AH} : Run M_X9_fails 12 [.ref a, x1] st h = Run M_X9_fails 13 [.ref a, x1] (.ref a :: st) h := R_aload_n d_X9_fails_12 rfl
theorem d_X9_fails_13 : decode (mB M_X9_fails) 13 = .ok (.aload_n 0, 1) := by decide +kernel
theorem r_X9_fails_13 {x1 : Value} {a : Nat} {st : List Value} {h : AH} : Run M_X9_fails 13 [.ref a, x1] st h = Run M_X9_fails 14 [.ref a, x1] (.ref a :: st) h := R_aload_n d_X9_fails_13 rfl
theorem d_X9_fails_14 : decode (mB M_X9_fails) 14 = .ok (.getfield 104, 3) := by decide +kernel
theorem r_X9_fails_14 {x0 x1 : Value} {a : Nat} {st : List Value} {h : AH} : Run M_X9_fails 14 [x0, x1] (.ref a :: st) h = if (gF h a 9 15).isSome = true then Run M_X9_fails 17 [x0, x1] ((gF h a 9 15).getD .null :: st) h else none := R_getfield d_X9_fails_14 rfl
theorem d_X9_fails_17 : decode (mB M_X9_fails) 17 = .ok (.putfield 41, 3) := by decide +kernel
theorem r_X9_fails_17 {x0 x1 : Value} {v : Int32} {a : Nat} {st : List Value} {h : AH} : Run M_X9_fails 17 [x0, x1] (.int v :: .ref a :: st) h = if (pF h a 9 20 (.int v)).isSome = true then Run M_X9_fails 20 [x0, x1] st ((pF h a 9 20 (.int v)).getD h) else none := R_putfield d_X9_fails_17 rfl (okP_int rfl rfl)
theorem d_X9_fails_20 : decode (mB M_X9_fails) 20 = .ok (.return_, 1) := by decide +kernel
theorem r_X9_fails_20 {x0 x1 : Value} {h : AH} : Run M_X9_fails 20 [x0, x1] [] h = some (h, none) := R_return d_X9_fails_20 rfl
theorem d_X9_number_0 : decode (mB M_X9_number) 0 = .ok (.aload_n 0, 1) := by decide +kernel
theorem r_X9_number_0 {x1 x2 x3 x4 : Value} {a : Nat} {st : List Value} {h : AH} : Run M_X9_number 0 [.ref a, x1, x2, x3, x4] st h = Run M_X9_number 1 [.ref a, x1, x2, x3, x4] (.ref a :: st) h := R_aload_n d_X9_number_0 rfl
theorem d_X9_number_1 : decode (mB M_X9_number) 1 = .ok (.getfield 107, 3) := by decide +kernel
theorem r_X9_number_1 {x0 x1 x2 x3 x4 : Value} {a : Nat} {st : List Value} {h : AH} : Run M_X9_number 1 [x0, x1, x2, x3, x4] (.ref a :: st) h = if (gF h a 9 16).isSome = true then Run M_X9_number 4 [x0, x1, x2, x3, x4] ((gF h a 9 16).getD .null :: st) h else none := R_getfield d_X9_number_1 rfl
theorem d_X9_number_4 : decode (mB M_X9_number) 4 = .ok (.iconst 2, 1) := by decide +kernel
theorem r_X9_number_4 {x0 x1 x2 x3 x4 : Value} {st : List Value} {h : AH} : Run M_X9_number 4 [x0, x1, x2, x3, x4] st h = Run M_X9_number 5 [x0, x1, x2, x3, x4] (.int (nI 2) :: st) h := R_iconst d_X9_number_4 (by decide)
theorem d_X9_number_5 : decode (mB M_X9_number) 5 = .ok (.if_icmp .eq 11, 3) := by decide +kernel
theorem r_X9_number_5 {x0 x1 x2 x3 x4 : Value} {x y : Int32} {st : List Value} {h : AH} : Run M_X9_number 5 [x0, x1, x2, x3, x4] (.int y :: .int x :: st) h = if x = y then Run M_X9_number 16 [x0, x1, x2, x3, x4] st h else Run M_X9_number 8 [x0, x1, x2, x3, x4] st h := R_icmp_eq d_X9_number_5 (by decide)
theorem d_X9_number_8 : decode (mB M_X9_number) 8 = .ok (.aload_n 0, 1) := by decide +kernel
theorem r_X9_number_8 {x1 x2 x3 x4 : Value} {a : Nat} {st : List Value} {h : AH} : Run M_X9_number 8 [.ref a, x1, x2, x3, x4] st h = Run M_X9_number 9 [.ref a, x1, x2, x3, x4] (.ref a :: st) h := R_aload_n d_X9_number_8 rfl
theorem d_X9_number_9 : decode (mB M_X9_number) 9 = .ok (.iconst 1, 1) := by decide +kernel
theorem r_X9_number_9 {x0 x1 x2 x3 x4 : Value} {st : List Value} {h : AH} : Run M_X9_number 9 [x0, x1, x2, x3, x4] st h = Run M_X9_number 10 [x0, x1, x2, x3, x4] (.int (nI 1) :: st) h := R_iconst d_X9_number_9 (by decide)
theorem d_X9_number_10 : decode (mB M_X9_number) 10 = .ok (.invokevirtual 123, 3) := by decide +kernel
theorem r_X9_number_10 {x0 x1 x2 x3 x4 : Value} {p0 : Int32} {a : Nat} {h : AH} : Run M_X9_number 10 [x0, x1, x2, x3, x4] (.int p0 :: .ref a :: []) h = if refO h 9 (some (.ref a)) = true then (if (Call M_X9_fails h [.ref a, .int p0]).isSome = true then Run M_X9_number 13 [x0, x1, x2, x3, x4] (rL (Call M_X9_fails h [.ref a, .int p0]) ++ []) (cH (Call M_X9_fails h [.ref a, .int p0])) else none) else none := R_virt d_X9_number_10 rfl rfl rfl rfl rfl (Nat.le_of_ble_eq_true rfl)
theorem d_X9_number_13 : decode (mB M_X9_number) 13 = .ok (.goto 47, 3) := by decide +kernel
theorem r_X9_number_13 {x0 x1 x2 x3 x4 : Value} {st : List Value} {h : AH} : Run M_X9_number 13 [x0, x1, x2, x3, x4] st h = Run M_X9_number 60 [x0, x1, x2, x3, x4] st h := R_goto d_X9_number_13 (by decide)
theorem d_X9_number_16 : decode (mB M_X9_number) 16 = .ok (.aload_n 0, 1) := by decide +kernel
theorem r_X9_number_16 {x1 x2 x3 x4 : Value} {a : Nat} {st : List Value} {h : AH} : Run M_X9_number 16 [.ref a, x1, x2, x3, x4] st h = Run M_X9_number 17 [.ref a, x1, x2, x3, x4] (.ref a :: st) h := R_aload_n d_X9_number_16 rfl
theorem d_X9_number_17 : decode (mB M_X9_number) 17 = .ok (.getfield 113, 3) := by decide +kernel
theorem r_X9_number_17 {x0 x1 x2 x3 x4 : Value} {a : Nat} {st : List Value} {h : AH} : Run M_X9_number 17 [x0, x1, x2, x3, x4] (.ref a :: st) h = if (gF h a 9 18).isSome = true then Run M_X9_number 20 [x0, x1, x2, x3, x4] ((gF h a 9 18).getD .null :: st) h else none := R_getfield d_X9_number_17 rfl
theorem d_X9_number_20 : decode (mB M_X9_number) 20 = .ok (.iconst 3, 1) := by decide +kernel
theorem r_X9_number_20 {x0 x1 x2 x3 x4 : Value} {st : List Value} {h : AH} : Run M_X9_number 20 [x0, x1, x2, x3, x4] st h = Run M_X9_number 21 [x0, x1, x2, x3, x4] (.int (nI 3) :: st) h := R_iconst d_X9_number_20 (by decide)
theorem d_X9_number_21 : decode (mB M_X9_number) 21 = .ok (.if_icmp .gt 15, 3) := by decide +kernel
theorem r_X9_number_21 {x0 x1 x2 x3 x4 : Value} {x y : Int32} {st : List Value} {h : AH} : Run M_X9_number 21 [x0, x1, x2, x3, x4] (.int y :: .int x :: st) h = if y < x then Run M_X9_number 36 [x0, x1, x2, x3, x4] st h else Run M_X9_number 24 [x0, x1, x2, x3, x4] st h := R_icmp_gt d_X9_number_21 (by decide)
theorem d_X9_number_24 : decode (mB M_X9_number) 24 = .ok (.aload_n 0, 1) := by decide +kernel
theorem r_X9_number_24 {x1 x2 x3 x4 : Value} {a : Nat} {st : List Value} {h : AH} : Run M_X9_number 24 [.ref a, x1, x2, x3, x4] st h = Run M_X9_number 25 [.ref a, x1, x2, x3, x4] (.ref a :: st) h := R_aload_n d_X9_number_24 rfl
theorem d_X9_number_25 : decode (mB M_X9_number) 25 = .ok (.getfield 110, 3) := by decide +kernel
theorem r_X9_number_25 {x0 x1 x2 x3 x4 : Value} {a : Nat} {st : List Value} {h : AH} : Run M_X9_number 25 [x0, x1, x2, x3, x4] (.ref a :: st) h = if (gF h a 9 17).isSome = true then Run M_X9_number 28 [x0, x1, x2, x3, x4] ((gF h a 9 17).getD .null :: st) h else none := R_getfield d_X9_number_25 rfl
theorem d_X9_number_28 : decode (mB M_X9_number) 28 = .ok (.iload_n 1, 1) := by decide +kernel
theorem r_X9_number_28 {x0 x2 x3 x4 : Value} {a : Int32} {st : List Value} {h : AH} : Run M_X9_number 28 [x0, .int a, x2, x3, x4] st h = Run M_X9_number 29 [x0, .int a, x2, x3, x4] (.int a :: st) h := R_iload_n d_X9_number_28 rfl
theorem d_X9_number_29 : decode (mB M_X9_number) 29 = .ok (.iload_n 2, 1) := by decide +kernel
theorem r_X9_number_29 {x0 x1 x3 x4 : Value} {a : Int32} {st : List Value} {h : AH} : Run M_X9_number 29 [x0, x1, .int a, x3, x4] st h = Run M_X9_number 30 [x0, x1, .int a, x3, x4] (.int a :: st) h := R_iload_n d_X9_number_29 rfl
theorem d_X9_number_30 : decode (mB M_X9_number) 30 = .ok (.invokestatic 85, 3) := by decide +kernel
theorem r_X9_number_30 {x0 x1 x2 x3 x4 : Value} {p0 : Int32} {p1 : Int32} {p2 : Int32} {h : AH} : Run M_X9_number 30 [x0, x1, x2, x3, x4] (.int p2 :: .int p1 :: .int p0 :: []) h = if (Call M_X9_in h [.int p0, .int p1, .int p2]).isSome = true then Run M_X9_number 33 [x0, x1, x2, x3, x4] (rL (Call M_X9_in h [.int p0, .int p1, .int p2]) ++ []) (cH (Call M_X9_in h [.int p0, .int p1, .int p2])) else none := R_stat d_X9_number_30 rfl rfl rfl rfl (Nat.le_of_ble_eq_true rfl)
theorem d_X9_number_33 : decode (mB M_X9_number) 33 = .ok (.ifCond .ne 11, 3) := by decide +kernel
theorem r_X9_number_33 {x0 x1 x2 x3 x4 : Value} {x : Int32} {st : List Value} {h : AH} : Run M_X9_number 33 [x0, x1, x2, x3, x4] (.int x :: st) h = if x = nI 0 then Run M_X9_number 36 [x0, x1, x2, x3, x4] st h else Run M_X9_number 44 [x0, x1, x2, x3, x4] st h := R_if_ne d_X9_number_33 (by decide)
theorem d_X9_number_36 : decode (mB M_X9_number) 36 = .ok (.aload_n 0, 1) := by decide +kernel
theorem r_X9_number_36 {x1 x2 x3 x4 : Value} {a : Nat} {st : List Value} {h : AH} : Run M_X9_number 36 [.ref a, x1, x2, x3, x4] st h = Run M_X9_number 37 [.ref a, x1, x2, x3, x4] (.ref a :: st) h := R_aload_n d_X9_number_36 rfl
theorem d_X9_number_37 : decode (mB M_X9_number) 37 = .ok (.iconst 2, 1) := by decide +kernel
theorem r_X9_number_37 {x0 x1 x2 x3 x4 : Value} {st : List Value} {h : AH} : Run M_X9_number 37 [x0, x1, x2, x3, x4] st h = Run M_X9_number 38 [x0, x1, x2, x3, x4] (.int (nI 2) :: st) h := R_iconst d_X9_number_37 (by decide)
theorem d_X9_number_38 : decode (mB M_X9_number) 38 = .ok (.invokevirtual 123, 3) := by decide +kernel
theorem r_X9_number_38 {x0 x1 x2 x3 x4 : Value} {p0 : Int32} {a : Nat} {h : AH} : Run M_X9_number 38 [x0, x1, x2, x3, x4] (.int p0 :: .ref a :: []) h = if refO h 9 (some (.ref a)) = true then (if (Call M_X9_fails h [.ref a, .int p0]).isSome = true then Run M_X9_number 41 [x0, x1, x2, x3, x4] (rL (Call M_X9_fails h [.ref a, .int p0]) ++ []) (cH (Call M_X9_fails h [.ref a, .int p0])) else none) else none := R_virt d_X9_number_38 rfl rfl rfl rfl rfl (Nat.le_of_ble_eq_true rfl)
theorem d_X9_number_41 : decode (mB M_X9_number) 41 = .ok (.goto 19, 3) := by decide +kernel
theorem r_X9_number_41 {x0 x1 x2 x3 x4 : Value} {st : List Value} {h : AH} : Run M_X9_number 41 [x0, x1, x2, x3, x4] st h = Run M_X9_number 60 [x0, x1, x2, x3, x4] st h := R_goto d_X9_number_41 (by decide)
theorem d_X9_number_44 : decode (mB M_X9_number) 44 = .ok (.iload_n 3, 1) := by decide +kernel
theorem r_X9_number_44 {x0 x1 x2 x4 : Value} {a : Int32} {st : List Value} {h : AH} : Run M_X9_number 44 [x0, x1, x2, .int a, x4] st h = Run M_X9_number 45 [x0, x1, x2, .int a, x4] (.int a :: st) h := R_iload_n d_X9_number_44 rfl
theorem d_X9_number_45 : decode (mB M_X9_number) 45 = .ok (.ifCond .le 15, 3) := by decide +kernel
theorem r_X9_number_45 {x0 x1 x2 x3 x4 : Value} {x : Int32} {st : List Value} {h : AH} : Run M_X9_number 45 [x0, x1, x2, x3, x4] (.int x :: st) h = if x ≤ nI 0 then Run M_X9_number 60 [x0, x1, x2, x3, x4] st h else Run M_X9_number 48 [x0, x1, x2, x3, x4] st h := R_if_le d_X9_number_45 (by decide)
theorem d_X9_number_48 : decode (mB M_X9_number) 48 = .ok (.aload_n 0, 1) := by decide +kernel
theorem r_X9_number_48 {x1 x2 x3 x4 : Value} {a : Nat} {st : List Value} {h : AH} : Run M_X9_number 48 [.ref a, x1, x2, x3, x4] st h = Run M_X9_number 49 [.ref a, x1, x2, x3, x4] (.ref a :: st) h := R_aload_n d_X9_number_48 rfl
theorem d_X9_number_49 : decode (mB M_X9_number) 49 = .ok (.getfield 110, 3) := by decide +kernel
theorem r_X9_number_49 {x0 x1 x2 x3 x4 : Value} {a : Nat} {st : List Value} {h : AH} : Run M_X9_number 49 [x0, x1, x2, x3, x4] (.ref a :: st) h = if (gF h a 9 17).isSome = true then Run M_X9_number 52 [x0, x1, x2, x3, x4] ((gF h a 9 17).getD .null :: st) h else none := R_getfield d_X9_number_49 rfl
theorem d_X9_number_52 : decode (mB M_X9_number) 52 = .ok (.ifCond .le 8, 3) := by decide +kernel
theorem r_X9_number_52 {x0 x1 x2 x3 x4 : Value} {x : Int32} {st : List Value} {h : AH} : Run M_X9_number 52 [x0, x1, x2, x3, x4] (.int x :: st) h = if x ≤ nI 0 then Run M_X9_number 60 [x0, x1, x2, x3, x4] st h else Run M_X9_number 55 [x0, x1, x2, x3, x4] st h := R_if_le d_X9_number_52 (by decide)
theorem d_X9_number_55 : decode (mB M_X9_number) 55 = .ok (.aload_n 0, 1) := by decide +kernel
theorem r_X9_number_55 {x1 x2 x3 x4 : Value} {a : Nat} {st : List Value} {h : AH} : Run M_X9_number 55 [.ref a, x1, x2, x3, x4] st h = Run M_X9_number 56 [.ref a, x1, x2, x3, x4] (.ref a :: st) h := R_aload_n d_X9_number_55 rfl
theorem d_X9_number_56 : decode (mB M_X9_number) 56 = .ok (.iload_n 3, 1) := by decide +kernel
theorem r_X9_number_56 {x0 x1 x2 x4 : Value} {a : Int32} {st : List Value} {h : AH} : Run M_X9_number 56 [x0, x1, x2, .int a, x4] st h = Run M_X9_number 57 [x0, x1, x2, .int a, x4] (.int a :: st) h := R_iload_n d_X9_number_56 rfl
theorem d_X9_number_57 : decode (mB M_X9_number) 57 = .ok (.invokevirtual 123, 3) := by decide +kernel
theorem r_X9_number_57 {x0 x1 x2 x3 x4 : Value} {p0 : Int32} {a : Nat} {h : AH} : Run M_X9_number 57 [x0, x1, x2, x3, x4] (.int p0 :: .ref a :: []) h = if refO h 9 (some (.ref a)) = true then (if (Call M_X9_fails h [.ref a, .int p0]).isSome = true then Run M_X9_number 60 [x0, x1, x2, x3, x4] (rL (Call M_X9_fails h [.ref a, .int p0]) ++ []) (cH (Call M_X9_fails h [.ref a, .int p0])) else none) else none := R_virt d_X9_number_57 rfl rfl rfl rfl rfl (Nat.le_of_ble_eq_true rfl)
theorem d_X9_number_60 : decode (mB M_X9_number) 60 = .ok (.aload_n 0, 1) := by decide +kernel
theorem r_X9_number_60 {x1 x2 x3 x4 : Value} {a : Nat} {st : List Value} {h : AH} : Run M_X9_number 60 [.ref a, x1, x2, x3, x4] st h = Run M_X9_number 61 [.ref a, x1, x2, x3, x4] (.ref a :: st) h := R_aload_n d_X9_number_60 rfl
theorem d_X9_number_61 : decode (mB M_X9_number) 61 = .ok (.invokevirtual 119, 3) := by decide +kernel
theorem r_X9_number_61 {x0 x1 x2 x3 x4 : Value} {a : Nat} {h : AH} : Run M_X9_number 61 [x0, x1, x2, x3, x4] (.ref a :: []) h = if refO h 9 (some (.ref a)) = true then (if (Call M_X9_isWell h [.ref a]).isSome = true then Run M_X9_number 64 [x0, x1, x2, x3, x4] (rL (Call M_X9_isWell h [.ref a]) ++ []) (cH (Call M_X9_isWell h [.ref a])) else none) else none := R_virt d_X9_number_61 rfl rfl rfl rfl rfl (Nat.le_of_ble_eq_true rfl)
theorem d_X9_number_64 : decode (mB M_X9_number) 64 = .ok (.ifCond .eq 10, 3) := by decide +kernel
theorem r_X9_number_64 {x0 x1 x2 x3 x4 : Value} {x : Int32} {st : List Value} {h : AH} : Run M_X9_number 64 [x0, x1, x2, x3, x4] (.int x :: st) h = if x = nI 0 then Run M_X9_number 74 [x0, x1, x2, x3, x4] st h else Run M_X9_number 67 [x0, x1, x2, x3, x4] st h := R_if_eq d_X9_number_64 (by decide)
theorem d_X9_number_67 : decode (mB M_X9_number) 67 = .ok (.aload_n 0, 1) := by decide +kernel
theorem r_X9_number_67 {x1 x2 x3 x4 : Value} {a : Nat} {st : List Value} {h : AH} : Run M_X9_number 67 [.ref a, x1, x2, x3, x4] st h = Run M_X9_number 68 [.ref a, x1, x2, x3, x4] (.ref a :: st) h := R_aload_n d_X9_number_67 rfl
theorem d_X9_number_68 : decode (mB M_X9_number) 68 = .ok (.getfield 110, 3) := by decide +kernel
theorem r_X9_number_68 {x0 x1 x2 x3 x4 : Value} {a : Nat} {st : List Value} {h : AH} : Run M_X9_number 68 [x0, x1, x2, x3, x4] (.ref a :: st) h = if (gF h a 9 17).isSome = true then Run M_X9_number 71 [x0, x1, x2, x3, x4] ((gF h a 9 17).getD .null :: st) h else none := R_getfield d_X9_number_68 rfl
theorem d_X9_number_71 : decode (mB M_X9_number) 71 = .ok (.goto 4, 3) := by decide +kernel
theorem r_X9_number_71 {x0 x1 x2 x3 x4 : Value} {st : List Value} {h : AH} : Run M_X9_number 71 [x0, x1, x2, x3, x4] st h = Run M_X9_number 75 [x0, x1, x2, x3, x4] st h := R_goto d_X9_number_71 (by decide)
theorem d_X9_number_74 : decode (mB M_X9_number) 74 = .ok (.iload_n 1, 1) := by decide +kernel
theorem r_X9_number_74 {x0 x2 x3 x4 : Value} {a : Int32} {st : List Value} {h : AH} : Run M_X9_number 74 [x0, .int a, x2, x3, x4] st h = Run M_X9_number 75 [x0, .int a, x2, x3, x4] (.int a :: st) h := R_iload_n d_X9_number_74 rfl
theorem d_X9_number_75 : decode (mB M_X9_number) 75 = .ok (.istore 4, 2) := by decide +kernel
theorem r_X9_number_75 {x0 x1 x2 x3 x4 : Value} {a : Int32} {st : List Value} {h : AH} (hc : x3.category = 1) : Run M_X9_number 75 [x0, x1, x2, x3, x4] (.int a :: st) h = Run M_X9_number 77 [x0, x1, x2, x3, .int a] st h := R_istore d_X9_number_75 (Nat.lt_of_lt_of_le (by decide : 4 < 5) (Nat.le_refl 5)) (catP_of rfl hc)
theorem d_X9_number_77 : decode (mB M_X9_number) 77 = .ok (.aload_n 0, 1) := by decide +kernel
theorem r_X9_number_77 {x1 x2 x3 x4 : Value} {a : Nat} {st : List Value} {h : AH} : Run M_X9_number 77 [.ref a, x1, x2, x3, x4] st h = Run M_X9_number 78 [.ref a, x1, x2, x3, x4] (.ref a :: st) h := R_aload_n d_X9_number_77 rfl
theorem d_X9_number_78 : decode (mB M_X9_number) 78 = .ok (.invokevirtual 119, 3) := by decide +kernel
theorem r_X9_number_78 {x0 x1 x2 x3 x4 : Value} {a : Nat} {h : AH} : Run M_X9_number 78 [x0, x1, x2, x3, x4] (.ref a :: []) h = if refO h 9 (some (.ref a)) = true then (if (Call M_X9_isWell h [.ref a]).isSome = true then Run M_X9_number 81 [x0, x1, x2, x3, x4] (rL (Call M_X9_isWell h [.ref a]) ++ []) (cH (Call M_X9_isWell h [.ref a])) else none) else none := R_virt d_X9_number_78 rfl rfl rfl rfl rfl (Nat.le_of_ble_eq_true rfl)
theorem d_X9_number_81 : decode (mB M_X9_number) 81 = .ok (.ifCond .eq 7, 3) := by decide +kernel
theorem r_X9_number_81 {x0 x1 x2 x3 x4 : Value} {x : Int32} {st : List Value} {h : AH} : Run M_X9_number 81 [x0, x1, x2, x3, x4] (.int x :: st) h = if x = nI 0 then Run M_X9_number 88 [x0, x1, x2, x3, x4] st h else Run M_X9_number 84 [x0, x1, x2, x3, x4] st h := R_if_eq d_X9_number_81 (by decide)
theorem d_X9_number_84 : decode (mB M_X9_number) 84 = .ok (.aload_n 0, 1) := by decide +kernel
theorem r_X9_number_84 {x1 x2 x3 x4 : Value} {a : Nat} {st : List Value} {h : AH} : Run M_X9_number 84 [.ref a, x1, x2, x3, x4] st h = Run M_X9_number 85 [.ref a, x1, x2, x3, x4] (.ref a :: st) h := R_aload_n d_X9_number_84 rfl
theorem d_X9_number_85 : decode (mB M_X9_number) 85 = .ok (.invokevirtual 127, 3) := by decide +kernel
theorem r_X9_number_85 {x0 x1 x2 x3 x4 : Value} {a : Nat} {h : AH} : Run M_X9_number 85 [x0, x1, x2, x3, x4] (.ref a :: []) h = if refO h 9 (some (.ref a)) = true then (if (Call M_X9_next h [.ref a]).isSome = true then Run M_X9_number 88 [x0, x1, x2, x3, x4] (rL (Call M_X9_next h [.ref a]) ++ []) (cH (Call M_X9_next h [.ref a])) else none) else none := R_virt d_X9_number_85 rfl rfl rfl rfl rfl (Nat.le_of_ble_eq_true rfl)
theorem d_X9_number_88 : decode (mB M_X9_number) 88 = .ok (.iload 4, 2) := by decide +kernel
theorem r_X9_number_88 {x0 x1 x2 x3 : Value} {a : Int32} {st : List Value} {h : AH} : Run M_X9_number 88 [x0, x1, x2, x3, .int a] st h = Run M_X9_number 90 [x0, x1, x2, x3, .int a] (.int a :: st) h := R_iload d_X9_number_88 rfl
theorem d_X9_number_90 : decode (mB M_X9_number) 90 = .ok (.ireturn, 1) := by decide +kernel
theorem r_X9_number_90 {x0 x1 x2 x3 x4 : Value} {v : Int32} {h : AH} : Run M_X9_number 90 [x0, x1, x2, x3, x4] [.int v] h = some (h, some (.int v)) := R_ireturn d_X9_number_90 rfl rfl
theorem d_X9_stops_0 : decode (mB M_X9_stops) 0 = .ok (.aload_n 0, 1) := by decide +kernel
theorem r_X9_stops_0 {a : Nat} {st : List Value} {h : AH} : Run M_X9_stops 0 [.ref a] st h = Run M_X9_stops 1 [.ref a] (.ref a :: st) h := R_aload_n d_X9_stops_0 rfl
theorem d_X9_stops_1 : decode (mB M_X9_stops) 1 = .ok (.getfield 107, 3) := by decide +kernel
theorem r_X9_stops_1 {x0 : Value} {a : Nat} {st : List Value} {h : AH} : Run M_X9_stops 1 [x0] (.ref a :: st) h = if (gF h a 9 16).isSome = true then Run M_X9_stops 4 [x0] ((gF h a 9 16).getD .null :: st) h else none := R_getfield d_X9_stops_1 rfl
theorem d_X9_stops_4 : decode (mB M_X9_stops) 4 = .ok (.iconst 3, 1) := by decide +kernel
theorem r_X9_stops_4 {x0 : Value} {st : List Value} {h : AH} : Run M_X9_stops 4 [x0] st h = Run M_X9_stops 5 [x0] (.int (nI 3) :: st) h := R_iconst d_X9_stops_4 (by decide)
theorem d_X9_stops_5 : decode (mB M_X9_stops) 5 = .ok (.if_icmp .eq 8, 3) := by decide +kernel
theorem r_X9_stops_5 {x0 : Value} {x y : Int32} {st : List Value} {h : AH} : Run M_X9_stops 5 [x0] (.int y :: .int x :: st) h = if x = y then Run M_X9_stops 13 [x0] st h else Run M_X9_stops 8 [x0] st h := R_icmp_eq d_X9_stops_5 (by decide)
theorem d_X9_stops_8 : decode (mB M_X9_stops) 8 = .ok (.aload_n 0, 1) := by decide +kernel
theorem r_X9_stops_8 {a : Nat} {st : List Value} {h : AH} : Run M_X9_stops 8 [.ref a] st h = Run M_X9_stops 9 [.ref a] (.ref a :: st) h := R_aload_n d_X9_stops_8 rfl
theorem d_X9_stops_9 : decode (mB M_X9_stops) 9 = .ok (.iconst 1, 1) := by decide +kernel
theorem r_X9_stops_9 {x0 : Value} {st : List Value} {h : AH} : Run M_X9_stops 9 [x0] st h = Run M_X9_stops 10 [x0] (.int (nI 1) :: st) h := R_iconst d_X9_stops_9 (by decide)
theorem d_X9_stops_10 : decode (mB M_X9_stops) 10 = .ok (.invokevirtual 123, 3) := by decide +kernel
theorem r_X9_stops_10 {x0 : Value} {p0 : Int32} {a : Nat} {h : AH} : Run M_X9_stops 10 [x0] (.int p0 :: .ref a :: []) h = if refO h 9 (some (.ref a)) = true then (if (Call M_X9_fails h [.ref a, .int p0]).isSome = true then Run M_X9_stops 13 [x0] (rL (Call M_X9_fails h [.ref a, .int p0]) ++ []) (cH (Call M_X9_fails h [.ref a, .int p0])) else none) else none := R_virt d_X9_stops_10 rfl rfl rfl rfl rfl (Nat.le_of_ble_eq_true rfl)
theorem d_X9_stops_13 : decode (mB M_X9_stops) 13 = .ok (.aload_n 0, 1) := by decide +kernel
theorem r_X9_stops_13 {a : Nat} {st : List Value} {h : AH} : Run M_X9_stops 13 [.ref a] st h = Run M_X9_stops 14 [.ref a] (.ref a :: st) h := R_aload_n d_X9_stops_13 rfl
theorem d_X9_stops_14 : decode (mB M_X9_stops) 14 = .ok (.invokevirtual 119, 3) := by decide +kernel
theorem r_X9_stops_14 {x0 : Value} {a : Nat} {h : AH} : Run M_X9_stops 14 [x0] (.ref a :: []) h = if refO h 9 (some (.ref a)) = true then (if (Call M_X9_isWell h [.ref a]).isSome = true then Run M_X9_stops 17 [x0] (rL (Call M_X9_isWell h [.ref a]) ++ []) (cH (Call M_X9_isWell h [.ref a])) else none) else none := R_virt d_X9_stops_14 rfl rfl rfl rfl rfl (Nat.le_of_ble_eq_true rfl)
theorem d_X9_stops_17 : decode (mB M_X9_stops) 17 = .ok (.ifCond .eq 7, 3) := by decide +kernel
theorem r_X9_stops_17 {x0 : Value} {x : Int32} {st : List Value} {h : AH} : Run M_X9_stops 17 [x0] (.int x :: st) h = if x = nI 0 then Run M_X9_stops 24 [x0] st h else Run M_X9_stops 20 [x0] st h := R_if_eq d_X9_stops_17 (by decide)
theorem d_X9_stops_20 : decode (mB M_X9_stops) 20 = .ok (.aload_n 0, 1) := by decide +kernel
theorem r_X9_stops_20 {a : Nat} {st : List Value} {h : AH} : Run M_X9_stops 20 [.ref a] st h = Run M_X9_stops 21 [.ref a] (.ref a :: st) h := R_aload_n d_X9_stops_20 rfl
theorem d_X9_stops_21 : decode (mB M_X9_stops) 21 = .ok (.invokevirtual 127, 3) := by decide +kernel
theorem r_X9_stops_21 {x0 : Value} {a : Nat} {h : AH} : Run M_X9_stops 21 [x0] (.ref a :: []) h = if refO h 9 (some (.ref a)) = true then (if (Call M_X9_next h [.ref a]).isSome = true then Run M_X9_stops 24 [x0] (rL (Call M_X9_next h [.ref a]) ++ []) (cH (Call M_X9_next h [.ref a])) else none) else none := R_virt d_X9_stops_21 rfl rfl rfl rfl rfl (Nat.le_of_ble_eq_true rfl)
theorem d_X9_stops_24 : decode (mB M_X9_stops) 24 = .ok (.return_, 1) := by decide +kernel
theorem r_X9_stops_24 {x0 : Value} {h : AH} : Run M_X9_stops 24 [x0] [] h = some (h, none) := R_return d_X9_stops_24 rfl
theorem d_X9_begins_0 : decode (mB M_X9_begins) 0 = .ok (.iload_n 1, 1) := by decide +kernel
theorem r_X9_begins_0 {x0 x2 : Value} {a : Int32} {st : List Value} {h : AH} : Run M_X9_begins 0 [x0, .int a, x2] st h = Run M_X9_begins 1 [x0, .int a, x2] (.int a :: st) h := R_iload_n d_X9_begins_0 rfl
theorem d_X9_begins_1 : decode (mB M_X9_begins) 1 = .ok (.ifCond .eq 11, 3) := by decide +kernel
theorem r_X9_begins_1 {x0 x1 x2 : Value} {x : Int32} {st : List Value} {h : AH} : Run M_X9_begins 1 [x0, x1, x2] (.int x :: st) h = if x = nI 0 then Run M_X9_begins 12 [x0, x1, x2] st h else Run M_X9_begins 4 [x0, x1, x2] st h := R_if_eq d_X9_begins_1 (by decide)
theorem d_X9_begins_4 : decode (mB M_X9_begins) 4 = .ok (.aload_n 0, 1) := by decide +kernel
theorem r_X9_begins_4 {x1 x2 : Value} {a : Nat} {st : List Value} {h : AH} : Run M_X9_begins 4 [.ref a, x1, x2] st h = Run M_X9_begins 5 [.ref a, x1, x2] (.ref a :: st) h := R_aload_n d_X9_begins_4 rfl
theorem d_X9_begins_5 : decode (mB M_X9_begins) 5 = .ok (.iconst 3, 1) := by decide +kernel
theorem r_X9_begins_5 {x0 x1 x2 : Value} {st : List Value} {h : AH} : Run M_X9_begins 5 [x0, x1, x2] st h = Run M_X9_begins 6 [x0, x1, x2] (.int (nI 3) :: st) h := R_iconst d_X9_begins_5 (by decide)
theorem d_X9_begins_6 : decode (mB M_X9_begins) 6 = .ok (.invokevirtual 123, 3) := by decide +kernel
theorem r_X9_begins_6 {x0 x1 x2 : Value} {p0 : Int32} {a : Nat} {h : AH} : Run M_X9_begins 6 [x0, x1, x2] (.int p0 :: .ref a :: []) h = if refO h 9 (some (.ref a)) = true then (if (Call M_X9_fails h [.ref a, .int p0]).isSome = true then Run M_X9_begins 9 [x0, x1, x2] (rL (Call M_X9_fails h [.ref a, .int p0]) ++ []) (cH (Call M_X9_fails h [.ref a, .int p0])) else none) else none := R_virt d_X9_begins_6 rfl rfl rfl rfl rfl (Nat.le_of_ble_eq_true rfl)
theorem d_X9_begins_9 : decode (mB M_X9_begins) 9 = .ok (.goto 19, 3) := by decide +kernel
theorem r_X9_begins_9 {x0 x1 x2 : Value} {st : List Value} {h : AH} : Run M_X9_begins 9 [x0, x1, x2] st h = Run M_X9_begins 28 [x0, x1, x2] st h := R_goto d_X9_begins_9 (by decide)
theorem d_X9_begins_12 : decode (mB M_X9_begins) 12 = .ok (.iload_n 2, 1) := by decide +kernel
theorem r_X9_begins_12 {x0 x1 : Value} {a : Int32} {st : List Value} {h : AH} : Run M_X9_begins 12 [x0, x1, .int a] st h = Run M_X9_begins 13 [x0, x1, .int a] (.int a :: st) h := R_iload_n d_X9_begins_12 rfl
theorem d_X9_begins_13 : decode (mB M_X9_begins) 13 = .ok (.ifCond .eq 11, 3) := by decide +kernel
theorem r_X9_begins_13 {x0 x1 x2 : Value} {x : Int32} {st : List Value} {h : AH} : Run M_X9_begins 13 [x0, x1, x2] (.int x :: st) h = if x = nI 0 then Run M_X9_begins 24 [x0, x1, x2] st h else Run M_X9_begins 16 [x0, x1, x2] st h := R_if_eq d_X9_begins_13 (by decide)
theorem d_X9_begins_16 : decode (mB M_X9_begins) 16 = .ok (.aload_n 0, 1) := by decide +kernel
theorem r_X9_begins_16 {x1 x2 : Value} {a : Nat} {st : List Value} {h : AH} : Run M_X9_begins 16 [.ref a, x1, x2] st h = Run M_X9_begins 17 [.ref a, x1, x2] (.ref a :: st) h := R_aload_n d_X9_begins_16 rfl
theorem d_X9_begins_17 : decode (mB M_X9_begins) 17 = .ok (.iconst 4, 1) := by decide +kernel
theorem r_X9_begins_17 {x0 x1 x2 : Value} {st : List Value} {h : AH} : Run M_X9_begins 17 [x0, x1, x2] st h = Run M_X9_begins 18 [x0, x1, x2] (.int (nI 4) :: st) h := R_iconst d_X9_begins_17 (by decide)
theorem d_X9_begins_18 : decode (mB M_X9_begins) 18 = .ok (.invokevirtual 123, 3) := by decide +kernel
theorem r_X9_begins_18 {x0 x1 x2 : Value} {p0 : Int32} {a : Nat} {h : AH} : Run M_X9_begins 18 [x0, x1, x2] (.int p0 :: .ref a :: []) h = if refO h 9 (some (.ref a)) = true then (if (Call M_X9_fails h [.ref a, .int p0]).isSome = true then Run M_X9_begins 21 [x0, x1, x2] (rL (Call M_X9_fails h [.ref a, .int p0]) ++ []) (cH (Call M_X9_fails h [.ref a, .int p0])) else none) else none := R_virt d_X9_begins_18 rfl rfl rfl rfl rfl (Nat.le_of_ble_eq_true rfl)
theorem d_X9_begins_21 : decode (mB M_X9_begins) 21 = .ok (.goto 7, 3) := by decide +kernel
theorem r_X9_begins_21 {x0 x1 x2 : Value} {st : List Value} {h : AH} : Run M_X9_begins 21 [x0, x1, x2] st h = Run M_X9_begins 28 [x0, x1, x2] st h := R_goto d_X9_begins_21 (by decide)
theorem d_X9_begins_24 : decode (mB M_X9_begins) 24 = .ok (.aload_n 0, 1) := by decide +kernel
theorem r_X9_begins_24 {x1 x2 : Value} {a : Nat} {st : List Value} {h : AH} : Run M_X9_begins 24 [.ref a, x1, x2] st h = Run M_X9_begins 25 [.ref a, x1, x2] (.ref a :: st) h := R_aload_n d_X9_begins_24 rfl
theorem d_X9_begins_25 : decode (mB M_X9_begins) 25 = .ok (.invokevirtual 127, 3) := by decide +kernel
theorem r_X9_begins_25 {x0 x1 x2 : Value} {a : Nat} {h : AH} : Run M_X9_begins 25 [x0, x1, x2] (.ref a :: []) h = if refO h 9 (some (.ref a)) = true then (if (Call M_X9_next h [.ref a]).isSome = true then Run M_X9_begins 28 [x0, x1, x2] (rL (Call M_X9_next h [.ref a]) ++ []) (cH (Call M_X9_next h [.ref a])) else none) else none := R_virt d_X9_begins_25 rfl rfl rfl rfl rfl (Nat.le_of_ble_eq_true rfl)
theorem d_X9_begins_28 : decode (mB M_X9_begins) 28 = .ok (.aload_n 0, 1) := by decide +kernel
theorem r_X9_begins_28 {x1 x2 : Value} {a : Nat} {st : List Value} {h : AH} : Run M_X9_begins 28 [.ref a, x1, x2] st h = Run M_X9_begins 29 [.ref a, x1, x2] (.ref a :: st) h := R_aload_n d_X9_begins_28 rfl
theorem d_X9_begins_29 : decode (mB M_X9_begins) 29 = .ok (.invokevirtual 119, 3) := by decide +kernel
theorem r_X9_begins_29 {x0 x1 x2 : Value} {a : Nat} {h : AH} : Run M_X9_begins 29 [x0, x1, x2] (.ref a :: []) h = if refO h 9 (some (.ref a)) = true then (if (Call M_X9_isWell h [.ref a]).isSome = true then Run M_X9_begins 32 [x0, x1, x2] (rL (Call M_X9_isWell h [.ref a]) ++ []) (cH (Call M_X9_isWell h [.ref a])) else none) else none := R_virt d_X9_begins_29 rfl rfl rfl rfl rfl (Nat.le_of_ble_eq_true rfl)
theorem d_X9_begins_32 : decode (mB M_X9_begins) 32 = .ok (.ireturn, 1) := by decide +kernel
theorem r_X9_begins_32_0 {x0 x1 x2 : Value} {h : AH} : Run M_X9_begins 32 [x0, x1, x2] [.int (nI 0)] h = some (h, some (.int (nI 0))) := R_ireturn d_X9_begins_32 rfl (by decide)
theorem r_X9_begins_32_1 {x0 x1 x2 : Value} {h : AH} : Run M_X9_begins 32 [x0, x1, x2] [.int (nI 1)] h = some (h, some (.int (nI 1))) := R_ireturn d_X9_begins_32 rfl (by decide)
theorem r_X9_begins_32_c {x0 x1 x2 : Value} {c : Prop} [Decidable c] {h : AH} : Run M_X9_begins 32 [x0, x1, x2] [.int (bI c)] h = some (h, some (.int (bI c))) := R_ireturn d_X9_begins_32 rfl narrow_bI
theorem d_X9_readPart_0 : decode (mB M_X9_readPart) 0 = .ok (.aload_n 0, 1) := by decide +kernel
theorem r_X9_readPart_0 {x1 : Value} {a : Nat} {st : List Value} {h : AH} : Run M_X9_readPart 0 [.ref a, x1] st h = Run M_X9_readPart 1 [.ref a, x1] (.ref a :: st) h := R_aload_n d_X9_readPart_0 rfl
theorem d_X9_readPart_1 : decode (mB M_X9_readPart) 1 = .ok (.aload_n 0, 1) := by decide +kernel
theorem r_X9_readPart_1 {x1 : Value} {a : Nat} {st : List Value} {h : AH} : Run M_X9_readPart 1 [.ref a, x1] st h = Run M_X9_readPart 2 [.ref a, x1] (.ref a :: st) h := R_aload_n d_X9_readPart_1 rfl
theorem d_X9_readPart_2 : decode (mB M_X9_readPart) 2 = .ok (.getfield 130, 3) := by decide +kernel
theorem r_X9_readPart_2 {x0 x1 : Value} {a : Nat} {st : List Value} {h : AH} : Run M_X9_readPart 2 [x0, x1] (.ref a :: st) h = if (gF h a 9 21).isSome = true then Run M_X9_readPart 5 [x0, x1] ((gF h a 9 21).getD .null :: st) h else none := R_getfield d_X9_readPart_2 rfl
theorem d_X9_readPart_5 : decode (mB M_X9_readPart) 5 = .ok (.bipush 7, 2) := by decide +kernel
theorem r_X9_readPart_5 {x0 x1 : Value} {st : List Value} {h : AH} : Run M_X9_readPart 5 [x0, x1] st h = Run M_X9_readPart 7 [x0, x1] (.int (nI 7) :: st) h := R_bipush d_X9_readPart_5 (by decide)
theorem d_X9_readPart_7 : decode (mB M_X9_readPart) 7 = .ok (.if_icmp .ne 7, 3) := by decide +kernel
theorem r_X9_readPart_7 {x0 x1 : Value} {x y : Int32} {st : List Value} {h : AH} : Run M_X9_readPart 7 [x0, x1] (.int y :: .int x :: st) h = if x = y then Run M_X9_readPart 10 [x0, x1] st h else Run M_X9_readPart 14 [x0, x1] st h := R_icmp_ne d_X9_readPart_7 (by decide)
theorem d_X9_readPart_10 : decode (mB M_X9_readPart) 10 = .ok (.iconst 1, 1) := by decide +kernel
theorem r_X9_readPart_10 {x0 x1 : Value} {st : List Value} {h : AH} : Run M_X9_readPart 10 [x0, x1] st h = Run M_X9_readPart 11 [x0, x1] (.int (nI 1) :: st) h := R_iconst d_X9_readPart_10 (by decide)
theorem d_X9_readPart_11 : decode (mB M_X9_readPart) 11 = .ok (.goto 4, 3) := by decide +kernel
theorem r_X9_readPart_11 {x0 x1 : Value} {st : List Value} {h : AH} : Run M_X9_readPart 11 [x0, x1] st h = Run M_X9_readPart 15 [x0, x1] st h := R_goto d_X9_readPart_11 (by decide)
theorem d_X9_readPart_14 : decode (mB M_X9_readPart) 14 = .ok (.iconst 0, 1) := by decide +kernel
theorem r_X9_readPart_14 {x0 x1 : Value} {st : List Value} {h : AH} : Run M_X9_readPart 14 [x0, x1] st h = Run M_X9_readPart 15 [x0, x1] (.int (nI 0) :: st) h := R_iconst d_X9_readPart_14 (by decide)
theorem d_X9_readPart_15 : decode (mB M_X9_readPart) 15 = .ok (.aload_n 0, 1) := by decide +kernel
theorem r_X9_readPart_15 {x1 : Value} {a : Nat} {st : List Value} {h : AH} : Run M_X9_readPart 15 [.ref a, x1] st h = Run M_X9_readPart 16 [.ref a, x1] (.ref a :: st) h := R_aload_n d_X9_readPart_15 rfl
theorem d_X9_readPart_16 : decode (mB M_X9_readPart) 16 = .ok (.getfield 130, 3) := by decide +kernel
theorem r_X9_readPart_16 {x0 x1 : Value} {a : Nat} {st : List Value} {h : AH} : Run M_X9_readPart 16 [x0, x1] (.ref a :: st) h = if (gF h a 9 21).isSome = true then Run M_X9_readPart 19 [x0, x1] ((gF h a 9 21).getD .null :: st) h else none := R_getfield d_X9_readPart_16 rfl
theorem d_X9_readPart_19 : decode (mB M_X9_readPart) 19 = .ok (.ifCond .le 26, 3) := by decide +kernel
theorem r_X9_readPart_19 {x0 x1 : Value} {x : Int32} {st : List Value} {h : AH} : Run M_X9_readPart 19 [x0, x1] (.int x :: st) h = if x ≤ nI 0 then Run M_X9_readPart 45 [x0, x1] st h else Run M_X9_readPart 22 [x0, x1] st h := R_if_le d_X9_readPart_19 (by decide)
theorem d_X9_readPart_22 : decode (mB M_X9_readPart) 22 = .ok (.aload_n 0, 1) := by decide +kernel
theorem r_X9_readPart_22 {x1 : Value} {a : Nat} {st : List Value} {h : AH} : Run M_X9_readPart 22 [.ref a, x1] st h = Run M_X9_readPart 23 [.ref a, x1] (.ref a :: st) h := R_aload_n d_X9_readPart_22 rfl
theorem d_X9_readPart_23 : decode (mB M_X9_readPart) 23 = .ok (.getfield 45, 3) := by decide +kernel
theorem r_X9_readPart_23 {x0 x1 : Value} {a : Nat} {st : List Value} {h : AH} : Run M_X9_readPart 23 [x0, x1] (.ref a :: st) h = if (gF h a 9 22).isSome = true then Run M_X9_readPart 26 [x0, x1] ((gF h a 9 22).getD .null :: st) h else none := R_getfield d_X9_readPart_23 rfl
theorem d_X9_readPart_26 : decode (mB M_X9_readPart) 26 = .ok (.aload_n 0, 1) := by decide +kernel
theorem r_X9_readPart_26 {x1 : Value} {a : Nat} {st : List Value} {h : AH} : Run M_X9_readPart 26 [.ref a, x1] st h = Run M_X9_readPart 27 [.ref a, x1] (.ref a :: st) h := R_aload_n d_X9_readPart_26 rfl
theorem d_X9_readPart_27 : decode (mB M_X9_readPart) 27 = .ok (.getfield 130, 3) := by decide +kernel
theorem r_X9_readPart_27 {x0 x1 : Value} {a : Nat} {st : List Value} {h : AH} : Run M_X9_readPart 27 [x0, x1] (.ref a :: st) h = if (gF h a 9 21).isSome = true then Run M_X9_readPart 30 [x0, x1] ((gF h a 9 21).getD .null :: st) h else none := R_getfield d_X9_readPart_27 rfl
theorem d_X9_readPart_30 : decode (mB M_X9_readPart) 30 = .ok (.iconst 1, 1) := by decide +kernel
theorem r_X9_readPart_30 {x0 x1 : Value} {st : List Value} {h : AH} : Run M_X9_readPart 30 [x0, x1] st h = Run M_X9_readPart 31 [x0, x1] (.int (nI 1) :: st) h := R_iconst d_X9_readPart_30 (by decide)
theorem d_X9_readPart_31 : decode (mB M_X9_readPart) 31 = .ok (.isub, 1) := by decide +kernel
theorem r_X9_readPart_31 {x0 x1 : Value} {x y : Int32} {st : List Value} {h : AH} : Run M_X9_readPart 31 [x0, x1] (.int y :: .int x :: st) h = Run M_X9_readPart 32 [x0, x1] (.int (x - y) :: st) h := R_isub d_X9_readPart_31
theorem d_X9_readPart_32 : decode (mB M_X9_readPart) 32 = .ok (.iconst 0, 1) := by decide +kernel
theorem r_X9_readPart_32 {x0 x1 : Value} {st : List Value} {h : AH} : Run M_X9_readPart 32 [x0, x1] st h = Run M_X9_readPart 33 [x0, x1] (.int (nI 0) :: st) h := R_iconst d_X9_readPart_32 (by decide)
theorem d_X9_readPart_33 : decode (mB M_X9_readPart) 33 = .ok (.invokestatic 133, 3) := by decide +kernel
theorem r_X9_readPart_33 {x0 x1 : Value} {p0 : Int32} {p1 : Int32} {w0 w1 w2 : Value} {h : AH} : Run M_X9_readPart 33 [x0, x1] (.int p1 :: .int p0 :: [w0, w1, w2]) h = if (Call M_X9_most h [.int p0, .int p1]).isSome = true then Run M_X9_readPart 36 [x0, x1] (rL (Call M_X9_most h [.int p0, .int p1]) ++ [w0, w1, w2]) (cH (Call M_X9_most h [.int p0, .int p1])) else none := R_stat d_X9_readPart_33 rfl rfl rfl rfl (Nat.le_of_ble_eq_true rfl)
theorem d_X9_readPart_36 : decode (mB M_X9_readPart) 36 = .ok (.iaload, 1) := by decide +kernel
theorem r_X9_readPart_36 {x0 x1 : Value} {a : Nat} {i : Int32} {st : List Value} {h : AH} : Run M_X9_readPart 36 [x0, x1] (.int i :: .ref a :: st) h = if (gI 0 h a i).isSome = true then Run M_X9_readPart 37 [x0, x1] (.int ((gI 0 h a i).getD 0) :: st) h else none := R_iaload d_X9_readPart_36
theorem d_X9_readPart_37 : decode (mB M_X9_readPart) 37 = .ok (.iconst 3, 1) := by decide +kernel
theorem r_X9_readPart_37 {x0 x1 : Value} {st : List Value} {h : AH} : Run M_X9_readPart 37 [x0, x1] st h = Run M_X9_readPart 38 [x0, x1] (.int (nI 3) :: st) h := R_iconst d_X9_readPart_37 (by decide)
theorem d_X9_readPart_38 : decode (mB M_X9_readPart) 38 = .ok (.if_icmp .ne 7, 3) := by decide +kernel
theorem r_X9_readPart_38 {x0 x1 : Value} {x y : Int32} {st : List Value} {h : AH} : Run M_X9_readPart 38 [x0, x1] (.int y :: .int x :: st) h = if x = y then Run M_X9_readPart 41 [x0, x1] st h else Run M_X9_readPart 45 [x0, x1] st h := R_icmp_ne d_X9_readPart_38 (by decide)
theorem d_X9_readPart_41 : decode (mB M_X9_readPart) 41 = .ok (.iconst 1, 1) := by decide +kernel
theorem r_X9_readPart_41 {x0 x1 : Value} {st : List Value} {h : AH} : Run M_X9_readPart 41 [x0, x1] st h = Run M_X9_readPart 42 [x0, x1] (.int (nI 1) :: st) h := R_iconst d_X9_readPart_41 (by decide)
theorem d_X9_readPart_42 : decode (mB M_X9_readPart) 42 = .ok (.goto 4, 3) := by decide +kernel
theorem r_X9_readPart_42 {x0 x1 : Value} {st : List Value} {h : AH} : Run M_X9_readPart 42 [x0, x1] st h = Run M_X9_readPart 46 [x0, x1] st h := R_goto d_X9_readPart_42 (by decide)
theorem d_X9_readPart_45 : decode (mB M_X9_readPart) 45 = .ok (.iconst 0, 1) := by decide +kernel
theorem r_X9_readPart_45 {x0 x1 : Value} {st : List Value} {h : AH} : Run M_X9_readPart 45 [x0, x1] st h = Run M_X9_readPart 46 [x0, x1] (.int (nI 0) :: st) h := R_iconst d_X9_readPart_45 (by decide)
theorem d_X9_readPart_46 : decode (mB M_X9_readPart) 46 = .ok (.invokevirtual 137, 3) := by decide +kernel
theorem r_X9_readPart_46 {x0 x1 : Value} {p0 : Int32} {p1 : Int32} {a : Nat} {h : AH} : Run M_X9_readPart 46 [x0, x1] (.int p1 :: .int p0 :: .ref a :: []) h = if refO h 9 (some (.ref a)) = true then (if (Call M_X9_begins h [.ref a, .int p0, .int p1]).isSome = true then Run M_X9_readPart 49 [x0, x1] (rL (Call M_X9_begins h [.ref a, .int p0, .int p1]) ++ []) (cH (Call M_X9_begins h [.ref a, .int p0, .int p1])) else none) else none := R_virt d_X9_readPart_46 rfl rfl rfl rfl rfl (Nat.le_of_ble_eq_true rfl)
theorem d_X9_readPart_49 : decode (mB M_X9_readPart) 49 = .ok (.ifCond .ne 4, 3) := by decide +kernel
theorem r_X9_readPart_49 {x0 x1 : Value} {x : Int32} {st : List Value} {h : AH} : Run M_X9_readPart 49 [x0, x1] (.int x :: st) h = if x = nI 0 then Run M_X9_readPart 52 [x0, x1] st h else Run M_X9_readPart 53 [x0, x1] st h := R_if_ne d_X9_readPart_49 (by decide)
theorem d_X9_readPart_52 : decode (mB M_X9_readPart) 52 = .ok (.return_, 1) := by decide +kernel
theorem r_X9_readPart_52 {x0 x1 : Value} {h : AH} : Run M_X9_readPart 52 [x0, x1] [] h = some (h, none) := R_return d_X9_readPart_52 rfl
theorem d_X9_readPart_53 : decode (mB M_X9_readPart) 53 = .ok (.aload_n 0, 1) := by decide +kernel
theorem r_X9_readPart_53 {x1 : Value} {a : Nat} {st : List Value} {h : AH} : Run M_X9_readPart 53 [.ref a, x1] st h = Run M_X9_readPart 54 [.ref a, x1] (.ref a :: st) h := R_aload_n d_X9_readPart_53 rfl
theorem d_X9_readPart_54 : decode (mB M_X9_readPart) 54 = .ok (.getfield 130, 3) := by decide +kernel
theorem r_X9_readPart_54 {x0 x1 : Value} {a : Nat} {st : List Value} {h : AH} : Run M_X9_readPart 54 [x0, x1] (.ref a :: st) h = if (gF h a 9 21).isSome = true then Run M_X9_readPart 57 [x0, x1] ((gF h a 9 21).getD .null :: st) h else none := R_getfield d_X9_readPart_54 rfl
theorem d_X9_readPart_57 : decode (mB M_X9_readPart) 57 = .ok (.istore_n 1, 1) := by decide +kernel
theorem r_X9_readPart_57 {x0 x1 : Value} {a : Int32} {st : List Value} {h : AH} (hc : x0.category = 1) : Run M_X9_readPart 57 [x0, x1] (.int a :: st) h = Run M_X9_readPart 58 [x0, .int a] st h := R_istore_n d_X9_readPart_57 (Nat.lt_of_lt_of_le (by decide : 1 < 2) (Nat.le_refl 2)) (catP_of rfl hc)
theorem d_X9_readPart_58 : decode (mB M_X9_readPart) 58 = .ok (.aload_n 0, 1) := by decide +kernel
theorem r_X9_readPart_58 {x1 : Value} {a : Nat} {st : List Value} {h : AH} : Run M_X9_readPart 58 [.ref a, x1] st h = Run M_X9_readPart 59 [.ref a, x1] (.ref a :: st) h := R_aload_n d_X9_readPart_58 rfl
theorem d_X9_readPart_59 : decode (mB M_X9_readPart) 59 = .ok (.getfield 45, 3) := by decide +kernel
theorem r_X9_readPart_59 {x0 x1 : Value} {a : Nat} {st : List Value} {h : AH} : Run M_X9_readPart 59 [x0, x1] (.ref a :: st) h = if (gF h a 9 22).isSome = true then Run M_X9_readPart 62 [x0, x1] ((gF h a 9 22).getD .null :: st) h else none := R_getfield d_X9_readPart_59 rfl
theorem d_X9_readPart_62 : decode (mB M_X9_readPart) 62 = .ok (.iload_n 1, 1) := by decide +kernel
theorem r_X9_readPart_62 {x0 : Value} {a : Int32} {st : List Value} {h : AH} : Run M_X9_readPart 62 [x0, .int a] st h = Run M_X9_readPart 63 [x0, .int a] (.int a :: st) h := R_iload_n d_X9_readPart_62 rfl
theorem d_X9_readPart_63 : decode (mB M_X9_readPart) 63 = .ok (.aload_n 0, 1) := by decide +kernel
theorem r_X9_readPart_63 {x1 : Value} {a : Nat} {st : List Value} {h : AH} : Run M_X9_readPart 63 [.ref a, x1] st h = Run M_X9_readPart 64 [.ref a, x1] (.ref a :: st) h := R_aload_n d_X9_readPart_63 rfl
theorem d_X9_readPart_64 : decode (mB M_X9_readPart) 64 = .ok (.iconst 0, 1) := by decide +kernel
theorem r_X9_readPart_64 {x0 x1 : Value} {st : List Value} {h : AH} : Run M_X9_readPart 64 [x0, x1] st h = Run M_X9_readPart 65 [x0, x1] (.int (nI 0) :: st) h := R_iconst d_X9_readPart_64 (by decide)
theorem d_X9_readPart_65 : decode (mB M_X9_readPart) 65 = .ok (.iconst 3, 1) := by decide +kernel
theorem r_X9_readPart_65 {x0 x1 : Value} {st : List Value} {h : AH} : Run M_X9_readPart 65 [x0, x1] st h = Run M_X9_readPart 66 [x0, x1] (.int (nI 3) :: st) h := R_iconst d_X9_readPart_65 (by decide)
theorem d_X9_readPart_66 : decode (mB M_X9_readPart) 66 = .ok (.iconst 0, 1) := by decide +kernel
theorem r_X9_readPart_66 {x0 x1 : Value} {st : List Value} {h : AH} : Run M_X9_readPart 66 [x0, x1] st h = Run M_X9_readPart 67 [x0, x1] (.int (nI 0) :: st) h := R_iconst d_X9_readPart_66 (by decide)
theorem d_X9_readPart_67 : decode (mB M_X9_readPart) 67 = .ok (.invokevirtual 141, 3) := by decide +kernel
theorem r_X9_readPart_67 {x0 x1 : Value} {p0 : Int32} {p1 : Int32} {p2 : Int32} {a : Nat} {w0 w1 : Value} {h : AH} : Run M_X9_readPart 67 [x0, x1] (.int p2 :: .int p1 :: .int p0 :: .ref a :: [w0, w1]) h = if refO h 9 (some (.ref a)) = true then (if (Call M_X9_number h [.ref a, .int p0, .int p1, .int p2]).isSome = true then Run M_X9_readPart 70 [x0, x1] (rL (Call M_X9_number h [.ref a, .int p0, .int p1, .int p2]) ++ [w0, w1]) (cH (Call M_X9_number h [.ref a, .int p0, .int p1, .int p2])) else none) else none := R_virt d_X9_readPart_67 rfl rfl rfl rfl rfl (Nat.le_of_ble_eq_true rfl)
theorem d_X9_readPart_70 : decode (mB M_X9_readPart) 70 = .ok (.iastore, 1) := by decide +kernel
theorem r_X9_readPart_70 {x0 x1 : Value} {a : Nat} {i x : Int32} {st : List Value} {h : AH} : Run M_X9_readPart 70 [x0, x1] (.int x :: .int i :: .ref a :: st) h = if (pI 0 h a i x).isSome = true then Run M_X9_readPart 71 [x0, x1] st ((pI 0 h a i x).getD h) else none := R_iastore d_X9_readPart_70
theorem d_X9_readPart_71 : decode (mB M_X9_readPart) 71 = .ok (.aload_n 0, 1) := by decide +kernel
theorem r_X9_readPart_71 {x1 : Value} {a : Nat} {st : List Value} {h : AH} : Run M_X9_readPart 71 [.ref a, x1] st h = Run M_X9_readPart 72 [.ref a, x1] (.ref a :: st) h := R_aload_n d_X9_readPart_71 rfl
theorem d_X9_readPart_72 : decode (mB M_X9_readPart) 72 = .ok (.getfield 48, 3) := by decide +kernel
theorem r_X9_readPart_72 {x0 x1 : Value} {a : Nat} {st : List Value} {h : AH} : Run M_X9_readPart 72 [x0, x1] (.ref a :: st) h = if (gF h a 9 23).isSome = true then Run M_X9_readPart 75 [x0, x1] ((gF h a 9 23).getD .null :: st) h else none := R_getfield d_X9_readPart_72 rfl
theorem d_X9_readPart_75 : decode (mB M_X9_readPart) 75 = .ok (.iload_n 1, 1) := by decide +kernel
theorem r_X9_readPart_75 {x0 : Value} {a : Int32} {st : List Value} {h : AH} : Run M_X9_readPart 75 [x0, .int a] st h = Run M_X9_readPart 76 [x0, .int a] (.int a :: st) h := R_iload_n d_X9_readPart_75 rfl
theorem d_X9_readPart_76 : decode (mB M_X9_readPart) 76 = .ok (.aload_n 0, 1) := by decide +kernel
theorem r_X9_readPart_76 {x1 : Value} {a : Nat} {st : List Value} {h : AH} : Run M_X9_readPart 76 [.ref a, x1] st h = Run M_X9_readPart 77 [.ref a, x1] (.ref a :: st) h := R_aload_n d_X9_readPart_76 rfl
theorem d_X9_readPart_77 : decode (mB M_X9_readPart) 77 = .ok (.iconst 0, 1) := by decide +kernel
theorem r_X9_readPart_77 {x0 x1 : Value} {st : List Value} {h : AH} : Run M_X9_readPart 77 [x0, x1] st h = Run M_X9_readPart 78 [x0, x1] (.int (nI 0) :: st) h := R_iconst d_X9_readPart_77 (by decide)
theorem d_X9_readPart_78 : decode (mB M_X9_readPart) 78 = .ok (.bipush 7, 2) := by decide +kernel
theorem r_X9_readPart_78 {x0 x1 : Value} {st : List Value} {h : AH} : Run M_X9_readPart 78 [x0, x1] st h = Run M_X9_readPart 80 [x0, x1] (.int (nI 7) :: st) h := R_bipush d_X9_readPart_78 (by decide)
theorem d_X9_readPart_80 : decode (mB M_X9_readPart) 80 = .ok (.aload_n 0, 1) := by decide +kernel
theorem r_X9_readPart_80 {x1 : Value} {a : Nat} {st : List Value} {h : AH} : Run M_X9_readPart 80 [.ref a, x1] st h = Run M_X9_readPart 81 [.ref a, x1] (.ref a :: st) h := R_aload_n d_X9_readPart_80 rfl
theorem d_X9_readPart_81 : decode (mB M_X9_readPart) 81 = .ok (.getfield 45, 3) := by decide +kernel
theorem r_X9_readPart_81 {x0 x1 : Value} {a : Nat} {st : List Value} {h : AH} : Run M_X9_readPart 81 [x0, x1] (.ref a :: st) h = if (gF h a 9 22).isSome = true then Run M_X9_readPart 84 [x0, x1] ((gF h a 9 22).getD .null :: st) h else none := R_getfield d_X9_readPart_81 rfl
theorem d_X9_readPart_84 : decode (mB M_X9_readPart) 84 = .ok (.iload_n 1, 1) := by decide +kernel
theorem r_X9_readPart_84 {x0 : Value} {a : Int32} {st : List Value} {h : AH} : Run M_X9_readPart 84 [x0, .int a] st h = Run M_X9_readPart 85 [x0, .int a] (.int a :: st) h := R_iload_n d_X9_readPart_84 rfl
theorem d_X9_readPart_85 : decode (mB M_X9_readPart) 85 = .ok (.iaload, 1) := by decide +kernel
theorem r_X9_readPart_85 {x0 x1 : Value} {a : Nat} {i : Int32} {st : List Value} {h : AH} : Run M_X9_readPart 85 [x0, x1] (.int i :: .ref a :: st) h = if (gI 0 h a i).isSome = true then Run M_X9_readPart 86 [x0, x1] (.int ((gI 0 h a i).getD 0) :: st) h else none := R_iaload d_X9_readPart_85
theorem d_X9_readPart_86 : decode (mB M_X9_readPart) 86 = .ok (.iconst 3, 1) := by decide +kernel
theorem r_X9_readPart_86 {x0 x1 : Value} {st : List Value} {h : AH} : Run M_X9_readPart 86 [x0, x1] st h = Run M_X9_readPart 87 [x0, x1] (.int (nI 3) :: st) h := R_iconst d_X9_readPart_86 (by decide)
theorem d_X9_readPart_87 : decode (mB M_X9_readPart) 87 = .ok (.if_icmp .ne 7, 3) := by decide +kernel
theorem r_X9_readPart_87 {x0 x1 : Value} {x y : Int32} {st : List Value} {h : AH} : Run M_X9_readPart 87 [x0, x1] (.int y :: .int x :: st) h = if x = y then Run M_X9_readPart 90 [x0, x1] st h else Run M_X9_readPart 94 [x0, x1] st h := R_icmp_ne d_X9_readPart_87 (by decide)
theorem d_X9_readPart_90 : decode (mB M_X9_readPart) 90 = .ok (.iconst 4, 1) := by decide +kernel
theorem r_X9_readPart_90 {x0 x1 : Value} {st : List Value} {h : AH} : Run M_X9_readPart 90 [x0, x1] st h = Run M_X9_readPart 91 [x0, x1] (.int (nI 4) :: st) h := R_iconst d_X9_readPart_90 (by decide)
theorem d_X9_readPart_91 : decode (mB M_X9_readPart) 91 = .ok (.goto 4, 3) := by decide +kernel
theorem r_X9_readPart_91 {x0 x1 : Value} {st : List Value} {h : AH} : Run M_X9_readPart 91 [x0, x1] st h = Run M_X9_readPart 95 [x0, x1] st h := R_goto d_X9_readPart_91 (by decide)
theorem d_X9_readPart_94 : decode (mB M_X9_readPart) 94 = .ok (.iconst 0, 1) := by decide +kernel
theorem r_X9_readPart_94 {x0 x1 : Value} {st : List Value} {h : AH} : Run M_X9_readPart 94 [x0, x1] st h = Run M_X9_readPart 95 [x0, x1] (.int (nI 0) :: st) h := R_iconst d_X9_readPart_94 (by decide)
theorem d_X9_readPart_95 : decode (mB M_X9_readPart) 95 = .ok (.invokevirtual 141, 3) := by decide +kernel
theorem r_X9_readPart_95 {x0 x1 : Value} {p0 : Int32} {p1 : Int32} {p2 : Int32} {a : Nat} {w0 w1 : Value} {h : AH} : Run M_X9_readPart 95 [x0, x1] (.int p2 :: .int p1 :: .int p0 :: .ref a :: [w0, w1]) h = if refO h 9 (some (.ref a)) = true then (if (Call M_X9_number h [.ref a, .int p0, .int p1, .int p2]).isSome = true then Run M_X9_readPart 98 [x0, x1] (rL (Call M_X9_number h [.ref a, .int p0, .int p1, .int p2]) ++ [w0, w1]) (cH (Call M_X9_number h [.ref a, .int p0, .int p1, .int p2])) else none) else none := R_virt d_X9_readPart_95 rfl rfl rfl rfl rfl (Nat.le_of_ble_eq_true rfl)
theorem d_X9_readPart_98 : decode (mB M_X9_readPart) 98 = .ok (.iastore, 1) := by decide +kernel
theorem r_X9_readPart_98 {x0 x1 : Value} {a : Nat} {i x : Int32} {st : List Value} {h : AH} : Run M_X9_readPart 98 [x0, x1] (.int x :: .int i :: .ref a :: st) h = if (pI 0 h a i x).isSome = true then Run M_X9_readPart 99 [x0, x1] st ((pI 0 h a i x).getD h) else none := R_iastore d_X9_readPart_98
theorem d_X9_readPart_99 : decode (mB M_X9_readPart) 99 = .ok (.aload_n 0, 1) := by decide +kernel
theorem r_X9_readPart_99 {x1 : Value} {a : Nat} {st : List Value} {h : AH} : Run M_X9_readPart 99 [.ref a, x1] st h = Run M_X9_readPart 100 [.ref a, x1] (.ref a :: st) h := R_aload_n d_X9_readPart_99 rfl
theorem d_X9_readPart_100 : decode (mB M_X9_readPart) 100 = .ok (.getfield 51, 3) := by decide +kernel
theorem r_X9_readPart_100 {x0 x1 : Value} {a : Nat} {st : List Value} {h : AH} : Run M_X9_readPart 100 [x0, x1] (.ref a :: st) h = if (gF h a 9 24).isSome = true then Run M_X9_readPart 103 [x0, x1] ((gF h a 9 24).getD .null :: st) h else none := R_getfield d_X9_readPart_100 rfl
theorem d_X9_readPart_103 : decode (mB M_X9_readPart) 103 = .ok (.iload_n 1, 1) := by decide +kernel
theorem r_X9_readPart_103 {x0 : Value} {a : Int32} {st : List Value} {h : AH} : Run M_X9_readPart 103 [x0, .int a] st h = Run M_X9_readPart 104 [x0, .int a] (.int a :: st) h := R_iload_n d_X9_readPart_103 rfl
theorem d_X9_readPart_104 : decode (mB M_X9_readPart) 104 = .ok (.aload_n 0, 1) := by decide +kernel
theorem r_X9_readPart_104 {x1 : Value} {a : Nat} {st : List Value} {h : AH} : Run M_X9_readPart 104 [.ref a, x1] st h = Run M_X9_readPart 105 [.ref a, x1] (.ref a :: st) h := R_aload_n d_X9_readPart_104 rfl
theorem d_X9_readPart_105 : decode (mB M_X9_readPart) 105 = .ok (.iconst 0, 1) := by decide +kernel
theorem r_X9_readPart_105 {x0 x1 : Value} {st : List Value} {h : AH} : Run M_X9_readPart 105 [x0, x1] st h = Run M_X9_readPart 106 [x0, x1] (.int (nI 0) :: st) h := R_iconst d_X9_readPart_105 (by decide)
theorem d_X9_readPart_106 : decode (mB M_X9_readPart) 106 = .ok (.bipush 11, 2) := by decide +kernel
theorem r_X9_readPart_106 {x0 x1 : Value} {st : List Value} {h : AH} : Run M_X9_readPart 106 [x0, x1] st h = Run M_X9_readPart 108 [x0, x1] (.int (nI 11) :: st) h := R_bipush d_X9_readPart_106 (by decide)
theorem d_X9_readPart_108 : decode (mB M_X9_readPart) 108 = .ok (.iconst 0, 1) := by decide +kernel
theorem r_X9_readPart_108 {x0 x1 : Value} {st : List Value} {h : AH} : Run M_X9_readPart 108 [x0, x1] st h = Run M_X9_readPart 109 [x0, x1] (.int (nI 0) :: st) h := R_iconst d_X9_readPart_108 (by decide)
theorem d_X9_readPart_109 : decode (mB M_X9_readPart) 109 = .ok (.invokevirtual 141, 3) := by decide +kernel
theorem r_X9_readPart_109 {x0 x1 : Value} {p0 : Int32} {p1 : Int32} {p2 : Int32} {a : Nat} {w0 w1 : Value} {h : AH} : Run M_X9_readPart 109 [x0, x1] (.int p2 :: .int p1 :: .int p0 :: .ref a :: [w0, w1]) h = if refO h 9 (some (.ref a)) = true then (if (Call M_X9_number h [.ref a, .int p0, .int p1, .int p2]).isSome = true then Run M_X9_readPart 112 [x0, x1] (rL (Call M_X9_number h [.ref a, .int p0, .int p1, .int p2]) ++ [w0, w1]) (cH (Call M_X9_number h [.ref a, .int p0, .int p1, .int p2])) else none) else none := R_virt d_X9_readPart_109 rfl rfl rfl rfl rfl (Nat.le_of_ble_eq_true rfl)
theorem d_X9_readPart_112 : decode (mB M_X9_readPart) 112 = .ok (.iastore, 1) := by decide +kernel
theorem r_X9_readPart_112 {x0 x1 : Value} {a : Nat} {i x : Int32} {st : List Value} {h : AH} : Run M_X9_readPart 112 [x0, x1] (.int x :: .int i :: .ref a :: st) h = if (pI 0 h a i x).isSome = true then Run M_X9_readPart 113 [x0, x1] st ((pI 0 h a i x).getD h) else none := R_iastore d_X9_readPart_112
theorem d_X9_readPart_113 : decode (mB M_X9_readPart) 113 = .ok (.aload_n 0, 1) := by decide +kernel
theorem r_X9_readPart_113 {x1 : Value} {a : Nat} {st : List Value} {h : AH} : Run M_X9_readPart 113 [.ref a, x1] st h = Run M_X9_readPart 114 [.ref a, x1] (.ref a :: st) h := R_aload_n d_X9_readPart_113 rfl
theorem d_X9_readPart_114 : decode (mB M_X9_readPart) 114 = .ok (.getfield 57, 3) := by decide +kernel
theorem r_X9_readPart_114 {x0 x1 : Value} {a : Nat} {st : List Value} {h : AH} : Run M_X9_readPart 114 [x0, x1] (.ref a :: st) h = if (gF h a 9 26).isSome = true then Run M_X9_readPart 117 [x0, x1] ((gF h a 9 26).getD .null :: st) h else none := R_getfield d_X9_readPart_114 rfl
theorem d_X9_readPart_117 : decode (mB M_X9_readPart) 117 = .ok (.iconst 4, 1) := by decide +kernel
theorem r_X9_readPart_117 {x0 x1 : Value} {st : List Value} {h : AH} : Run M_X9_readPart 117 [x0, x1] st h = Run M_X9_readPart 118 [x0, x1] (.int (nI 4) :: st) h := R_iconst d_X9_readPart_117 (by decide)
theorem d_X9_readPart_118 : decode (mB M_X9_readPart) 118 = .ok (.iload_n 1, 1) := by decide +kernel
theorem r_X9_readPart_118 {x0 : Value} {a : Int32} {st : List Value} {h : AH} : Run M_X9_readPart 118 [x0, .int a] st h = Run M_X9_readPart 119 [x0, .int a] (.int a :: st) h := R_iload_n d_X9_readPart_118 rfl
theorem d_X9_readPart_119 : decode (mB M_X9_readPart) 119 = .ok (.imul, 1) := by decide +kernel
theorem r_X9_readPart_119 {x0 x1 : Value} {x y : Int32} {st : List Value} {h : AH} : Run M_X9_readPart 119 [x0, x1] (.int y :: .int x :: st) h = Run M_X9_readPart 120 [x0, x1] (.int (x * y) :: st) h := R_imul d_X9_readPart_119
theorem d_X9_readPart_120 : decode (mB M_X9_readPart) 120 = .ok (.aload_n 0, 1) := by decide +kernel
theorem r_X9_readPart_120 {x1 : Value} {a : Nat} {st : List Value} {h : AH} : Run M_X9_readPart 120 [.ref a, x1] st h = Run M_X9_readPart 121 [.ref a, x1] (.ref a :: st) h := R_aload_n d_X9_readPart_120 rfl
theorem d_X9_readPart_121 : decode (mB M_X9_readPart) 121 = .ok (.iconst 1, 1) := by decide +kernel
theorem r_X9_readPart_121 {x0 x1 : Value} {st : List Value} {h : AH} : Run M_X9_readPart 121 [x0, x1] st h = Run M_X9_readPart 122 [x0, x1] (.int (nI 1) :: st) h := R_iconst d_X9_readPart_121 (by decide)
theorem d_X9_readPart_122 : decode (mB M_X9_readPart) 122 = .ok (.bipush 60, 2) := by decide +kernel
theorem r_X9_readPart_122 {x0 x1 : Value} {st : List Value} {h : AH} : Run M_X9_readPart 122 [x0, x1] st h = Run M_X9_readPart 124 [x0, x1] (.int (nI 60) :: st) h := R_bipush d_X9_readPart_122 (by decide)
theorem d_X9_readPart_124 : decode (mB M_X9_readPart) 124 = .ok (.iconst 0, 1) := by decide +kernel
theorem r_X9_readPart_124 {x0 x1 : Value} {st : List Value} {h : AH} : Run M_X9_readPart 124 [x0, x1] st h = Run M_X9_readPart 125 [x0, x1] (.int (nI 0) :: st) h := R_iconst d_X9_readPart_124 (by decide)
theorem d_X9_readPart_125 : decode (mB M_X9_readPart) 125 = .ok (.invokevirtual 141, 3) := by decide +kernel
theorem r_X9_readPart_125 {x0 x1 : Value} {p0 : Int32} {p1 : Int32} {p2 : Int32} {a : Nat} {w0 w1 : Value} {h : AH} : Run M_X9_readPart 125 [x0, x1] (.int p2 :: .int p1 :: .int p0 :: .ref a :: [w0, w1]) h = if refO h 9 (some (.ref a)) = true then (if (Call M_X9_number h [.ref a, .int p0, .int p1, .int p2]).isSome = true then Run M_X9_readPart 128 [x0, x1] (rL (Call M_X9_number h [.ref a, .int p0, .int p1, .int p2]) ++ [w0, w1]) (cH (Call M_X9_number h [.ref a, .int p0, .int p1, .int p2])) else none) else none := R_virt d_X9_readPart_125 rfl rfl rfl rfl rfl (Nat.le_of_ble_eq_true rfl)
theorem d_X9_readPart_128 : decode (mB M_X9_readPart) 128 = .ok (.iastore, 1) := by decide +kernel
theorem r_X9_readPart_128 {x0 x1 : Value} {a : Nat} {i x : Int32} {st : List Value} {h : AH} : Run M_X9_readPart 128 [x0, x1] (.int x :: .int i :: .ref a :: st) h = if (pI 0 h a i x).isSome = true then Run M_X9_readPart 129 [x0, x1] st ((pI 0 h a i x).getD h) else none := R_iastore d_X9_readPart_128
theorem d_X9_readPart_129 : decode (mB M_X9_readPart) 129 = .ok (.aload_n 0, 1) := by decide +kernel
theorem r_X9_readPart_129 {x1 : Value} {a : Nat} {st : List Value} {h : AH} : Run M_X9_readPart 129 [.ref a, x1] st h = Run M_X9_readPart 130 [.ref a, x1] (.ref a :: st) h := R_aload_n d_X9_readPart_129 rfl
theorem d_X9_readPart_130 : decode (mB M_X9_readPart) 130 = .ok (.getfield 54, 3) := by decide +kernel
theorem r_X9_readPart_130 {x0 x1 : Value} {a : Nat} {st : List Value} {h : AH} : Run M_X9_readPart 130 [x0, x1] (.ref a :: st) h = if (gF h a 9 25).isSome = true then Run M_X9_readPart 133 [x0, x1] ((gF h a 9 25).getD .null :: st) h else none := R_getfield d_X9_readPart_130 rfl
theorem d_X9_readPart_133 : decode (mB M_X9_readPart) 133 = .ok (.iload_n 1, 1) := by decide +kernel
theorem r_X9_readPart_133 {x0 : Value} {a : Int32} {st : List Value} {h : AH} : Run M_X9_readPart 133 [x0, .int a] st h = Run M_X9_readPart 134 [x0, .int a] (.int a :: st) h := R_iload_n d_X9_readPart_133 rfl
theorem d_X9_readPart_134 : decode (mB M_X9_readPart) 134 = .ok (.iconst 1, 1) := by decide +kernel
theorem r_X9_readPart_134 {x0 x1 : Value} {st : List Value} {h : AH} : Run M_X9_readPart 134 [x0, x1] st h = Run M_X9_readPart 135 [x0, x1] (.int (nI 1) :: st) h := R_iconst d_X9_readPart_134 (by decide)
theorem d_X9_readPart_135 : decode (mB M_X9_readPart) 135 = .ok (.iastore, 1) := by decide +kernel
theorem r_X9_readPart_135 {x0 x1 : Value} {a : Nat} {i x : Int32} {st : List Value} {h : AH} : Run M_X9_readPart 135 [x0, x1] (.int x :: .int i :: .ref a :: st) h = if (pI 0 h a i x).isSome = true then Run M_X9_readPart 136 [x0, x1] st ((pI 0 h a i x).getD h) else none := R_iastore d_X9_readPart_135
theorem d_X9_readPart_136 : decode (mB M_X9_readPart) 136 = .ok (.aload_n 0, 1) := by decide +kernel
theorem r_X9_readPart_136 {x1 : Value} {a : Nat} {st : List Value} {h : AH} : Run M_X9_readPart 136 [.ref a, x1] st h = Run M_X9_readPart 137 [.ref a, x1] (.ref a :: st) h := R_aload_n d_X9_readPart_136 rfl
theorem d_X9_readPart_137 : decode (mB M_X9_readPart) 137 = .ok (.invokevirtual 119, 3) := by decide +kernel
theorem r_X9_readPart_137 {x0 x1 : Value} {a : Nat} {h : AH} : Run M_X9_readPart 137 [x0, x1] (.ref a :: []) h = if refO h 9 (some (.ref a)) = true then (if (Call M_X9_isWell h [.ref a]).isSome = true then Run M_X9_readPart 140 [x0, x1] (rL (Call M_X9_isWell h [.ref a]) ++ []) (cH (Call M_X9_isWell h [.ref a])) else none) else none := R_virt d_X9_readPart_137 rfl rfl rfl rfl rfl (Nat.le_of_ble_eq_true rfl)
theorem d_X9_readPart_140 : decode (mB M_X9_readPart) 140 = .ok (.ifCond .eq 69, 3) := by decide +kernel
theorem r_X9_readPart_140 {x0 x1 : Value} {x : Int32} {st : List Value} {h : AH} : Run M_X9_readPart 140 [x0, x1] (.int x :: st) h = if x = nI 0 then Run M_X9_readPart 209 [x0, x1] st h else Run M_X9_readPart 143 [x0, x1] st h := R_if_eq d_X9_readPart_140 (by decide)
theorem d_X9_readPart_143 : decode (mB M_X9_readPart) 143 = .ok (.aload_n 0, 1) := by decide +kernel
theorem r_X9_readPart_143 {x1 : Value} {a : Nat} {st : List Value} {h : AH} : Run M_X9_readPart 143 [.ref a, x1] st h = Run M_X9_readPart 144 [.ref a, x1] (.ref a :: st) h := R_aload_n d_X9_readPart_143 rfl
theorem d_X9_readPart_144 : decode (mB M_X9_readPart) 144 = .ok (.getfield 107, 3) := by decide +kernel
theorem r_X9_readPart_144 {x0 x1 : Value} {a : Nat} {st : List Value} {h : AH} : Run M_X9_readPart 144 [x0, x1] (.ref a :: st) h = if (gF h a 9 16).isSome = true then Run M_X9_readPart 147 [x0, x1] ((gF h a 9 16).getD .null :: st) h else none := R_getfield d_X9_readPart_144 rfl
theorem d_X9_readPart_147 : decode (mB M_X9_readPart) 147 = .ok (.iconst 4, 1) := by decide +kernel
theorem r_X9_readPart_147 {x0 x1 : Value} {st : List Value} {h : AH} : Run M_X9_readPart 147 [x0, x1] st h = Run M_X9_readPart 148 [x0, x1] (.int (nI 4) :: st) h := R_iconst d_X9_readPart_147 (by decide)
theorem d_X9_readPart_148 : decode (mB M_X9_readPart) 148 = .ok (.if_icmp .ne 61, 3) := by decide +kernel
theorem r_X9_readPart_148 {x0 x1 : Value} {x y : Int32} {st : List Value} {h : AH} : Run M_X9_readPart 148 [x0, x1] (.int y :: .int x :: st) h = if x = y then Run M_X9_readPart 151 [x0, x1] st h else Run M_X9_readPart 209 [x0, x1] st h := R_icmp_ne d_X9_readPart_148 (by decide)
theorem d_X9_readPart_151 : decode (mB M_X9_readPart) 151 = .ok (.aload_n 0, 1) := by decide +kernel
theorem r_X9_readPart_151 {x1 : Value} {a : Nat} {st : List Value} {h : AH} : Run M_X9_readPart 151 [.ref a, x1] st h = Run M_X9_readPart 152 [.ref a, x1] (.ref a :: st) h := R_aload_n d_X9_readPart_151 rfl
theorem d_X9_readPart_152 : decode (mB M_X9_readPart) 152 = .ok (.getfield 54, 3) := by decide +kernel
theorem r_X9_readPart_152 {x0 x1 : Value} {a : Nat} {st : List Value} {h : AH} : Run M_X9_readPart 152 [x0, x1] (.ref a :: st) h = if (gF h a 9 25).isSome = true then Run M_X9_readPart 155 [x0, x1] ((gF h a 9 25).getD .null :: st) h else none := R_getfield d_X9_readPart_152 rfl
theorem d_X9_readPart_155 : decode (mB M_X9_readPart) 155 = .ok (.iload_n 1, 1) := by decide +kernel
theorem r_X9_readPart_155 {x0 : Value} {a : Int32} {st : List Value} {h : AH} : Run M_X9_readPart 155 [x0, .int a] st h = Run M_X9_readPart 156 [x0, .int a] (.int a :: st) h := R_iload_n d_X9_readPart_155 rfl
theorem d_X9_readPart_156 : decode (mB M_X9_readPart) 156 = .ok (.iaload, 1) := by decide +kernel
theorem r_X9_readPart_156 {x0 x1 : Value} {a : Nat} {i : Int32} {st : List Value} {h : AH} : Run M_X9_readPart 156 [x0, x1] (.int i :: .ref a :: st) h = if (gI 0 h a i).isSome = true then Run M_X9_readPart 157 [x0, x1] (.int ((gI 0 h a i).getD 0) :: st) h else none := R_iaload d_X9_readPart_156
theorem d_X9_readPart_157 : decode (mB M_X9_readPart) 157 = .ok (.iconst 4, 1) := by decide +kernel
theorem r_X9_readPart_157 {x0 x1 : Value} {st : List Value} {h : AH} : Run M_X9_readPart 157 [x0, x1] st h = Run M_X9_readPart 158 [x0, x1] (.int (nI 4) :: st) h := R_iconst d_X9_readPart_157 (by decide)
theorem d_X9_readPart_158 : decode (mB M_X9_readPart) 158 = .ok (.if_icmp .ne 11, 3) := by decide +kernel
theorem r_X9_readPart_158 {x0 x1 : Value} {x y : Int32} {st : List Value} {h : AH} : Run M_X9_readPart 158 [x0, x1] (.int y :: .int x :: st) h = if x = y then Run M_X9_readPart 161 [x0, x1] st h else Run M_X9_readPart 169 [x0, x1] st h := R_icmp_ne d_X9_readPart_158 (by decide)
theorem d_X9_readPart_161 : decode (mB M_X9_readPart) 161 = .ok (.aload_n 0, 1) := by decide +kernel
theorem r_X9_readPart_161 {x1 : Value} {a : Nat} {st : List Value} {h : AH} : Run M_X9_readPart 161 [.ref a, x1] st h = Run M_X9_readPart 162 [.ref a, x1] (.ref a :: st) h := R_aload_n d_X9_readPart_161 rfl
theorem d_X9_readPart_162 : decode (mB M_X9_readPart) 162 = .ok (.iconst 1, 1) := by decide +kernel
theorem r_X9_readPart_162 {x0 x1 : Value} {st : List Value} {h : AH} : Run M_X9_readPart 162 [x0, x1] st h = Run M_X9_readPart 163 [x0, x1] (.int (nI 1) :: st) h := R_iconst d_X9_readPart_162 (by decide)
theorem d_X9_readPart_163 : decode (mB M_X9_readPart) 163 = .ok (.invokevirtual 123, 3) := by decide +kernel
theorem r_X9_readPart_163 {x0 x1 : Value} {p0 : Int32} {a : Nat} {h : AH} : Run M_X9_readPart 163 [x0, x1] (.int p0 :: .ref a :: []) h = if refO h 9 (some (.ref a)) = true then (if (Call M_X9_fails h [.ref a, .int p0]).isSome = true then Run M_X9_readPart 166 [x0, x1] (rL (Call M_X9_fails h [.ref a, .int p0]) ++ []) (cH (Call M_X9_fails h [.ref a, .int p0])) else none) else none := R_virt d_X9_readPart_163 rfl rfl rfl rfl rfl (Nat.le_of_ble_eq_true rfl)
theorem d_X9_readPart_166 : decode (mB M_X9_readPart) 166 = .ok (.goto (-30), 3) := by decide +kernel
theorem r_X9_readPart_166 {x0 x1 : Value} {st : List Value} {h : AH} : Run M_X9_readPart 166 [x0, x1] st h = Run M_X9_readPart 136 [x0, x1] st h := R_goto d_X9_readPart_166 (by decide)
theorem d_X9_readPart_169 : decode (mB M_X9_readPart) 169 = .ok (.aload_n 0, 1) := by decide +kernel
theorem r_X9_readPart_169 {x1 : Value} {a : Nat} {st : List Value} {h : AH} : Run M_X9_readPart 169 [.ref a, x1] st h = Run M_X9_readPart 170 [.ref a, x1] (.ref a :: st) h := R_aload_n d_X9_readPart_169 rfl
theorem d_X9_readPart_170 : decode (mB M_X9_readPart) 170 = .ok (.invokevirtual 127, 3) := by decide +kernel
theorem r_X9_readPart_170 {x0 x1 : Value} {a : Nat} {h : AH} : Run M_X9_readPart 170 [x0, x1] (.ref a :: []) h = if refO h 9 (some (.ref a)) = true then (if (Call M_X9_next h [.ref a]).isSome = true then Run M_X9_readPart 173 [x0, x1] (rL (Call M_X9_next h [.ref a]) ++ []) (cH (Call M_X9_next h [.ref a])) else none) else none := R_virt d_X9_readPart_170 rfl rfl rfl rfl rfl (Nat.le_of_ble_eq_true rfl)
theorem d_X9_readPart_173 : decode (mB M_X9_readPart) 173 = .ok (.aload_n 0, 1) := by decide +kernel
theorem r_X9_readPart_173 {x1 : Value} {a : Nat} {st : List Value} {h : AH} : Run M_X9_readPart 173 [.ref a, x1] st h = Run M_X9_readPart 174 [.ref a, x1] (.ref a :: st) h := R_aload_n d_X9_readPart_173 rfl
theorem d_X9_readPart_174 : decode (mB M_X9_readPart) 174 = .ok (.getfield 57, 3) := by decide +kernel
theorem r_X9_readPart_174 {x0 x1 : Value} {a : Nat} {st : List Value} {h : AH} : Run M_X9_readPart 174 [x0, x1] (.ref a :: st) h = if (gF h a 9 26).isSome = true then Run M_X9_readPart 177 [x0, x1] ((gF h a 9 26).getD .null :: st) h else none := R_getfield d_X9_readPart_174 rfl
theorem d_X9_readPart_177 : decode (mB M_X9_readPart) 177 = .ok (.iconst 4, 1) := by decide +kernel
theorem r_X9_readPart_177 {x0 x1 : Value} {st : List Value} {h : AH} : Run M_X9_readPart 177 [x0, x1] st h = Run M_X9_readPart 178 [x0, x1] (.int (nI 4) :: st) h := R_iconst d_X9_readPart_177 (by decide)
theorem d_X9_readPart_178 : decode (mB M_X9_readPart) 178 = .ok (.iload_n 1, 1) := by decide +kernel
theorem r_X9_readPart_178 {x0 : Value} {a : Int32} {st : List Value} {h : AH} : Run M_X9_readPart 178 [x0, .int a] st h = Run M_X9_readPart 179 [x0, .int a] (.int a :: st) h := R_iload_n d_X9_readPart_178 rfl
theorem d_X9_readPart_179 : decode (mB M_X9_readPart) 179 = .ok (.imul, 1) := by decide +kernel
theorem r_X9_readPart_179 {x0 x1 : Value} {x y : Int32} {st : List Value} {h : AH} : Run M_X9_readPart 179 [x0, x1] (.int y :: .int x :: st) h = Run M_X9_readPart 180 [x0, x1] (.int (x * y) :: st) h := R_imul d_X9_readPart_179
theorem d_X9_readPart_180 : decode (mB M_X9_readPart) 180 = .ok (.aload_n 0, 1) := by decide +kernel
theorem r_X9_readPart_180 {x1 : Value} {a : Nat} {st : List Value} {h : AH} : Run M_X9_readPart 180 [.ref a, x1] st h = Run M_X9_readPart 181 [.ref a, x1] (.ref a :: st) h := R_aload_n d_X9_readPart_180 rfl
theorem d_X9_readPart_181 : decode (mB M_X9_readPart) 181 = .ok (.getfield 54, 3) := by decide +kernel
theorem r_X9_readPart_181 {x0 x1 : Value} {a : Nat} {st : List Value} {h : AH} : Run M_X9_readPart 181 [x0, x1] (.ref a :: st) h = if (gF h a 9 25).isSome = true then Run M_X9_readPart 184 [x0, x1] ((gF h a 9 25).getD .null :: st) h else none := R_getfield d_X9_readPart_181 rfl
theorem d_X9_readPart_184 : decode (mB M_X9_readPart) 184 = .ok (.iload_n 1, 1) := by decide +kernel
theorem r_X9_readPart_184 {x0 : Value} {a : Int32} {st : List Value} {h : AH} : Run M_X9_readPart 184 [x0, .int a] st h = Run M_X9_readPart 185 [x0, .int a] (.int a :: st) h := R_iload_n d_X9_readPart_184 rfl
theorem d_X9_readPart_185 : decode (mB M_X9_readPart) 185 = .ok (.iaload, 1) := by decide +kernel
theorem r_X9_readPart_185 {x0 x1 : Value} {a : Nat} {i : Int32} {st : List Value} {h : AH} : Run M_X9_readPart 185 [x0, x1] (.int i :: .ref a :: st) h = if (gI 0 h a i).isSome = true then Run M_X9_readPart 186 [x0, x1] (.int ((gI 0 h a i).getD 0) :: st) h else none := R_iaload d_X9_readPart_185
theorem d_X9_readPart_186 : decode (mB M_X9_readPart) 186 = .ok (.iadd, 1) := by decide +kernel
theorem r_X9_readPart_186 {x0 x1 : Value} {x y : Int32} {st : List Value} {h : AH} : Run M_X9_readPart 186 [x0, x1] (.int y :: .int x :: st) h = Run M_X9_readPart 187 [x0, x1] (.int (x + y) :: st) h := R_iadd d_X9_readPart_186
theorem d_X9_readPart_187 : decode (mB M_X9_readPart) 187 = .ok (.aload_n 0, 1) := by decide +kernel
theorem r_X9_readPart_187 {x1 : Value} {a : Nat} {st : List Value} {h : AH} : Run M_X9_readPart 187 [.ref a, x1] st h = Run M_X9_readPart 188 [.ref a, x1] (.ref a :: st) h := R_aload_n d_X9_readPart_187 rfl
theorem d_X9_readPart_188 : decode (mB M_X9_readPart) 188 = .ok (.iconst 1, 1) := by decide +kernel
theorem r_X9_readPart_188 {x0 x1 : Value} {st : List Value} {h : AH} : Run M_X9_readPart 188 [x0, x1] st h = Run M_X9_readPart 189 [x0, x1] (.int (nI 1) :: st) h := R_iconst d_X9_readPart_188 (by decide)
theorem d_X9_readPart_189 : decode (mB M_X9_readPart) 189 = .ok (.bipush 60, 2) := by decide +kernel
theorem r_X9_readPart_189 {x0 x1 : Value} {st : List Value} {h : AH} : Run M_X9_readPart 189 [x0, x1] st h = Run M_X9_readPart 191 [x0, x1] (.int (nI 60) :: st) h := R_bipush d_X9_readPart_189 (by decide)
theorem d_X9_readPart_191 : decode (mB M_X9_readPart) 191 = .ok (.iconst 0, 1) := by decide +kernel
theorem r_X9_readPart_191 {x0 x1 : Value} {st : List Value} {h : AH} : Run M_X9_readPart 191 [x0, x1] st h = Run M_X9_readPart 192 [x0, x1] (.int (nI 0) :: st) h := R_iconst d_X9_readPart_191 (by decide)
theorem d_X9_readPart_192 : decode (mB M_X9_readPart) 192 = .ok (.invokevirtual 141, 3) := by decide +kernel
theorem r_X9_readPart_192 {x0 x1 : Value} {p0 : Int32} {p1 : Int32} {p2 : Int32} {a : Nat} {w0 w1 : Value} {h : AH} : Run M_X9_readPart 192 [x0, x1] (.int p2 :: .int p1 :: .int p0 :: .ref a :: [w0, w1]) h = if refO h 9 (some (.ref a)) = true then (if (Call M_X9_number h [.ref a, .int p0, .int p1, .int p2]).isSome = true then Run M_X9_readPart 195 [x0, x1] (rL (Call M_X9_number h [.ref a, .int p0, .int p1, .int p2]) ++ [w0, w1]) (cH (Call M_X9_number h [.ref a, .int p0, .int p1, .int p2])) else none) else none := R_virt d_X9_readPart_192 rfl rfl rfl rfl rfl (Nat.le_of_ble_eq_true rfl)
theorem d_X9_readPart_195 : decode (mB M_X9_readPart) 195 = .ok (.iastore, 1) := by decide +kernel
theorem r_X9_readPart_195 {x0 x1 : Value} {a : Nat} {i x : Int32} {st : List Value} {h : AH} : Run M_X9_readPart 195 [x0, x1] (.int x :: .int i :: .ref a :: st) h = if (pI 0 h a i x).isSome = true then Run M_X9_readPart 196 [x0, x1] st ((pI 0 h a i x).getD h) else none := R_iastore d_X9_readPart_195
theorem d_X9_readPart_196 : decode (mB M_X9_readPart) 196 = .ok (.aload_n 0, 1) := by decide +kernel
theorem r_X9_readPart_196 {x1 : Value} {a : Nat} {st : List Value} {h : AH} : Run M_X9_readPart 196 [.ref a, x1] st h = Run M_X9_readPart 197 [.ref a, x1] (.ref a :: st) h := R_aload_n d_X9_readPart_196 rfl
theorem d_X9_readPart_197 : decode (mB M_X9_readPart) 197 = .ok (.getfield 54, 3) := by decide +kernel
theorem r_X9_readPart_197 {x0 x1 : Value} {a : Nat} {st : List Value} {h : AH} : Run M_X9_readPart 197 [x0, x1] (.ref a :: st) h = if (gF h a 9 25).isSome = true then Run M_X9_readPart 200 [x0, x1] ((gF h a 9 25).getD .null :: st) h else none := R_getfield d_X9_readPart_197 rfl
theorem d_X9_readPart_200 : decode (mB M_X9_readPart) 200 = .ok (.iload_n 1, 1) := by decide +kernel
theorem r_X9_readPart_200 {x0 : Value} {a : Int32} {st : List Value} {h : AH} : Run M_X9_readPart 200 [x0, .int a] st h = Run M_X9_readPart 201 [x0, .int a] (.int a :: st) h := R_iload_n d_X9_readPart_200 rfl
theorem d_X9_readPart_201 : decode (mB M_X9_readPart) 201 = .ok (.dup2, 1) := by decide +kernel
theorem r_X9_readPart_201 {x0 x1 : Value} {x : Nat} {y : Int32} {st : List Value} {h : AH} : Run M_X9_readPart 201 [x0, x1] (.int y :: .ref x :: st) h = Run M_X9_readPart 202 [x0, x1] (.int y :: .ref x :: .int y :: .ref x :: st) h := R_dup2 d_X9_readPart_201
theorem d_X9_readPart_202 : decode (mB M_X9_readPart) 202 = .ok (.iaload, 1) := by decide +kernel
theorem r_X9_readPart_202 {x0 x1 : Value} {a : Nat} {i : Int32} {st : List Value} {h : AH} : Run M_X9_readPart 202 [x0, x1] (.int i :: .ref a :: st) h = if (gI 0 h a i).isSome = true then Run M_X9_readPart 203 [x0, x1] (.int ((gI 0 h a i).getD 0) :: st) h else none := R_iaload d_X9_readPart_202
theorem d_X9_readPart_203 : decode (mB M_X9_readPart) 203 = .ok (.iconst 1, 1) := by decide +kernel
theorem r_X9_readPart_203 {x0 x1 : Value} {st : List Value} {h : AH} : Run M_X9_readPart 203 [x0, x1] st h = Run M_X9_readPart 204 [x0, x1] (.int (nI 1) :: st) h := R_iconst d_X9_readPart_203 (by decide)
theorem d_X9_readPart_204 : decode (mB M_X9_readPart) 204 = .ok (.iadd, 1) := by decide +kernel
theorem r_X9_readPart_204 {x0 x1 : Value} {x y : Int32} {st : List Value} {h : AH} : Run M_X9_readPart 204 [x0, x1] (.int y :: .int x :: st) h = Run M_X9_readPart 205 [x0, x1] (.int (x + y) :: st) h := R_iadd d_X9_readPart_204
theorem d_X9_readPart_205 : decode (mB M_X9_readPart) 205 = .ok (.iastore, 1) := by decide +kernel
theorem r_X9_readPart_205 {x0 x1 : Value} {a : Nat} {i x : Int32} {st : List Value} {h : AH} : Run M_X9_readPart 205 [x0, x1] (.int x :: .int i :: .ref a :: st) h = if (pI 0 h a i x).isSome = true then Run M_X9_readPart 206 [x0, x1] st ((pI 0 h a i x).getD h) else none := R_iastore d_X9_readPart_205
theorem d_X9_readPart_206 : decode (mB M_X9_readPart) 206 = .ok (.goto (-70), 3) := by decide +kernel
theorem r_X9_readPart_206 {x0 x1 : Value} {st : List Value} {h : AH} : Run M_X9_readPart 206 [x0, x1] st h = Run M_X9_readPart 136 [x0, x1] st h := R_goto d_X9_readPart_206 (by decide)
theorem d_X9_readPart_209 : decode (mB M_X9_readPart) 209 = .ok (.aload_n 0, 1) := by decide +kernel
theorem r_X9_readPart_209 {x1 : Value} {a : Nat} {st : List Value} {h : AH} : Run M_X9_readPart 209 [.ref a, x1] st h = Run M_X9_readPart 210 [.ref a, x1] (.ref a :: st) h := R_aload_n d_X9_readPart_209 rfl
theorem d_X9_readPart_210 : decode (mB M_X9_readPart) 210 = .ok (.invokevirtual 145, 3) := by decide +kernel
theorem r_X9_readPart_210 {x0 x1 : Value} {a : Nat} {h : AH} : Run M_X9_readPart 210 [x0, x1] (.ref a :: []) h = if refO h 9 (some (.ref a)) = true then (if (Call M_X9_stops h [.ref a]).isSome = true then Run M_X9_readPart 213 [x0, x1] (rL (Call M_X9_stops h [.ref a]) ++ []) (cH (Call M_X9_stops h [.ref a])) else none) else none := R_virt d_X9_readPart_210 rfl rfl rfl rfl rfl (Nat.le_of_ble_eq_true rfl)
theorem d_X9_readPart_213 : decode (mB M_X9_readPart) 213 = .ok (.aload_n 0, 1) := by decide +kernel
theorem r_X9_readPart_213 {x1 : Value} {a : Nat} {st : List Value} {h : AH} : Run M_X9_readPart 213 [.ref a, x1] st h = Run M_X9_readPart 214 [.ref a, x1] (.ref a :: st) h := R_aload_n d_X9_readPart_213 rfl
theorem d_X9_readPart_214 : decode (mB M_X9_readPart) 214 = .ok (.dup, 1) := by decide +kernel
theorem r_X9_readPart_214 {x0 x1 : Value} {x : Nat} {st : List Value} {h : AH} : Run M_X9_readPart 214 [x0, x1] (.ref x :: st) h = Run M_X9_readPart 215 [x0, x1] (.ref x :: .ref x :: st) h := R_dupr d_X9_readPart_214
theorem d_X9_readPart_215 : decode (mB M_X9_readPart) 215 = .ok (.getfield 130, 3) := by decide +kernel
theorem r_X9_readPart_215 {x0 x1 : Value} {a : Nat} {st : List Value} {h : AH} : Run M_X9_readPart 215 [x0, x1] (.ref a :: st) h = if (gF h a 9 21).isSome = true then Run M_X9_readPart 218 [x0, x1] ((gF h a 9 21).getD .null :: st) h else none := R_getfield d_X9_readPart_215 rfl
theorem d_X9_readPart_218 : decode (mB M_X9_readPart) 218 = .ok (.iconst 1, 1) := by decide +kernel
theorem r_X9_readPart_218 {x0 x1 : Value} {st : List Value} {h : AH} : Run M_X9_readPart 218 [x0, x1] st h = Run M_X9_readPart 219 [x0, x1] (.int (nI 1) :: st) h := R_iconst d_X9_readPart_218 (by decide)
theorem d_X9_readPart_219 : decode (mB M_X9_readPart) 219 = .ok (.iadd, 1) := by decide +kernel
theorem r_X9_readPart_219 {x0 x1 : Value} {x y : Int32} {st : List Value} {h : AH} : Run M_X9_readPart 219 [x0, x1] (.int y :: .int x :: st) h = Run M_X9_readPart 220 [x0, x1] (.int (x + y) :: st) h := R_iadd d_X9_readPart_219
theorem d_X9_readPart_220 : decode (mB M_X9_readPart) 220 = .ok (.putfield 130, 3) := by decide +kernel
theorem r_X9_readPart_220 {x0 x1 : Value} {v : Int32} {a : Nat} {st : List Value} {h : AH} : Run M_X9_readPart 220 [x0, x1] (.int v :: .ref a :: st) h = if (pF h a 9 21 (.int v)).isSome = true then Run M_X9_readPart 223 [x0, x1] st ((pF h a 9 21 (.int v)).getD h) else none := R_putfield d_X9_readPart_220 rfl (okP_int rfl rfl)
theorem d_X9_readPart_223 : decode (mB M_X9_readPart) 223 = .ok (.return_, 1) := by decide +kernel
theorem r_X9_readPart_223 {x0 x1 : Value} {h : AH} : Run M_X9_readPart 223 [x0, x1] [] h = some (h, none) := R_return d_X9_readPart_223 rfl
theorem d_X9_readSign_0 : decode (mB M_X9_readSign) 0 = .ok (.aload_n 0, 1) := by decide +kernel
theorem r_X9_readSign_0 {a : Nat} {st : List Value} {h : AH} : Run M_X9_readSign 0 [.ref a] st h = Run M_X9_readSign 1 [.ref a] (.ref a :: st) h := R_aload_n d_X9_readSign_0 rfl
theorem d_X9_readSign_1 : decode (mB M_X9_readSign) 1 = .ok (.aload_n 0, 1) := by decide +kernel
theorem r_X9_readSign_1 {a : Nat} {st : List Value} {h : AH} : Run M_X9_readSign 1 [.ref a] st h = Run M_X9_readSign 2 [.ref a] (.ref a :: st) h := R_aload_n d_X9_readSign_1 rfl
theorem d_X9_readSign_2 : decode (mB M_X9_readSign) 2 = .ok (.getfield 148, 3) := by decide +kernel
theorem r_X9_readSign_2 {x0 : Value} {a : Nat} {st : List Value} {h : AH} : Run M_X9_readSign 2 [x0] (.ref a :: st) h = if (gF h a 9 32).isSome = true then Run M_X9_readSign 5 [x0] ((gF h a 9 32).getD .null :: st) h else none := R_getfield d_X9_readSign_2 rfl
theorem d_X9_readSign_5 : decode (mB M_X9_readSign) 5 = .ok (.iconst 0, 1) := by decide +kernel
theorem r_X9_readSign_5 {x0 : Value} {st : List Value} {h : AH} : Run M_X9_readSign 5 [x0] st h = Run M_X9_readSign 6 [x0] (.int (nI 0) :: st) h := R_iconst d_X9_readSign_5 (by decide)
theorem d_X9_readSign_6 : decode (mB M_X9_readSign) 6 = .ok (.invokevirtual 137, 3) := by decide +kernel
theorem r_X9_readSign_6 {x0 : Value} {p0 : Int32} {p1 : Int32} {a : Nat} {h : AH} : Run M_X9_readSign 6 [x0] (.int p1 :: .int p0 :: .ref a :: []) h = if refO h 9 (some (.ref a)) = true then (if (Call M_X9_begins h [.ref a, .int p0, .int p1]).isSome = true then Run M_X9_readSign 9 [x0] (rL (Call M_X9_begins h [.ref a, .int p0, .int p1]) ++ []) (cH (Call M_X9_begins h [.ref a, .int p0, .int p1])) else none) else none := R_virt d_X9_readSign_6 rfl rfl rfl rfl rfl (Nat.le_of_ble_eq_true rfl)
theorem d_X9_readSign_9 : decode (mB M_X9_readSign) 9 = .ok (.ifCond .ne 4, 3) := by decide +kernel
theorem r_X9_readSign_9 {x0 : Value} {x : Int32} {st : List Value} {h : AH} : Run M_X9_readSign 9 [x0] (.int x :: st) h = if x = nI 0 then Run M_X9_readSign 12 [x0] st h else Run M_X9_readSign 13 [x0] st h := R_if_ne d_X9_readSign_9 (by decide)
theorem d_X9_readSign_12 : decode (mB M_X9_readSign) 12 = .ok (.return_, 1) := by decide +kernel
theorem r_X9_readSign_12 {x0 : Value} {h : AH} : Run M_X9_readSign 12 [x0] [] h = some (h, none) := R_return d_X9_readSign_12 rfl
theorem d_X9_readSign_13 : decode (mB M_X9_readSign) 13 = .ok (.aload_n 0, 1) := by decide +kernel
theorem r_X9_readSign_13 {a : Nat} {st : List Value} {h : AH} : Run M_X9_readSign 13 [.ref a] st h = Run M_X9_readSign 14 [.ref a] (.ref a :: st) h := R_aload_n d_X9_readSign_13 rfl
theorem d_X9_readSign_14 : decode (mB M_X9_readSign) 14 = .ok (.getfield 66, 3) := by decide +kernel
theorem r_X9_readSign_14 {x0 : Value} {a : Nat} {st : List Value} {h : AH} : Run M_X9_readSign 14 [x0] (.ref a :: st) h = if (gF h a 9 31).isSome = true then Run M_X9_readSign 17 [x0] ((gF h a 9 31).getD .null :: st) h else none := R_getfield d_X9_readSign_14 rfl
theorem d_X9_readSign_17 : decode (mB M_X9_readSign) 17 = .ok (.iconst 3, 1) := by decide +kernel
theorem r_X9_readSign_17 {x0 : Value} {st : List Value} {h : AH} : Run M_X9_readSign 17 [x0] st h = Run M_X9_readSign 18 [x0] (.int (nI 3) :: st) h := R_iconst d_X9_readSign_17 (by decide)
theorem d_X9_readSign_18 : decode (mB M_X9_readSign) 18 = .ok (.aload_n 0, 1) := by decide +kernel
theorem r_X9_readSign_18 {a : Nat} {st : List Value} {h : AH} : Run M_X9_readSign 18 [.ref a] st h = Run M_X9_readSign 19 [.ref a] (.ref a :: st) h := R_aload_n d_X9_readSign_18 rfl
theorem d_X9_readSign_19 : decode (mB M_X9_readSign) 19 = .ok (.iconst 0, 1) := by decide +kernel
theorem r_X9_readSign_19 {x0 : Value} {st : List Value} {h : AH} : Run M_X9_readSign 19 [x0] st h = Run M_X9_readSign 20 [x0] (.int (nI 0) :: st) h := R_iconst d_X9_readSign_19 (by decide)
theorem d_X9_readSign_20 : decode (mB M_X9_readSign) 20 = .ok (.bipush 8, 2) := by decide +kernel
theorem r_X9_readSign_20 {x0 : Value} {st : List Value} {h : AH} : Run M_X9_readSign 20 [x0] st h = Run M_X9_readSign 22 [x0] (.int (nI 8) :: st) h := R_bipush d_X9_readSign_20 (by decide)
theorem d_X9_readSign_22 : decode (mB M_X9_readSign) 22 = .ok (.iconst 0, 1) := by decide +kernel
theorem r_X9_readSign_22 {x0 : Value} {st : List Value} {h : AH} : Run M_X9_readSign 22 [x0] st h = Run M_X9_readSign 23 [x0] (.int (nI 0) :: st) h := R_iconst d_X9_readSign_22 (by decide)
theorem d_X9_readSign_23 : decode (mB M_X9_readSign) 23 = .ok (.invokevirtual 141, 3) := by decide +kernel
theorem r_X9_readSign_23 {x0 : Value} {p0 : Int32} {p1 : Int32} {p2 : Int32} {a : Nat} {w0 w1 : Value} {h : AH} : Run M_X9_readSign 23 [x0] (.int p2 :: .int p1 :: .int p0 :: .ref a :: [w0, w1]) h = if refO h 9 (some (.ref a)) = true then (if (Call M_X9_number h [.ref a, .int p0, .int p1, .int p2]).isSome = true then Run M_X9_readSign 26 [x0] (rL (Call M_X9_number h [.ref a, .int p0, .int p1, .int p2]) ++ [w0, w1]) (cH (Call M_X9_number h [.ref a, .int p0, .int p1, .int p2])) else none) else none := R_virt d_X9_readSign_23 rfl rfl rfl rfl rfl (Nat.le_of_ble_eq_true rfl)
theorem d_X9_readSign_26 : decode (mB M_X9_readSign) 26 = .ok (.iastore, 1) := by decide +kernel
theorem r_X9_readSign_26 {x0 : Value} {a : Nat} {i x : Int32} {st : List Value} {h : AH} : Run M_X9_readSign 26 [x0] (.int x :: .int i :: .ref a :: st) h = if (pI 0 h a i x).isSome = true then Run M_X9_readSign 27 [x0] st ((pI 0 h a i x).getD h) else none := R_iastore d_X9_readSign_26
theorem d_X9_readSign_27 : decode (mB M_X9_readSign) 27 = .ok (.aload_n 0, 1) := by decide +kernel
theorem r_X9_readSign_27 {a : Nat} {st : List Value} {h : AH} : Run M_X9_readSign 27 [.ref a] st h = Run M_X9_readSign 28 [.ref a] (.ref a :: st) h := R_aload_n d_X9_readSign_27 rfl
theorem d_X9_readSign_28 : decode (mB M_X9_readSign) 28 = .ok (.getfield 66, 3) := by decide +kernel
theorem r_X9_readSign_28 {x0 : Value} {a : Nat} {st : List Value} {h : AH} : Run M_X9_readSign 28 [x0] (.ref a :: st) h = if (gF h a 9 31).isSome = true then Run M_X9_readSign 31 [x0] ((gF h a 9 31).getD .null :: st) h else none := R_getfield d_X9_readSign_28 rfl
theorem d_X9_readSign_31 : decode (mB M_X9_readSign) 31 = .ok (.iconst 4, 1) := by decide +kernel
theorem r_X9_readSign_31 {x0 : Value} {st : List Value} {h : AH} : Run M_X9_readSign 31 [x0] st h = Run M_X9_readSign 32 [x0] (.int (nI 4) :: st) h := R_iconst d_X9_readSign_31 (by decide)
theorem d_X9_readSign_32 : decode (mB M_X9_readSign) 32 = .ok (.aload_n 0, 1) := by decide +kernel
theorem r_X9_readSign_32 {a : Nat} {st : List Value} {h : AH} : Run M_X9_readSign 32 [.ref a] st h = Run M_X9_readSign 33 [.ref a] (.ref a :: st) h := R_aload_n d_X9_readSign_32 rfl
theorem d_X9_readSign_33 : decode (mB M_X9_readSign) 33 = .ok (.iconst 0, 1) := by decide +kernel
theorem r_X9_readSign_33 {x0 : Value} {st : List Value} {h : AH} : Run M_X9_readSign 33 [x0] st h = Run M_X9_readSign 34 [x0] (.int (nI 0) :: st) h := R_iconst d_X9_readSign_33 (by decide)
theorem d_X9_readSign_34 : decode (mB M_X9_readSign) 34 = .ok (.bipush 8, 2) := by decide +kernel
theorem r_X9_readSign_34 {x0 : Value} {st : List Value} {h : AH} : Run M_X9_readSign 34 [x0] st h = Run M_X9_readSign 36 [x0] (.int (nI 8) :: st) h := R_bipush d_X9_readSign_34 (by decide)
theorem d_X9_readSign_36 : decode (mB M_X9_readSign) 36 = .ok (.iconst 0, 1) := by decide +kernel
theorem r_X9_readSign_36 {x0 : Value} {st : List Value} {h : AH} : Run M_X9_readSign 36 [x0] st h = Run M_X9_readSign 37 [x0] (.int (nI 0) :: st) h := R_iconst d_X9_readSign_36 (by decide)
theorem d_X9_readSign_37 : decode (mB M_X9_readSign) 37 = .ok (.invokevirtual 141, 3) := by decide +kernel
theorem r_X9_readSign_37 {x0 : Value} {p0 : Int32} {p1 : Int32} {p2 : Int32} {a : Nat} {w0 w1 : Value} {h : AH} : Run M_X9_readSign 37 [x0] (.int p2 :: .int p1 :: .int p0 :: .ref a :: [w0, w1]) h = if refO h 9 (some (.ref a)) = true then (if (Call M_X9_number h [.ref a, .int p0, .int p1, .int p2]).isSome = true then Run M_X9_readSign 40 [x0] (rL (Call M_X9_number h [.ref a, .int p0, .int p1, .int p2]) ++ [w0, w1]) (cH (Call M_X9_number h [.ref a, .int p0, .int p1, .int p2])) else none) else none := R_virt d_X9_readSign_37 rfl rfl rfl rfl rfl (Nat.le_of_ble_eq_true rfl)
theorem d_X9_readSign_40 : decode (mB M_X9_readSign) 40 = .ok (.iastore, 1) := by decide +kernel
theorem r_X9_readSign_40 {x0 : Value} {a : Nat} {i x : Int32} {st : List Value} {h : AH} : Run M_X9_readSign 40 [x0] (.int x :: .int i :: .ref a :: st) h = if (pI 0 h a i x).isSome = true then Run M_X9_readSign 41 [x0] st ((pI 0 h a i x).getD h) else none := R_iastore d_X9_readSign_40
theorem d_X9_readSign_41 : decode (mB M_X9_readSign) 41 = .ok (.aload_n 0, 1) := by decide +kernel
theorem r_X9_readSign_41 {a : Nat} {st : List Value} {h : AH} : Run M_X9_readSign 41 [.ref a] st h = Run M_X9_readSign 42 [.ref a] (.ref a :: st) h := R_aload_n d_X9_readSign_41 rfl
theorem d_X9_readSign_42 : decode (mB M_X9_readSign) 42 = .ok (.iconst 1, 1) := by decide +kernel
theorem r_X9_readSign_42 {x0 : Value} {st : List Value} {h : AH} : Run M_X9_readSign 42 [x0] st h = Run M_X9_readSign 43 [x0] (.int (nI 1) :: st) h := R_iconst d_X9_readSign_42 (by decide)
theorem d_X9_readSign_43 : decode (mB M_X9_readSign) 43 = .ok (.putfield 148, 3) := by decide +kernel
theorem r_X9_readSign_43_0 {x0 : Value} {a : Nat} {st : List Value} {h : AH} : Run M_X9_readSign 43 [x0] (.int (nI 0) :: .ref a :: st) h = if (pF h a 9 32 (.int (nI 0))).isSome = true then Run M_X9_readSign 46 [x0] st ((pF h a 9 32 (.int (nI 0))).getD h) else none := R_putfield d_X9_readSign_43 rfl (okP_bool rfl rfl (Or.inl rfl))
theorem r_X9_readSign_43_1 {x0 : Value} {a : Nat} {st : List Value} {h : AH} : Run M_X9_readSign 43 [x0] (.int (nI 1) :: .ref a :: st) h = if (pF h a 9 32 (.int (nI 1))).isSome = true then Run M_X9_readSign 46 [x0] st ((pF h a 9 32 (.int (nI 1))).getD h) else none := R_putfield d_X9_readSign_43 rfl (okP_bool rfl rfl (Or.inr rfl))
theorem d_X9_readSign_46 : decode (mB M_X9_readSign) 46 = .ok (.aload_n 0, 1) := by decide +kernel
theorem r_X9_readSign_46 {a : Nat} {st : List Value} {h : AH} : Run M_X9_readSign 46 [.ref a] st h = Run M_X9_readSign 47 [.ref a] (.ref a :: st) h := R_aload_n d_X9_readSign_46 rfl
theorem d_X9_readSign_47 : decode (mB M_X9_readSign) 47 = .ok (.invokevirtual 145, 3) := by decide +kernel
theorem r_X9_readSign_47 {x0 : Value} {a : Nat} {h : AH} : Run M_X9_readSign 47 [x0] (.ref a :: []) h = if refO h 9 (some (.ref a)) = true then (if (Call M_X9_stops h [.ref a]).isSome = true then Run M_X9_readSign 50 [x0] (rL (Call M_X9_stops h [.ref a]) ++ []) (cH (Call M_X9_stops h [.ref a])) else none) else none := R_virt d_X9_readSign_47 rfl rfl rfl rfl rfl (Nat.le_of_ble_eq_true rfl)
theorem d_X9_readSign_50 : decode (mB M_X9_readSign) 50 = .ok (.return_, 1) := by decide +kernel
theorem r_X9_readSign_50 {x0 : Value} {h : AH} : Run M_X9_readSign 50 [x0] [] h = some (h, none) := R_return d_X9_readSign_50 rfl
theorem d_X9_readCosts_0 : decode (mB M_X9_readCosts) 0 = .ok (.aload_n 0, 1) := by decide +kernel
theorem r_X9_readCosts_0 {a : Nat} {st : List Value} {h : AH} : Run M_X9_readCosts 0 [.ref a] st h = Run M_X9_readCosts 1 [.ref a] (.ref a :: st) h := R_aload_n d_X9_readCosts_0 rfl
theorem d_X9_readCosts_1 : decode (mB M_X9_readCosts) 1 = .ok (.aload_n 0, 1) := by decide +kernel
theorem r_X9_readCosts_1 {a : Nat} {st : List Value} {h : AH} : Run M_X9_readCosts 1 [.ref a] st h = Run M_X9_readCosts 2 [.ref a] (.ref a :: st) h := R_aload_n d_X9_readCosts_1 rfl
theorem d_X9_readCosts_2 : decode (mB M_X9_readCosts) 2 = .ok (.getfield 152, 3) := by decide +kernel
theorem r_X9_readCosts_2 {x0 : Value} {a : Nat} {st : List Value} {h : AH} : Run M_X9_readCosts 2 [x0] (.ref a :: st) h = if (gF h a 9 33).isSome = true then Run M_X9_readCosts 5 [x0] ((gF h a 9 33).getD .null :: st) h else none := R_getfield d_X9_readCosts_2 rfl
theorem d_X9_readCosts_5 : decode (mB M_X9_readCosts) 5 = .ok (.iconst 0, 1) := by decide +kernel
theorem r_X9_readCosts_5 {x0 : Value} {st : List Value} {h : AH} : Run M_X9_readCosts 5 [x0] st h = Run M_X9_readCosts 6 [x0] (.int (nI 0) :: st) h := R_iconst d_X9_readCosts_5 (by decide)
theorem d_X9_readCosts_6 : decode (mB M_X9_readCosts) 6 = .ok (.invokevirtual 137, 3) := by decide +kernel
theorem r_X9_readCosts_6 {x0 : Value} {p0 : Int32} {p1 : Int32} {a : Nat} {h : AH} : Run M_X9_readCosts 6 [x0] (.int p1 :: .int p0 :: .ref a :: []) h = if refO h 9 (some (.ref a)) = true then (if (Call M_X9_begins h [.ref a, .int p0, .int p1]).isSome = true then Run M_X9_readCosts 9 [x0] (rL (Call M_X9_begins h [.ref a, .int p0, .int p1]) ++ []) (cH (Call M_X9_begins h [.ref a, .int p0, .int p1])) else none) else none := R_virt d_X9_readCosts_6 rfl rfl rfl rfl rfl (Nat.le_of_ble_eq_true rfl)
theorem d_X9_readCosts_9 : decode (mB M_X9_readCosts) 9 = .ok (.ifCond .ne 4, 3) := by decide +kernel
theorem r_X9_readCosts_9 {x0 : Value} {x : Int32} {st : List Value} {h : AH} : Run M_X9_readCosts 9 [x0] (.int x :: st) h = if x = nI 0 then Run M_X9_readCosts 12 [x0] st h else Run M_X9_readCosts 13 [x0] st h := R_if_ne d_X9_readCosts_9 (by decide)
theorem d_X9_readCosts_12 : decode (mB M_X9_readCosts) 12 = .ok (.return_, 1) := by decide +kernel
theorem r_X9_readCosts_12 {x0 : Value} {h : AH} : Run M_X9_readCosts 12 [x0] [] h = some (h, none) := R_return d_X9_readCosts_12 rfl
theorem d_X9_readCosts_13 : decode (mB M_X9_readCosts) 13 = .ok (.aload_n 0, 1) := by decide +kernel
theorem r_X9_readCosts_13 {a : Nat} {st : List Value} {h : AH} : Run M_X9_readCosts 13 [.ref a] st h = Run M_X9_readCosts 14 [.ref a] (.ref a :: st) h := R_aload_n d_X9_readCosts_13 rfl
theorem d_X9_readCosts_14 : decode (mB M_X9_readCosts) 14 = .ok (.getfield 66, 3) := by decide +kernel
theorem r_X9_readCosts_14 {x0 : Value} {a : Nat} {st : List Value} {h : AH} : Run M_X9_readCosts 14 [x0] (.ref a :: st) h = if (gF h a 9 31).isSome = true then Run M_X9_readCosts 17 [x0] ((gF h a 9 31).getD .null :: st) h else none := R_getfield d_X9_readCosts_14 rfl
theorem d_X9_readCosts_17 : decode (mB M_X9_readCosts) 17 = .ok (.iconst 0, 1) := by decide +kernel
theorem r_X9_readCosts_17 {x0 : Value} {st : List Value} {h : AH} : Run M_X9_readCosts 17 [x0] st h = Run M_X9_readCosts 18 [x0] (.int (nI 0) :: st) h := R_iconst d_X9_readCosts_17 (by decide)
theorem d_X9_readCosts_18 : decode (mB M_X9_readCosts) 18 = .ok (.aload_n 0, 1) := by decide +kernel
theorem r_X9_readCosts_18 {a : Nat} {st : List Value} {h : AH} : Run M_X9_readCosts 18 [.ref a] st h = Run M_X9_readCosts 19 [.ref a] (.ref a :: st) h := R_aload_n d_X9_readCosts_18 rfl
theorem d_X9_readCosts_19 : decode (mB M_X9_readCosts) 19 = .ok (.iconst 0, 1) := by decide +kernel
theorem r_X9_readCosts_19 {x0 : Value} {st : List Value} {h : AH} : Run M_X9_readCosts 19 [x0] st h = Run M_X9_readCosts 20 [x0] (.int (nI 0) :: st) h := R_iconst d_X9_readCosts_19 (by decide)
theorem d_X9_readCosts_20 : decode (mB M_X9_readCosts) 20 = .ok (.bipush 20, 2) := by decide +kernel
theorem r_X9_readCosts_20 {x0 : Value} {st : List Value} {h : AH} : Run M_X9_readCosts 20 [x0] st h = Run M_X9_readCosts 22 [x0] (.int (nI 20) :: st) h := R_bipush d_X9_readCosts_20 (by decide)
theorem d_X9_readCosts_22 : decode (mB M_X9_readCosts) 22 = .ok (.iconst 0, 1) := by decide +kernel
theorem r_X9_readCosts_22 {x0 : Value} {st : List Value} {h : AH} : Run M_X9_readCosts 22 [x0] st h = Run M_X9_readCosts 23 [x0] (.int (nI 0) :: st) h := R_iconst d_X9_readCosts_22 (by decide)
theorem d_X9_readCosts_23 : decode (mB M_X9_readCosts) 23 = .ok (.invokevirtual 141, 3) := by decide +kernel
theorem r_X9_readCosts_23 {x0 : Value} {p0 : Int32} {p1 : Int32} {p2 : Int32} {a : Nat} {w0 w1 : Value} {h : AH} : Run M_X9_readCosts 23 [x0] (.int p2 :: .int p1 :: .int p0 :: .ref a :: [w0, w1]) h = if refO h 9 (some (.ref a)) = true then (if (Call M_X9_number h [.ref a, .int p0, .int p1, .int p2]).isSome = true then Run M_X9_readCosts 26 [x0] (rL (Call M_X9_number h [.ref a, .int p0, .int p1, .int p2]) ++ [w0, w1]) (cH (Call M_X9_number h [.ref a, .int p0, .int p1, .int p2])) else none) else none := R_virt d_X9_readCosts_23 rfl rfl rfl rfl rfl (Nat.le_of_ble_eq_true rfl)
theorem d_X9_readCosts_26 : decode (mB M_X9_readCosts) 26 = .ok (.iastore, 1) := by decide +kernel
theorem r_X9_readCosts_26 {x0 : Value} {a : Nat} {i x : Int32} {st : List Value} {h : AH} : Run M_X9_readCosts 26 [x0] (.int x :: .int i :: .ref a :: st) h = if (pI 0 h a i x).isSome = true then Run M_X9_readCosts 27 [x0] st ((pI 0 h a i x).getD h) else none := R_iastore d_X9_readCosts_26
theorem d_X9_readCosts_27 : decode (mB M_X9_readCosts) 27 = .ok (.aload_n 0, 1) := by decide +kernel
theorem r_X9_readCosts_27 {a : Nat} {st : List Value} {h : AH} : Run M_X9_readCosts 27 [.ref a] st h = Run M_X9_readCosts 28 [.ref a] (.ref a :: st) h := R_aload_n d_X9_readCosts_27 rfl
theorem d_X9_readCosts_28 : decode (mB M_X9_readCosts) 28 = .ok (.getfield 66, 3) := by decide +kernel
theorem r_X9_readCosts_28 {x0 : Value} {a : Nat} {st : List Value} {h : AH} : Run M_X9_readCosts 28 [x0] (.ref a :: st) h = if (gF h a 9 31).isSome = true then Run M_X9_readCosts 31 [x0] ((gF h a 9 31).getD .null :: st) h else none := R_getfield d_X9_readCosts_28 rfl
theorem d_X9_readCosts_31 : decode (mB M_X9_readCosts) 31 = .ok (.iconst 1, 1) := by decide +kernel
theorem r_X9_readCosts_31 {x0 : Value} {st : List Value} {h : AH} : Run M_X9_readCosts 31 [x0] st h = Run M_X9_readCosts 32 [x0] (.int (nI 1) :: st) h := R_iconst d_X9_readCosts_31 (by decide)
theorem d_X9_readCosts_32 : decode (mB M_X9_readCosts) 32 = .ok (.aload_n 0, 1) := by decide +kernel
theorem r_X9_readCosts_32 {a : Nat} {st : List Value} {h : AH} : Run M_X9_readCosts 32 [.ref a] st h = Run M_X9_readCosts 33 [.ref a] (.ref a :: st) h := R_aload_n d_X9_readCosts_32 rfl
theorem d_X9_readCosts_33 : decode (mB M_X9_readCosts) 33 = .ok (.iconst 0, 1) := by decide +kernel
theorem r_X9_readCosts_33 {x0 : Value} {st : List Value} {h : AH} : Run M_X9_readCosts 33 [x0] st h = Run M_X9_readCosts 34 [x0] (.int (nI 0) :: st) h := R_iconst d_X9_readCosts_33 (by decide)
theorem d_X9_readCosts_34 : decode (mB M_X9_readCosts) 34 = .ok (.bipush 20, 2) := by decide +kernel
theorem r_X9_readCosts_34 {x0 : Value} {st : List Value} {h : AH} : Run M_X9_readCosts 34 [x0] st h = Run M_X9_readCosts 36 [x0] (.int (nI 20) :: st) h := R_bipush d_X9_readCosts_34 (by decide)
theorem d_X9_readCosts_36 : decode (mB M_X9_readCosts) 36 = .ok (.iconst 0, 1) := by decide +kernel
theorem r_X9_readCosts_36 {x0 : Value} {st : List Value} {h : AH} : Run M_X9_readCosts 36 [x0] st h = Run M_X9_readCosts 37 [x0] (.int (nI 0) :: st) h := R_iconst d_X9_readCosts_36 (by decide)
theorem d_X9_readCosts_37 : decode (mB M_X9_readCosts) 37 = .ok (.invokevirtual 141, 3) := by decide +kernel
theorem r_X9_readCosts_37 {x0 : Value} {p0 : Int32} {p1 : Int32} {p2 : Int32} {a : Nat} {w0 w1 : Value} {h : AH} : Run M_X9_readCosts 37 [x0] (.int p2 :: .int p1 :: .int p0 :: .ref a :: [w0, w1]) h = if refO h 9 (some (.ref a)) = true then (if (Call M_X9_number h [.ref a, .int p0, .int p1, .int p2]).isSome = true then Run M_X9_readCosts 40 [x0] (rL (Call M_X9_number h [.ref a, .int p0, .int p1, .int p2]) ++ [w0, w1]) (cH (Call M_X9_number h [.ref a, .int p0, .int p1, .int p2])) else none) else none := R_virt d_X9_readCosts_37 rfl rfl rfl rfl rfl (Nat.le_of_ble_eq_true rfl)
theorem d_X9_readCosts_40 : decode (mB M_X9_readCosts) 40 = .ok (.iastore, 1) := by decide +kernel
theorem r_X9_readCosts_40 {x0 : Value} {a : Nat} {i x : Int32} {st : List Value} {h : AH} : Run M_X9_readCosts 40 [x0] (.int x :: .int i :: .ref a :: st) h = if (pI 0 h a i x).isSome = true then Run M_X9_readCosts 41 [x0] st ((pI 0 h a i x).getD h) else none := R_iastore d_X9_readCosts_40
theorem d_X9_readCosts_41 : decode (mB M_X9_readCosts) 41 = .ok (.aload_n 0, 1) := by decide +kernel
theorem r_X9_readCosts_41 {a : Nat} {st : List Value} {h : AH} : Run M_X9_readCosts 41 [.ref a] st h = Run M_X9_readCosts 42 [.ref a] (.ref a :: st) h := R_aload_n d_X9_readCosts_41 rfl
theorem d_X9_readCosts_42 : decode (mB M_X9_readCosts) 42 = .ok (.getfield 66, 3) := by decide +kernel
theorem r_X9_readCosts_42 {x0 : Value} {a : Nat} {st : List Value} {h : AH} : Run M_X9_readCosts 42 [x0] (.ref a :: st) h = if (gF h a 9 31).isSome = true then Run M_X9_readCosts 45 [x0] ((gF h a 9 31).getD .null :: st) h else none := R_getfield d_X9_readCosts_42 rfl
theorem d_X9_readCosts_45 : decode (mB M_X9_readCosts) 45 = .ok (.iconst 2, 1) := by decide +kernel
theorem r_X9_readCosts_45 {x0 : Value} {st : List Value} {h : AH} : Run M_X9_readCosts 45 [x0] st h = Run M_X9_readCosts 46 [x0] (.int (nI 2) :: st) h := R_iconst d_X9_readCosts_45 (by decide)
theorem d_X9_readCosts_46 : decode (mB M_X9_readCosts) 46 = .ok (.aload_n 0, 1) := by decide +kernel
theorem r_X9_readCosts_46 {a : Nat} {st : List Value} {h : AH} : Run M_X9_readCosts 46 [.ref a] st h = Run M_X9_readCosts 47 [.ref a] (.ref a :: st) h := R_aload_n d_X9_readCosts_46 rfl
theorem d_X9_readCosts_47 : decode (mB M_X9_readCosts) 47 = .ok (.iconst 0, 1) := by decide +kernel
theorem r_X9_readCosts_47 {x0 : Value} {st : List Value} {h : AH} : Run M_X9_readCosts 47 [x0] st h = Run M_X9_readCosts 48 [x0] (.int (nI 0) :: st) h := R_iconst d_X9_readCosts_47 (by decide)
theorem d_X9_readCosts_48 : decode (mB M_X9_readCosts) 48 = .ok (.bipush 20, 2) := by decide +kernel
theorem r_X9_readCosts_48 {x0 : Value} {st : List Value} {h : AH} : Run M_X9_readCosts 48 [x0] st h = Run M_X9_readCosts 50 [x0] (.int (nI 20) :: st) h := R_bipush d_X9_readCosts_48 (by decide)
theorem d_X9_readCosts_50 : decode (mB M_X9_readCosts) 50 = .ok (.iconst 0, 1) := by decide +kernel
theorem r_X9_readCosts_50 {x0 : Value} {st : List Value} {h : AH} : Run M_X9_readCosts 50 [x0] st h = Run M_X9_readCosts 51 [x0] (.int (nI 0) :: st) h := R_iconst d_X9_readCosts_50 (by decide)
theorem d_X9_readCosts_51 : decode (mB M_X9_readCosts) 51 = .ok (.invokevirtual 141, 3) := by decide +kernel
theorem r_X9_readCosts_51 {x0 : Value} {p0 : Int32} {p1 : Int32} {p2 : Int32} {a : Nat} {w0 w1 : Value} {h : AH} : Run M_X9_readCosts 51 [x0] (.int p2 :: .int p1 :: .int p0 :: .ref a :: [w0, w1]) h = if refO h 9 (some (.ref a)) = true then (if (Call M_X9_number h [.ref a, .int p0, .int p1, .int p2]).isSome = true then Run M_X9_readCosts 54 [x0] (rL (Call M_X9_number h [.ref a, .int p0, .int p1, .int p2]) ++ [w0, w1]) (cH (Call M_X9_number h [.ref a, .int p0, .int p1, .int p2])) else none) else none := R_virt d_X9_readCosts_51 rfl rfl rfl rfl rfl (Nat.le_of_ble_eq_true rfl)
theorem d_X9_readCosts_54 : decode (mB M_X9_readCosts) 54 = .ok (.iastore, 1) := by decide +kernel
theorem r_X9_readCosts_54 {x0 : Value} {a : Nat} {i x : Int32} {st : List Value} {h : AH} : Run M_X9_readCosts 54 [x0] (.int x :: .int i :: .ref a :: st) h = if (pI 0 h a i x).isSome = true then Run M_X9_readCosts 55 [x0] st ((pI 0 h a i x).getD h) else none := R_iastore d_X9_readCosts_54
theorem d_X9_readCosts_55 : decode (mB M_X9_readCosts) 55 = .ok (.aload_n 0, 1) := by decide +kernel
theorem r_X9_readCosts_55 {a : Nat} {st : List Value} {h : AH} : Run M_X9_readCosts 55 [.ref a] st h = Run M_X9_readCosts 56 [.ref a] (.ref a :: st) h := R_aload_n d_X9_readCosts_55 rfl
theorem d_X9_readCosts_56 : decode (mB M_X9_readCosts) 56 = .ok (.iconst 1, 1) := by decide +kernel
theorem r_X9_readCosts_56 {x0 : Value} {st : List Value} {h : AH} : Run M_X9_readCosts 56 [x0] st h = Run M_X9_readCosts 57 [x0] (.int (nI 1) :: st) h := R_iconst d_X9_readCosts_56 (by decide)
theorem d_X9_readCosts_57 : decode (mB M_X9_readCosts) 57 = .ok (.putfield 152, 3) := by decide +kernel
theorem r_X9_readCosts_57_0 {x0 : Value} {a : Nat} {st : List Value} {h : AH} : Run M_X9_readCosts 57 [x0] (.int (nI 0) :: .ref a :: st) h = if (pF h a 9 33 (.int (nI 0))).isSome = true then Run M_X9_readCosts 60 [x0] st ((pF h a 9 33 (.int (nI 0))).getD h) else none := R_putfield d_X9_readCosts_57 rfl (okP_bool rfl rfl (Or.inl rfl))
theorem r_X9_readCosts_57_1 {x0 : Value} {a : Nat} {st : List Value} {h : AH} : Run M_X9_readCosts 57 [x0] (.int (nI 1) :: .ref a :: st) h = if (pF h a 9 33 (.int (nI 1))).isSome = true then Run M_X9_readCosts 60 [x0] st ((pF h a 9 33 (.int (nI 1))).getD h) else none := R_putfield d_X9_readCosts_57 rfl (okP_bool rfl rfl (Or.inr rfl))
theorem d_X9_readCosts_60 : decode (mB M_X9_readCosts) 60 = .ok (.aload_n 0, 1) := by decide +kernel
theorem r_X9_readCosts_60 {a : Nat} {st : List Value} {h : AH} : Run M_X9_readCosts 60 [.ref a] st h = Run M_X9_readCosts 61 [.ref a] (.ref a :: st) h := R_aload_n d_X9_readCosts_60 rfl
theorem d_X9_readCosts_61 : decode (mB M_X9_readCosts) 61 = .ok (.invokevirtual 145, 3) := by decide +kernel
theorem r_X9_readCosts_61 {x0 : Value} {a : Nat} {h : AH} : Run M_X9_readCosts 61 [x0] (.ref a :: []) h = if refO h 9 (some (.ref a)) = true then (if (Call M_X9_stops h [.ref a]).isSome = true then Run M_X9_readCosts 64 [x0] (rL (Call M_X9_stops h [.ref a]) ++ []) (cH (Call M_X9_stops h [.ref a])) else none) else none := R_virt d_X9_readCosts_61 rfl rfl rfl rfl rfl (Nat.le_of_ble_eq_true rfl)
theorem d_X9_readCosts_64 : decode (mB M_X9_readCosts) 64 = .ok (.return_, 1) := by decide +kernel
theorem r_X9_readCosts_64 {x0 : Value} {h : AH} : Run M_X9_readCosts 64 [x0] [] h = some (h, none) := R_return d_X9_readCosts_64 rfl
theorem d_X9_readPlayer_0 : decode (mB M_X9_readPlayer) 0 = .ok (.aload_n 0, 1) := by decide +kernel
theorem r_X9_readPlayer_0 {a : Nat} {st : List Value} {h : AH} : Run M_X9_readPlayer 0 [.ref a] st h = Run M_X9_readPlayer 1 [.ref a] (.ref a :: st) h := R_aload_n d_X9_readPlayer_0 rfl
theorem d_X9_readPlayer_1 : decode (mB M_X9_readPlayer) 1 = .ok (.aload_n 0, 1) := by decide +kernel
theorem r_X9_readPlayer_1 {a : Nat} {st : List Value} {h : AH} : Run M_X9_readPlayer 1 [.ref a] st h = Run M_X9_readPlayer 2 [.ref a] (.ref a :: st) h := R_aload_n d_X9_readPlayer_1 rfl
theorem d_X9_readPlayer_2 : decode (mB M_X9_readPlayer) 2 = .ok (.getfield 155, 3) := by decide +kernel
theorem r_X9_readPlayer_2 {x0 : Value} {a : Nat} {st : List Value} {h : AH} : Run M_X9_readPlayer 2 [x0] (.ref a :: st) h = if (gF h a 9 27).isSome = true then Run M_X9_readPlayer 5 [x0] ((gF h a 9 27).getD .null :: st) h else none := R_getfield d_X9_readPlayer_2 rfl
theorem d_X9_readPlayer_5 : decode (mB M_X9_readPlayer) 5 = .ok (.iconst 5, 1) := by decide +kernel
theorem r_X9_readPlayer_5 {x0 : Value} {st : List Value} {h : AH} : Run M_X9_readPlayer 5 [x0] st h = Run M_X9_readPlayer 6 [x0] (.int (nI 5) :: st) h := R_iconst d_X9_readPlayer_5 (by decide)
theorem d_X9_readPlayer_6 : decode (mB M_X9_readPlayer) 6 = .ok (.if_icmp .ne 7, 3) := by decide +kernel
theorem r_X9_readPlayer_6 {x0 : Value} {x y : Int32} {st : List Value} {h : AH} : Run M_X9_readPlayer 6 [x0] (.int y :: .int x :: st) h = if x = y then Run M_X9_readPlayer 9 [x0] st h else Run M_X9_readPlayer 13 [x0] st h := R_icmp_ne d_X9_readPlayer_6 (by decide)
theorem d_X9_readPlayer_9 : decode (mB M_X9_readPlayer) 9 = .ok (.iconst 1, 1) := by decide +kernel
theorem r_X9_readPlayer_9 {x0 : Value} {st : List Value} {h : AH} : Run M_X9_readPlayer 9 [x0] st h = Run M_X9_readPlayer 10 [x0] (.int (nI 1) :: st) h := R_iconst d_X9_readPlayer_9 (by decide)
theorem d_X9_readPlayer_10 : decode (mB M_X9_readPlayer) 10 = .ok (.goto 4, 3) := by decide +kernel
theorem r_X9_readPlayer_10 {x0 : Value} {st : List Value} {h : AH} : Run M_X9_readPlayer 10 [x0] st h = Run M_X9_readPlayer 14 [x0] st h := R_goto d_X9_readPlayer_10 (by decide)
theorem d_X9_readPlayer_13 : decode (mB M_X9_readPlayer) 13 = .ok (.iconst 0, 1) := by decide +kernel
theorem r_X9_readPlayer_13 {x0 : Value} {st : List Value} {h : AH} : Run M_X9_readPlayer 13 [x0] st h = Run M_X9_readPlayer 14 [x0] (.int (nI 0) :: st) h := R_iconst d_X9_readPlayer_13 (by decide)
theorem d_X9_readPlayer_14 : decode (mB M_X9_readPlayer) 14 = .ok (.iconst 0, 1) := by decide +kernel
theorem r_X9_readPlayer_14 {x0 : Value} {st : List Value} {h : AH} : Run M_X9_readPlayer 14 [x0] st h = Run M_X9_readPlayer 15 [x0] (.int (nI 0) :: st) h := R_iconst d_X9_readPlayer_14 (by decide)
theorem d_X9_readPlayer_15 : decode (mB M_X9_readPlayer) 15 = .ok (.invokevirtual 137, 3) := by decide +kernel
theorem r_X9_readPlayer_15 {x0 : Value} {p0 : Int32} {p1 : Int32} {a : Nat} {h : AH} : Run M_X9_readPlayer 15 [x0] (.int p1 :: .int p0 :: .ref a :: []) h = if refO h 9 (some (.ref a)) = true then (if (Call M_X9_begins h [.ref a, .int p0, .int p1]).isSome = true then Run M_X9_readPlayer 18 [x0] (rL (Call M_X9_begins h [.ref a, .int p0, .int p1]) ++ []) (cH (Call M_X9_begins h [.ref a, .int p0, .int p1])) else none) else none := R_virt d_X9_readPlayer_15 rfl rfl rfl rfl rfl (Nat.le_of_ble_eq_true rfl)
theorem d_X9_readPlayer_18 : decode (mB M_X9_readPlayer) 18 = .ok (.ifCond .ne 4, 3) := by decide +kernel
theorem r_X9_readPlayer_18 {x0 : Value} {x : Int32} {st : List Value} {h : AH} : Run M_X9_readPlayer 18 [x0] (.int x :: st) h = if x = nI 0 then Run M_X9_readPlayer 21 [x0] st h else Run M_X9_readPlayer 22 [x0] st h := R_if_ne d_X9_readPlayer_18 (by decide)
theorem d_X9_readPlayer_21 : decode (mB M_X9_readPlayer) 21 = .ok (.return_, 1) := by decide +kernel
theorem r_X9_readPlayer_21 {x0 : Value} {h : AH} : Run M_X9_readPlayer 21 [x0] [] h = some (h, none) := R_return d_X9_readPlayer_21 rfl
theorem d_X9_readPlayer_22 : decode (mB M_X9_readPlayer) 22 = .ok (.aload_n 0, 1) := by decide +kernel
theorem r_X9_readPlayer_22 {a : Nat} {st : List Value} {h : AH} : Run M_X9_readPlayer 22 [.ref a] st h = Run M_X9_readPlayer 23 [.ref a] (.ref a :: st) h := R_aload_n d_X9_readPlayer_22 rfl
theorem d_X9_readPlayer_23 : decode (mB M_X9_readPlayer) 23 = .ok (.getfield 60, 3) := by decide +kernel
theorem r_X9_readPlayer_23 {x0 : Value} {a : Nat} {st : List Value} {h : AH} : Run M_X9_readPlayer 23 [x0] (.ref a :: st) h = if (gF h a 9 28).isSome = true then Run M_X9_readPlayer 26 [x0] ((gF h a 9 28).getD .null :: st) h else none := R_getfield d_X9_readPlayer_23 rfl
theorem d_X9_readPlayer_26 : decode (mB M_X9_readPlayer) 26 = .ok (.iconst 2, 1) := by decide +kernel
theorem r_X9_readPlayer_26 {x0 : Value} {st : List Value} {h : AH} : Run M_X9_readPlayer 26 [x0] st h = Run M_X9_readPlayer 27 [x0] (.int (nI 2) :: st) h := R_iconst d_X9_readPlayer_26 (by decide)
theorem d_X9_readPlayer_27 : decode (mB M_X9_readPlayer) 27 = .ok (.aload_n 0, 1) := by decide +kernel
theorem r_X9_readPlayer_27 {a : Nat} {st : List Value} {h : AH} : Run M_X9_readPlayer 27 [.ref a] st h = Run M_X9_readPlayer 28 [.ref a] (.ref a :: st) h := R_aload_n d_X9_readPlayer_27 rfl
theorem d_X9_readPlayer_28 : decode (mB M_X9_readPlayer) 28 = .ok (.getfield 155, 3) := by decide +kernel
theorem r_X9_readPlayer_28 {x0 : Value} {a : Nat} {st : List Value} {h : AH} : Run M_X9_readPlayer 28 [x0] (.ref a :: st) h = if (gF h a 9 27).isSome = true then Run M_X9_readPlayer 31 [x0] ((gF h a 9 27).getD .null :: st) h else none := R_getfield d_X9_readPlayer_28 rfl
theorem d_X9_readPlayer_31 : decode (mB M_X9_readPlayer) 31 = .ok (.imul, 1) := by decide +kernel
theorem r_X9_readPlayer_31 {x0 : Value} {x y : Int32} {st : List Value} {h : AH} : Run M_X9_readPlayer 31 [x0] (.int y :: .int x :: st) h = Run M_X9_readPlayer 32 [x0] (.int (x * y) :: st) h := R_imul d_X9_readPlayer_31
theorem d_X9_readPlayer_32 : decode (mB M_X9_readPlayer) 32 = .ok (.aload_n 0, 1) := by decide +kernel
theorem r_X9_readPlayer_32 {a : Nat} {st : List Value} {h : AH} : Run M_X9_readPlayer 32 [.ref a] st h = Run M_X9_readPlayer 33 [.ref a] (.ref a :: st) h := R_aload_n d_X9_readPlayer_32 rfl
theorem d_X9_readPlayer_33 : decode (mB M_X9_readPlayer) 33 = .ok (.iconst 0, 1) := by decide +kernel
theorem r_X9_readPlayer_33 {x0 : Value} {st : List Value} {h : AH} : Run M_X9_readPlayer 33 [x0] st h = Run M_X9_readPlayer 34 [x0] (.int (nI 0) :: st) h := R_iconst d_X9_readPlayer_33 (by decide)
theorem d_X9_readPlayer_34 : decode (mB M_X9_readPlayer) 34 = .ok (.bipush 30, 2) := by decide +kernel
theorem r_X9_readPlayer_34 {x0 : Value} {st : List Value} {h : AH} : Run M_X9_readPlayer 34 [x0] st h = Run M_X9_readPlayer 36 [x0] (.int (nI 30) :: st) h := R_bipush d_X9_readPlayer_34 (by decide)
theorem d_X9_readPlayer_36 : decode (mB M_X9_readPlayer) 36 = .ok (.iconst 0, 1) := by decide +kernel
theorem r_X9_readPlayer_36 {x0 : Value} {st : List Value} {h : AH} : Run M_X9_readPlayer 36 [x0] st h = Run M_X9_readPlayer 37 [x0] (.int (nI 0) :: st) h := R_iconst d_X9_readPlayer_36 (by decide)
theorem d_X9_readPlayer_37 : decode (mB M_X9_readPlayer) 37 = .ok (.invokevirtual 141, 3) := by decide +kernel
theorem r_X9_readPlayer_37 {x0 : Value} {p0 : Int32} {p1 : Int32} {p2 : Int32} {a : Nat} {w0 w1 : Value} {h : AH} : Run M_X9_readPlayer 37 [x0] (.int p2 :: .int p1 :: .int p0 :: .ref a :: [w0, w1]) h = if refO h 9 (some (.ref a)) = true then (if (Call M_X9_number h [.ref a, .int p0, .int p1, .int p2]).isSome = true then Run M_X9_readPlayer 40 [x0] (rL (Call M_X9_number h [.ref a, .int p0, .int p1, .int p2]) ++ [w0, w1]) (cH (Call M_X9_number h [.ref a, .int p0, .int p1, .int p2])) else none) else none := R_virt d_X9_readPlayer_37 rfl rfl rfl rfl rfl (Nat.le_of_ble_eq_true rfl)
theorem d_X9_readPlayer_40 : decode (mB M_X9_readPlayer) 40 = .ok (.iastore, 1) := by decide +kernel
theorem r_X9_readPlayer_40 {x0 : Value} {a : Nat} {i x : Int32} {st : List Value} {h : AH} : Run M_X9_readPlayer 40 [x0] (.int x :: .int i :: .ref a :: st) h = if (pI 0 h a i x).isSome = true then Run M_X9_readPlayer 41 [x0] st ((pI 0 h a i x).getD h) else none := R_iastore d_X9_readPlayer_40
theorem d_X9_readPlayer_41 : decode (mB M_X9_readPlayer) 41 = .ok (.aload_n 0, 1) := by decide +kernel
theorem r_X9_readPlayer_41 {a : Nat} {st : List Value} {h : AH} : Run M_X9_readPlayer 41 [.ref a] st h = Run M_X9_readPlayer 42 [.ref a] (.ref a :: st) h := R_aload_n d_X9_readPlayer_41 rfl
theorem d_X9_readPlayer_42 : decode (mB M_X9_readPlayer) 42 = .ok (.getfield 60, 3) := by decide +kernel
theorem r_X9_readPlayer_42 {x0 : Value} {a : Nat} {st : List Value} {h : AH} : Run M_X9_readPlayer 42 [x0] (.ref a :: st) h = if (gF h a 9 28).isSome = true then Run M_X9_readPlayer 45 [x0] ((gF h a 9 28).getD .null :: st) h else none := R_getfield d_X9_readPlayer_42 rfl
theorem d_X9_readPlayer_45 : decode (mB M_X9_readPlayer) 45 = .ok (.iconst 2, 1) := by decide +kernel
theorem r_X9_readPlayer_45 {x0 : Value} {st : List Value} {h : AH} : Run M_X9_readPlayer 45 [x0] st h = Run M_X9_readPlayer 46 [x0] (.int (nI 2) :: st) h := R_iconst d_X9_readPlayer_45 (by decide)
theorem d_X9_readPlayer_46 : decode (mB M_X9_readPlayer) 46 = .ok (.aload_n 0, 1) := by decide +kernel
theorem r_X9_readPlayer_46 {a : Nat} {st : List Value} {h : AH} : Run M_X9_readPlayer 46 [.ref a] st h = Run M_X9_readPlayer 47 [.ref a] (.ref a :: st) h := R_aload_n d_X9_readPlayer_46 rfl
theorem d_X9_readPlayer_47 : decode (mB M_X9_readPlayer) 47 = .ok (.getfield 155, 3) := by decide +kernel
theorem r_X9_readPlayer_47 {x0 : Value} {a : Nat} {st : List Value} {h : AH} : Run M_X9_readPlayer 47 [x0] (.ref a :: st) h = if (gF h a 9 27).isSome = true then Run M_X9_readPlayer 50 [x0] ((gF h a 9 27).getD .null :: st) h else none := R_getfield d_X9_readPlayer_47 rfl
theorem d_X9_readPlayer_50 : decode (mB M_X9_readPlayer) 50 = .ok (.imul, 1) := by decide +kernel
theorem r_X9_readPlayer_50 {x0 : Value} {x y : Int32} {st : List Value} {h : AH} : Run M_X9_readPlayer 50 [x0] (.int y :: .int x :: st) h = Run M_X9_readPlayer 51 [x0] (.int (x * y) :: st) h := R_imul d_X9_readPlayer_50
theorem d_X9_readPlayer_51 : decode (mB M_X9_readPlayer) 51 = .ok (.iconst 1, 1) := by decide +kernel
theorem r_X9_readPlayer_51 {x0 : Value} {st : List Value} {h : AH} : Run M_X9_readPlayer 51 [x0] st h = Run M_X9_readPlayer 52 [x0] (.int (nI 1) :: st) h := R_iconst d_X9_readPlayer_51 (by decide)
theorem d_X9_readPlayer_52 : decode (mB M_X9_readPlayer) 52 = .ok (.iadd, 1) := by decide +kernel
theorem r_X9_readPlayer_52 {x0 : Value} {x y : Int32} {st : List Value} {h : AH} : Run M_X9_readPlayer 52 [x0] (.int y :: .int x :: st) h = Run M_X9_readPlayer 53 [x0] (.int (x + y) :: st) h := R_iadd d_X9_readPlayer_52
theorem d_X9_readPlayer_53 : decode (mB M_X9_readPlayer) 53 = .ok (.aload_n 0, 1) := by decide +kernel
theorem r_X9_readPlayer_53 {a : Nat} {st : List Value} {h : AH} : Run M_X9_readPlayer 53 [.ref a] st h = Run M_X9_readPlayer 54 [.ref a] (.ref a :: st) h := R_aload_n d_X9_readPlayer_53 rfl
theorem d_X9_readPlayer_54 : decode (mB M_X9_readPlayer) 54 = .ok (.iconst 0, 1) := by decide +kernel
theorem r_X9_readPlayer_54 {x0 : Value} {st : List Value} {h : AH} : Run M_X9_readPlayer 54 [x0] st h = Run M_X9_readPlayer 55 [x0] (.int (nI 0) :: st) h := R_iconst d_X9_readPlayer_54 (by decide)
theorem d_X9_readPlayer_55 : decode (mB M_X9_readPlayer) 55 = .ok (.bipush 30, 2) := by decide +kernel
theorem r_X9_readPlayer_55 {x0 : Value} {st : List Value} {h : AH} : Run M_X9_readPlayer 55 [x0] st h = Run M_X9_readPlayer 57 [x0] (.int (nI 30) :: st) h := R_bipush d_X9_readPlayer_55 (by decide)
theorem d_X9_readPlayer_57 : decode (mB M_X9_readPlayer) 57 = .ok (.iconst 0, 1) := by decide +kernel
theorem r_X9_readPlayer_57 {x0 : Value} {st : List Value} {h : AH} : Run M_X9_readPlayer 57 [x0] st h = Run M_X9_readPlayer 58 [x0] (.int (nI 0) :: st) h := R_iconst d_X9_readPlayer_57 (by decide)
theorem d_X9_readPlayer_58 : decode (mB M_X9_readPlayer) 58 = .ok (.invokevirtual 141, 3) := by decide +kernel
theorem r_X9_readPlayer_58 {x0 : Value} {p0 : Int32} {p1 : Int32} {p2 : Int32} {a : Nat} {w0 w1 : Value} {h : AH} : Run M_X9_readPlayer 58 [x0] (.int p2 :: .int p1 :: .int p0 :: .ref a :: [w0, w1]) h = if refO h 9 (some (.ref a)) = true then (if (Call M_X9_number h [.ref a, .int p0, .int p1, .int p2]).isSome = true then Run M_X9_readPlayer 61 [x0] (rL (Call M_X9_number h [.ref a, .int p0, .int p1, .int p2]) ++ [w0, w1]) (cH (Call M_X9_number h [.ref a, .int p0, .int p1, .int p2])) else none) else none := R_virt d_X9_readPlayer_58 rfl rfl rfl rfl rfl (Nat.le_of_ble_eq_true rfl)
theorem d_X9_readPlayer_61 : decode (mB M_X9_readPlayer) 61 = .ok (.iastore, 1) := by decide +kernel
theorem r_X9_readPlayer_61 {x0 : Value} {a : Nat} {i x : Int32} {st : List Value} {h : AH} : Run M_X9_readPlayer 61 [x0] (.int x :: .int i :: .ref a :: st) h = if (pI 0 h a i x).isSome = true then Run M_X9_readPlayer 62 [x0] st ((pI 0 h a i x).getD h) else none := R_iastore d_X9_readPlayer_61
theorem d_X9_readPlayer_62 : decode (mB M_X9_readPlayer) 62 = .ok (.aload_n 0, 1) := by decide +kernel
theorem r_X9_readPlayer_62 {a : Nat} {st : List Value} {h : AH} : Run M_X9_readPlayer 62 [.ref a] st h = Run M_X9_readPlayer 63 [.ref a] (.ref a :: st) h := R_aload_n d_X9_readPlayer_62 rfl
theorem d_X9_readPlayer_63 : decode (mB M_X9_readPlayer) 63 = .ok (.dup, 1) := by decide +kernel
theorem r_X9_readPlayer_63 {x0 : Value} {x : Nat} {st : List Value} {h : AH} : Run M_X9_readPlayer 63 [x0] (.ref x :: st) h = Run M_X9_readPlayer 64 [x0] (.ref x :: .ref x :: st) h := R_dupr d_X9_readPlayer_63
theorem d_X9_readPlayer_64 : decode (mB M_X9_readPlayer) 64 = .ok (.getfield 155, 3) := by decide +kernel
theorem r_X9_readPlayer_64 {x0 : Value} {a : Nat} {st : List Value} {h : AH} : Run M_X9_readPlayer 64 [x0] (.ref a :: st) h = if (gF h a 9 27).isSome = true then Run M_X9_readPlayer 67 [x0] ((gF h a 9 27).getD .null :: st) h else none := R_getfield d_X9_readPlayer_64 rfl
theorem d_X9_readPlayer_67 : decode (mB M_X9_readPlayer) 67 = .ok (.iconst 1, 1) := by decide +kernel
theorem r_X9_readPlayer_67 {x0 : Value} {st : List Value} {h : AH} : Run M_X9_readPlayer 67 [x0] st h = Run M_X9_readPlayer 68 [x0] (.int (nI 1) :: st) h := R_iconst d_X9_readPlayer_67 (by decide)
theorem d_X9_readPlayer_68 : decode (mB M_X9_readPlayer) 68 = .ok (.iadd, 1) := by decide +kernel
theorem r_X9_readPlayer_68 {x0 : Value} {x y : Int32} {st : List Value} {h : AH} : Run M_X9_readPlayer 68 [x0] (.int y :: .int x :: st) h = Run M_X9_readPlayer 69 [x0] (.int (x + y) :: st) h := R_iadd d_X9_readPlayer_68
theorem d_X9_readPlayer_69 : decode (mB M_X9_readPlayer) 69 = .ok (.putfield 155, 3) := by decide +kernel
theorem r_X9_readPlayer_69 {x0 : Value} {v : Int32} {a : Nat} {st : List Value} {h : AH} : Run M_X9_readPlayer 69 [x0] (.int v :: .ref a :: st) h = if (pF h a 9 27 (.int v)).isSome = true then Run M_X9_readPlayer 72 [x0] st ((pF h a 9 27 (.int v)).getD h) else none := R_putfield d_X9_readPlayer_69 rfl (okP_int rfl rfl)
theorem d_X9_readPlayer_72 : decode (mB M_X9_readPlayer) 72 = .ok (.aload_n 0, 1) := by decide +kernel
theorem r_X9_readPlayer_72 {a : Nat} {st : List Value} {h : AH} : Run M_X9_readPlayer 72 [.ref a] st h = Run M_X9_readPlayer 73 [.ref a] (.ref a :: st) h := R_aload_n d_X9_readPlayer_72 rfl
theorem d_X9_readPlayer_73 : decode (mB M_X9_readPlayer) 73 = .ok (.invokevirtual 145, 3) := by decide +kernel
theorem r_X9_readPlayer_73 {x0 : Value} {a : Nat} {h : AH} : Run M_X9_readPlayer 73 [x0] (.ref a :: []) h = if refO h 9 (some (.ref a)) = true then (if (Call M_X9_stops h [.ref a]).isSome = true then Run M_X9_readPlayer 76 [x0] (rL (Call M_X9_stops h [.ref a]) ++ []) (cH (Call M_X9_stops h [.ref a])) else none) else none := R_virt d_X9_readPlayer_73 rfl rfl rfl rfl rfl (Nat.le_of_ble_eq_true rfl)
theorem d_X9_readPlayer_76 : decode (mB M_X9_readPlayer) 76 = .ok (.return_, 1) := by decide +kernel
theorem r_X9_readPlayer_76 {x0 : Value} {h : AH} : Run M_X9_readPlayer 76 [x0] [] h = some (h, none) := R_return d_X9_readPlayer_76 rfl
theorem d_X9_readTool_0 : decode (mB M_X9_readTool) 0 = .ok (.aload_n 0, 1) := by decide +kernel
theorem r_X9_readTool_0 {a : Nat} {st : List Value} {h : AH} : Run M_X9_readTool 0 [.ref a] st h = Run M_X9_readTool 1 [.ref a] (.ref a :: st) h := R_aload_n d_X9_readTool_0 rfl
theorem d_X9_readTool_1 : decode (mB M_X9_readTool) 1 = .ok (.aload_n 0, 1) := by decide +kernel
theorem r_X9_readTool_1 {a : Nat} {st : List Value} {h : AH} : Run M_X9_readTool 1 [.ref a] st h = Run M_X9_readTool 2 [.ref a] (.ref a :: st) h := R_aload_n d_X9_readTool_1 rfl
theorem d_X9_readTool_2 : decode (mB M_X9_readTool) 2 = .ok (.getfield 158, 3) := by decide +kernel
theorem r_X9_readTool_2 {x0 : Value} {a : Nat} {st : List Value} {h : AH} : Run M_X9_readTool 2 [x0] (.ref a :: st) h = if (gF h a 9 29).isSome = true then Run M_X9_readTool 5 [x0] ((gF h a 9 29).getD .null :: st) h else none := R_getfield d_X9_readTool_2 rfl
theorem d_X9_readTool_5 : decode (mB M_X9_readTool) 5 = .ok (.iconst 5, 1) := by decide +kernel
theorem r_X9_readTool_5 {x0 : Value} {st : List Value} {h : AH} : Run M_X9_readTool 5 [x0] st h = Run M_X9_readTool 6 [x0] (.int (nI 5) :: st) h := R_iconst d_X9_readTool_5 (by decide)
theorem d_X9_readTool_6 : decode (mB M_X9_readTool) 6 = .ok (.if_icmp .ne 7, 3) := by decide +kernel
theorem r_X9_readTool_6 {x0 : Value} {x y : Int32} {st : List Value} {h : AH} : Run M_X9_readTool 6 [x0] (.int y :: .int x :: st) h = if x = y then Run M_X9_readTool 9 [x0] st h else Run M_X9_readTool 13 [x0] st h := R_icmp_ne d_X9_readTool_6 (by decide)
theorem d_X9_readTool_9 : decode (mB M_X9_readTool) 9 = .ok (.iconst 1, 1) := by decide +kernel
theorem r_X9_readTool_9 {x0 : Value} {st : List Value} {h : AH} : Run M_X9_readTool 9 [x0] st h = Run M_X9_readTool 10 [x0] (.int (nI 1) :: st) h := R_iconst d_X9_readTool_9 (by decide)
theorem d_X9_readTool_10 : decode (mB M_X9_readTool) 10 = .ok (.goto 4, 3) := by decide +kernel
theorem r_X9_readTool_10 {x0 : Value} {st : List Value} {h : AH} : Run M_X9_readTool 10 [x0] st h = Run M_X9_readTool 14 [x0] st h := R_goto d_X9_readTool_10 (by decide)
theorem d_X9_readTool_13 : decode (mB M_X9_readTool) 13 = .ok (.iconst 0, 1) := by decide +kernel
theorem r_X9_readTool_13 {x0 : Value} {st : List Value} {h : AH} : Run M_X9_readTool 13 [x0] st h = Run M_X9_readTool 14 [x0] (.int (nI 0) :: st) h := R_iconst d_X9_readTool_13 (by decide)
theorem d_X9_readTool_14 : decode (mB M_X9_readTool) 14 = .ok (.iconst 0, 1) := by decide +kernel
theorem r_X9_readTool_14 {x0 : Value} {st : List Value} {h : AH} : Run M_X9_readTool 14 [x0] st h = Run M_X9_readTool 15 [x0] (.int (nI 0) :: st) h := R_iconst d_X9_readTool_14 (by decide)
theorem d_X9_readTool_15 : decode (mB M_X9_readTool) 15 = .ok (.invokevirtual 137, 3) := by decide +kernel
theorem r_X9_readTool_15 {x0 : Value} {p0 : Int32} {p1 : Int32} {a : Nat} {h : AH} : Run M_X9_readTool 15 [x0] (.int p1 :: .int p0 :: .ref a :: []) h = if refO h 9 (some (.ref a)) = true then (if (Call M_X9_begins h [.ref a, .int p0, .int p1]).isSome = true then Run M_X9_readTool 18 [x0] (rL (Call M_X9_begins h [.ref a, .int p0, .int p1]) ++ []) (cH (Call M_X9_begins h [.ref a, .int p0, .int p1])) else none) else none := R_virt d_X9_readTool_15 rfl rfl rfl rfl rfl (Nat.le_of_ble_eq_true rfl)
theorem d_X9_readTool_18 : decode (mB M_X9_readTool) 18 = .ok (.ifCond .ne 4, 3) := by decide +kernel
theorem r_X9_readTool_18 {x0 : Value} {x : Int32} {st : List Value} {h : AH} : Run M_X9_readTool 18 [x0] (.int x :: st) h = if x = nI 0 then Run M_X9_readTool 21 [x0] st h else Run M_X9_readTool 22 [x0] st h := R_if_ne d_X9_readTool_18 (by decide)
theorem d_X9_readTool_21 : decode (mB M_X9_readTool) 21 = .ok (.return_, 1) := by decide +kernel
theorem r_X9_readTool_21 {x0 : Value} {h : AH} : Run M_X9_readTool 21 [x0] [] h = some (h, none) := R_return d_X9_readTool_21 rfl
theorem d_X9_readTool_22 : decode (mB M_X9_readTool) 22 = .ok (.aload_n 0, 1) := by decide +kernel
theorem r_X9_readTool_22 {a : Nat} {st : List Value} {h : AH} : Run M_X9_readTool 22 [.ref a] st h = Run M_X9_readTool 23 [.ref a] (.ref a :: st) h := R_aload_n d_X9_readTool_22 rfl
theorem d_X9_readTool_23 : decode (mB M_X9_readTool) 23 = .ok (.getfield 63, 3) := by decide +kernel
theorem r_X9_readTool_23 {x0 : Value} {a : Nat} {st : List Value} {h : AH} : Run M_X9_readTool 23 [x0] (.ref a :: st) h = if (gF h a 9 30).isSome = true then Run M_X9_readTool 26 [x0] ((gF h a 9 30).getD .null :: st) h else none := R_getfield d_X9_readTool_23 rfl
theorem d_X9_readTool_26 : decode (mB M_X9_readTool) 26 = .ok (.iconst 2, 1) := by decide +kernel
theorem r_X9_readTool_26 {x0 : Value} {st : List Value} {h : AH} : Run M_X9_readTool 26 [x0] st h = Run M_X9_readTool 27 [x0] (.int (nI 2) :: st) h := R_iconst d_X9_readTool_26 (by decide)
theorem d_X9_readTool_27 : decode (mB M_X9_readTool) 27 = .ok (.aload_n 0, 1) := by decide +kernel
theorem r_X9_readTool_27 {a : Nat} {st : List Value} {h : AH} : Run M_X9_readTool 27 [.ref a] st h = Run M_X9_readTool 28 [.ref a] (.ref a :: st) h := R_aload_n d_X9_readTool_27 rfl
theorem d_X9_readTool_28 : decode (mB M_X9_readTool) 28 = .ok (.getfield 158, 3) := by decide +kernel
theorem r_X9_readTool_28 {x0 : Value} {a : Nat} {st : List Value} {h : AH} : Run M_X9_readTool 28 [x0] (.ref a :: st) h = if (gF h a 9 29).isSome = true then Run M_X9_readTool 31 [x0] ((gF h a 9 29).getD .null :: st) h else none := R_getfield d_X9_readTool_28 rfl
theorem d_X9_readTool_31 : decode (mB M_X9_readTool) 31 = .ok (.imul, 1) := by decide +kernel
theorem r_X9_readTool_31 {x0 : Value} {x y : Int32} {st : List Value} {h : AH} : Run M_X9_readTool 31 [x0] (.int y :: .int x :: st) h = Run M_X9_readTool 32 [x0] (.int (x * y) :: st) h := R_imul d_X9_readTool_31
theorem d_X9_readTool_32 : decode (mB M_X9_readTool) 32 = .ok (.aload_n 0, 1) := by decide +kernel
theorem r_X9_readTool_32 {a : Nat} {st : List Value} {h : AH} : Run M_X9_readTool 32 [.ref a] st h = Run M_X9_readTool 33 [.ref a] (.ref a :: st) h := R_aload_n d_X9_readTool_32 rfl
theorem d_X9_readTool_33 : decode (mB M_X9_readTool) 33 = .ok (.iconst 0, 1) := by decide +kernel
theorem r_X9_readTool_33 {x0 : Value} {st : List Value} {h : AH} : Run M_X9_readTool 33 [x0] st h = Run M_X9_readTool 34 [x0] (.int (nI 0) :: st) h := R_iconst d_X9_readTool_33 (by decide)
theorem d_X9_readTool_34 : decode (mB M_X9_readTool) 34 = .ok (.bipush 11, 2) := by decide +kernel
theorem r_X9_readTool_34 {x0 : Value} {st : List Value} {h : AH} : Run M_X9_readTool 34 [x0] st h = Run M_X9_readTool 36 [x0] (.int (nI 11) :: st) h := R_bipush d_X9_readTool_34 (by decide)
theorem d_X9_readTool_36 : decode (mB M_X9_readTool) 36 = .ok (.iconst 0, 1) := by decide +kernel
theorem r_X9_readTool_36 {x0 : Value} {st : List Value} {h : AH} : Run M_X9_readTool 36 [x0] st h = Run M_X9_readTool 37 [x0] (.int (nI 0) :: st) h := R_iconst d_X9_readTool_36 (by decide)
theorem d_X9_readTool_37 : decode (mB M_X9_readTool) 37 = .ok (.invokevirtual 141, 3) := by decide +kernel
theorem r_X9_readTool_37 {x0 : Value} {p0 : Int32} {p1 : Int32} {p2 : Int32} {a : Nat} {w0 w1 : Value} {h : AH} : Run M_X9_readTool 37 [x0] (.int p2 :: .int p1 :: .int p0 :: .ref a :: [w0, w1]) h = if refO h 9 (some (.ref a)) = true then (if (Call M_X9_number h [.ref a, .int p0, .int p1, .int p2]).isSome = true then Run M_X9_readTool 40 [x0] (rL (Call M_X9_number h [.ref a, .int p0, .int p1, .int p2]) ++ [w0, w1]) (cH (Call M_X9_number h [.ref a, .int p0, .int p1, .int p2])) else none) else none := R_virt d_X9_readTool_37 rfl rfl rfl rfl rfl (Nat.le_of_ble_eq_true rfl)
theorem d_X9_readTool_40 : decode (mB M_X9_readTool) 40 = .ok (.iastore, 1) := by decide +kernel
theorem r_X9_readTool_40 {x0 : Value} {a : Nat} {i x : Int32} {st : List Value} {h : AH} : Run M_X9_readTool 40 [x0] (.int x :: .int i :: .ref a :: st) h = if (pI 0 h a i x).isSome = true then Run M_X9_readTool 41 [x0] st ((pI 0 h a i x).getD h) else none := R_iastore d_X9_readTool_40
theorem d_X9_readTool_41 : decode (mB M_X9_readTool) 41 = .ok (.aload_n 0, 1) := by decide +kernel
theorem r_X9_readTool_41 {a : Nat} {st : List Value} {h : AH} : Run M_X9_readTool 41 [.ref a] st h = Run M_X9_readTool 42 [.ref a] (.ref a :: st) h := R_aload_n d_X9_readTool_41 rfl
theorem d_X9_readTool_42 : decode (mB M_X9_readTool) 42 = .ok (.getfield 63, 3) := by decide +kernel
theorem r_X9_readTool_42 {x0 : Value} {a : Nat} {st : List Value} {h : AH} : Run M_X9_readTool 42 [x0] (.ref a :: st) h = if (gF h a 9 30).isSome = true then Run M_X9_readTool 45 [x0] ((gF h a 9 30).getD .null :: st) h else none := R_getfield d_X9_readTool_42 rfl
theorem d_X9_readTool_45 : decode (mB M_X9_readTool) 45 = .ok (.iconst 2, 1) := by decide +kernel
theorem r_X9_readTool_45 {x0 : Value} {st : List Value} {h : AH} : Run M_X9_readTool 45 [x0] st h = Run M_X9_readTool 46 [x0] (.int (nI 2) :: st) h := R_iconst d_X9_readTool_45 (by decide)
theorem d_X9_readTool_46 : decode (mB M_X9_readTool) 46 = .ok (.aload_n 0, 1) := by decide +kernel
theorem r_X9_readTool_46 {a : Nat} {st : List Value} {h : AH} : Run M_X9_readTool 46 [.ref a] st h = Run M_X9_readTool 47 [.ref a] (.ref a :: st) h := R_aload_n d_X9_readTool_46 rfl
theorem d_X9_readTool_47 : decode (mB M_X9_readTool) 47 = .ok (.getfield 158, 3) := by decide +kernel
theorem r_X9_readTool_47 {x0 : Value} {a : Nat} {st : List Value} {h : AH} : Run M_X9_readTool 47 [x0] (.ref a :: st) h = if (gF h a 9 29).isSome = true then Run M_X9_readTool 50 [x0] ((gF h a 9 29).getD .null :: st) h else none := R_getfield d_X9_readTool_47 rfl
theorem d_X9_readTool_50 : decode (mB M_X9_readTool) 50 = .ok (.imul, 1) := by decide +kernel
theorem r_X9_readTool_50 {x0 : Value} {x y : Int32} {st : List Value} {h : AH} : Run M_X9_readTool 50 [x0] (.int y :: .int x :: st) h = Run M_X9_readTool 51 [x0] (.int (x * y) :: st) h := R_imul d_X9_readTool_50
theorem d_X9_readTool_51 : decode (mB M_X9_readTool) 51 = .ok (.iconst 1, 1) := by decide +kernel
theorem r_X9_readTool_51 {x0 : Value} {st : List Value} {h : AH} : Run M_X9_readTool 51 [x0] st h = Run M_X9_readTool 52 [x0] (.int (nI 1) :: st) h := R_iconst d_X9_readTool_51 (by decide)
theorem d_X9_readTool_52 : decode (mB M_X9_readTool) 52 = .ok (.iadd, 1) := by decide +kernel
theorem r_X9_readTool_52 {x0 : Value} {x y : Int32} {st : List Value} {h : AH} : Run M_X9_readTool 52 [x0] (.int y :: .int x :: st) h = Run M_X9_readTool 53 [x0] (.int (x + y) :: st) h := R_iadd d_X9_readTool_52
theorem d_X9_readTool_53 : decode (mB M_X9_readTool) 53 = .ok (.aload_n 0, 1) := by decide +kernel
theorem r_X9_readTool_53 {a : Nat} {st : List Value} {h : AH} : Run M_X9_readTool 53 [.ref a] st h = Run M_X9_readTool 54 [.ref a] (.ref a :: st) h := R_aload_n d_X9_readTool_53 rfl
theorem d_X9_readTool_54 : decode (mB M_X9_readTool) 54 = .ok (.iconst 0, 1) := by decide +kernel
theorem r_X9_readTool_54 {x0 : Value} {st : List Value} {h : AH} : Run M_X9_readTool 54 [x0] st h = Run M_X9_readTool 55 [x0] (.int (nI 0) :: st) h := R_iconst d_X9_readTool_54 (by decide)
theorem d_X9_readTool_55 : decode (mB M_X9_readTool) 55 = .ok (.bipush 99, 2) := by decide +kernel
theorem r_X9_readTool_55 {x0 : Value} {st : List Value} {h : AH} : Run M_X9_readTool 55 [x0] st h = Run M_X9_readTool 57 [x0] (.int (nI 99) :: st) h := R_bipush d_X9_readTool_55 (by decide)
theorem d_X9_readTool_57 : decode (mB M_X9_readTool) 57 = .ok (.iconst 0, 1) := by decide +kernel
theorem r_X9_readTool_57 {x0 : Value} {st : List Value} {h : AH} : Run M_X9_readTool 57 [x0] st h = Run M_X9_readTool 58 [x0] (.int (nI 0) :: st) h := R_iconst d_X9_readTool_57 (by decide)
theorem d_X9_readTool_58 : decode (mB M_X9_readTool) 58 = .ok (.invokevirtual 141, 3) := by decide +kernel
theorem r_X9_readTool_58 {x0 : Value} {p0 : Int32} {p1 : Int32} {p2 : Int32} {a : Nat} {w0 w1 : Value} {h : AH} : Run M_X9_readTool 58 [x0] (.int p2 :: .int p1 :: .int p0 :: .ref a :: [w0, w1]) h = if refO h 9 (some (.ref a)) = true then (if (Call M_X9_number h [.ref a, .int p0, .int p1, .int p2]).isSome = true then Run M_X9_readTool 61 [x0] (rL (Call M_X9_number h [.ref a, .int p0, .int p1, .int p2]) ++ [w0, w1]) (cH (Call M_X9_number h [.ref a, .int p0, .int p1, .int p2])) else none) else none := R_virt d_X9_readTool_58 rfl rfl rfl rfl rfl (Nat.le_of_ble_eq_true rfl)
theorem d_X9_readTool_61 : decode (mB M_X9_readTool) 61 = .ok (.iastore, 1) := by decide +kernel
theorem r_X9_readTool_61 {x0 : Value} {a : Nat} {i x : Int32} {st : List Value} {h : AH} : Run M_X9_readTool 61 [x0] (.int x :: .int i :: .ref a :: st) h = if (pI 0 h a i x).isSome = true then Run M_X9_readTool 62 [x0] st ((pI 0 h a i x).getD h) else none := R_iastore d_X9_readTool_61
theorem d_X9_readTool_62 : decode (mB M_X9_readTool) 62 = .ok (.aload_n 0, 1) := by decide +kernel
theorem r_X9_readTool_62 {a : Nat} {st : List Value} {h : AH} : Run M_X9_readTool 62 [.ref a] st h = Run M_X9_readTool 63 [.ref a] (.ref a :: st) h := R_aload_n d_X9_readTool_62 rfl
theorem d_X9_readTool_63 : decode (mB M_X9_readTool) 63 = .ok (.dup, 1) := by decide +kernel
theorem r_X9_readTool_63 {x0 : Value} {x : Nat} {st : List Value} {h : AH} : Run M_X9_readTool 63 [x0] (.ref x :: st) h = Run M_X9_readTool 64 [x0] (.ref x :: .ref x :: st) h := R_dupr d_X9_readTool_63
theorem d_X9_readTool_64 : decode (mB M_X9_readTool) 64 = .ok (.getfield 158, 3) := by decide +kernel
theorem r_X9_readTool_64 {x0 : Value} {a : Nat} {st : List Value} {h : AH} : Run M_X9_readTool 64 [x0] (.ref a :: st) h = if (gF h a 9 29).isSome = true then Run M_X9_readTool 67 [x0] ((gF h a 9 29).getD .null :: st) h else none := R_getfield d_X9_readTool_64 rfl
theorem d_X9_readTool_67 : decode (mB M_X9_readTool) 67 = .ok (.iconst 1, 1) := by decide +kernel
theorem r_X9_readTool_67 {x0 : Value} {st : List Value} {h : AH} : Run M_X9_readTool 67 [x0] st h = Run M_X9_readTool 68 [x0] (.int (nI 1) :: st) h := R_iconst d_X9_readTool_67 (by decide)
theorem d_X9_readTool_68 : decode (mB M_X9_readTool) 68 = .ok (.iadd, 1) := by decide +kernel
theorem r_X9_readTool_68 {x0 : Value} {x y : Int32} {st : List Value} {h : AH} : Run M_X9_readTool 68 [x0] (.int y :: .int x :: st) h = Run M_X9_readTool 69 [x0] (.int (x + y) :: st) h := R_iadd d_X9_readTool_68
theorem d_X9_readTool_69 : decode (mB M_X9_readTool) 69 = .ok (.putfield 158, 3) := by decide +kernel
theorem r_X9_readTool_69 {x0 : Value} {v : Int32} {a : Nat} {st : List Value} {h : AH} : Run M_X9_readTool 69 [x0] (.int v :: .ref a :: st) h = if (pF h a 9 29 (.int v)).isSome = true then Run M_X9_readTool 72 [x0] st ((pF h a 9 29 (.int v)).getD h) else none := R_putfield d_X9_readTool_69 rfl (okP_int rfl rfl)
theorem d_X9_readTool_72 : decode (mB M_X9_readTool) 72 = .ok (.aload_n 0, 1) := by decide +kernel
theorem r_X9_readTool_72 {a : Nat} {st : List Value} {h : AH} : Run M_X9_readTool 72 [.ref a] st h = Run M_X9_readTool 73 [.ref a] (.ref a :: st) h := R_aload_n d_X9_readTool_72 rfl
theorem d_X9_readTool_73 : decode (mB M_X9_readTool) 73 = .ok (.invokevirtual 145, 3) := by decide +kernel
theorem r_X9_readTool_73 {x0 : Value} {a : Nat} {h : AH} : Run M_X9_readTool 73 [x0] (.ref a :: []) h = if refO h 9 (some (.ref a)) = true then (if (Call M_X9_stops h [.ref a]).isSome = true then Run M_X9_readTool 76 [x0] (rL (Call M_X9_stops h [.ref a]) ++ []) (cH (Call M_X9_stops h [.ref a])) else none) else none := R_virt d_X9_readTool_73 rfl rfl rfl rfl rfl (Nat.le_of_ble_eq_true rfl)
theorem d_X9_readTool_76 : decode (mB M_X9_readTool) 76 = .ok (.return_, 1) := by decide +kernel
theorem r_X9_readTool_76 {x0 : Value} {h : AH} : Run M_X9_readTool 76 [x0] [] h = some (h, none) := R_return d_X9_readTool_76 rfl
theorem d_X9_readClause_0 : decode (mB M_X9_readClause) 0 = .ok (.aload_n 0, 1) := by decide +kernel
theorem r_X9_readClause_0 {x1 : Value} {a : Nat} {st : List Value} {h : AH} : Run M_X9_readClause 0 [.ref a, x1] st h = Run M_X9_readClause 1 [.ref a, x1] (.ref a :: st) h := R_aload_n d_X9_readClause_0 rfl
theorem d_X9_readClause_1 : decode (mB M_X9_readClause) 1 = .ok (.getfield 107, 3) := by decide +kernel
theorem r_X9_readClause_1 {x0 x1 : Value} {a : Nat} {st : List Value} {h : AH} : Run M_X9_readClause 1 [x0, x1] (.ref a :: st) h = if (gF h a 9 16).isSome = true then Run M_X9_readClause 4 [x0, x1] ((gF h a 9 16).getD .null :: st) h else none := R_getfield d_X9_readClause_1 rfl
theorem d_X9_readClause_4 : decode (mB M_X9_readClause) 4 = .ok (.iconst 1, 1) := by decide +kernel
theorem r_X9_readClause_4 {x0 x1 : Value} {st : List Value} {h : AH} : Run M_X9_readClause 4 [x0, x1] st h = Run M_X9_readClause 5 [x0, x1] (.int (nI 1) :: st) h := R_iconst d_X9_readClause_4 (by decide)
theorem d_X9_readClause_5 : decode (mB M_X9_readClause) 5 = .ok (.if_icmp .ne 10, 3) := by decide +kernel
theorem r_X9_readClause_5 {x0 x1 : Value} {x y : Int32} {st : List Value} {h : AH} : Run M_X9_readClause 5 [x0, x1] (.int y :: .int x :: st) h = if x = y then Run M_X9_readClause 8 [x0, x1] st h else Run M_X9_readClause 15 [x0, x1] st h := R_icmp_ne d_X9_readClause_5 (by decide)
theorem d_X9_readClause_8 : decode (mB M_X9_readClause) 8 = .ok (.aload_n 0, 1) := by decide +kernel
theorem r_X9_readClause_8 {x1 : Value} {a : Nat} {st : List Value} {h : AH} : Run M_X9_readClause 8 [.ref a, x1] st h = Run M_X9_readClause 9 [.ref a, x1] (.ref a :: st) h := R_aload_n d_X9_readClause_8 rfl
theorem d_X9_readClause_9 : decode (mB M_X9_readClause) 9 = .ok (.getfield 110, 3) := by decide +kernel
theorem r_X9_readClause_9 {x0 x1 : Value} {a : Nat} {st : List Value} {h : AH} : Run M_X9_readClause 9 [x0, x1] (.ref a :: st) h = if (gF h a 9 17).isSome = true then Run M_X9_readClause 12 [x0, x1] ((gF h a 9 17).getD .null :: st) h else none := R_getfield d_X9_readClause_9 rfl
theorem d_X9_readClause_12 : decode (mB M_X9_readClause) 12 = .ok (.goto 4, 3) := by decide +kernel
theorem r_X9_readClause_12 {x0 x1 : Value} {st : List Value} {h : AH} : Run M_X9_readClause 12 [x0, x1] st h = Run M_X9_readClause 16 [x0, x1] st h := R_goto d_X9_readClause_12 (by decide)
theorem d_X9_readClause_15 : decode (mB M_X9_readClause) 15 = .ok (.iconst 0, 1) := by decide +kernel
theorem r_X9_readClause_15 {x0 x1 : Value} {st : List Value} {h : AH} : Run M_X9_readClause 15 [x0, x1] st h = Run M_X9_readClause 16 [x0, x1] (.int (nI 0) :: st) h := R_iconst d_X9_readClause_15 (by decide)
theorem d_X9_readClause_16 : decode (mB M_X9_readClause) 16 = .ok (.istore_n 1, 1) := by decide +kernel
theorem r_X9_readClause_16 {x0 x1 : Value} {a : Int32} {st : List Value} {h : AH} (hc : x0.category = 1) : Run M_X9_readClause 16 [x0, x1] (.int a :: st) h = Run M_X9_readClause 17 [x0, .int a] st h := R_istore_n d_X9_readClause_16 (Nat.lt_of_lt_of_le (by decide : 1 < 2) (Nat.le_refl 2)) (catP_of rfl hc)
theorem d_X9_readClause_17 : decode (mB M_X9_readClause) 17 = .ok (.iload_n 1, 1) := by decide +kernel
theorem r_X9_readClause_17 {x0 : Value} {a : Int32} {st : List Value} {h : AH} : Run M_X9_readClause 17 [x0, .int a] st h = Run M_X9_readClause 18 [x0, .int a] (.int a :: st) h := R_iload_n d_X9_readClause_17 rfl
theorem d_X9_readClause_18 : decode (mB M_X9_readClause) 18 = .ok (.lookupswitch 85 #[(99, 64), (105, 78), (108, 71), (112, 50), (115, 57)], 50) := by decide +kernel
theorem r_X9_readClause_18 {x0 x1 : Value} {x : Int32} {st : List Value} {h : AH} : Run M_X9_readClause 18 [x0, x1] (.int x :: st) h = if x = (nI 99) then Run M_X9_readClause 82 [x0, x1] st h else if x = (nI 105) then Run M_X9_readClause 96 [x0, x1] st h else if x = (nI 108) then Run M_X9_readClause 89 [x0, x1] st h else if x = (nI 112) then Run M_X9_readClause 68 [x0, x1] st h else if x = (nI 115) then Run M_X9_readClause 75 [x0, x1] st h else Run M_X9_readClause 103 [x0, x1] st h := by
  by_cases h0 : x = (nI 99)
  · subst h0; rw [if_pos rfl]; exact R_lookup (off := 64) d_X9_readClause_18 (by decide) (by decide) (by decide) (by decide)
  rw [if_neg h0]
  by_cases h1 : x = (nI 105)
  · subst h1; rw [if_pos rfl]; exact R_lookup (off := 78) d_X9_readClause_18 (by decide) (by decide) (by decide) (by decide)
  rw [if_neg h1]
  by_cases h2 : x = (nI 108)
  · subst h2; rw [if_pos rfl]; exact R_lookup (off := 71) d_X9_readClause_18 (by decide) (by decide) (by decide) (by decide)
  rw [if_neg h2]
  by_cases h3 : x = (nI 112)
  · subst h3; rw [if_pos rfl]; exact R_lookup (off := 50) d_X9_readClause_18 (by decide) (by decide) (by decide) (by decide)
  rw [if_neg h3]
  by_cases h4 : x = (nI 115)
  · subst h4; rw [if_pos rfl]; exact R_lookup (off := 57) d_X9_readClause_18 (by decide) (by decide) (by decide) (by decide)
  rw [if_neg h4]
  refine R_lookup (off := 85) d_X9_readClause_18 (by decide) (by decide) ?_ (by decide)
  show Op.lookupswitch.offset [(99, 64), (105, 78), (108, 71), (112, 50), (115, 57)] 85 x.toInt = 85
  rw [lv_osw h0 (by decide), lv_osw h1 (by decide), lv_osw h2 (by decide), lv_osw h3 (by decide), lv_osw h4 (by decide)]
  rfl
theorem d_X9_readClause_68 : decode (mB M_X9_readClause) 68 = .ok (.aload_n 0, 1) := by decide +kernel
theorem r_X9_readClause_68 {x1 : Value} {a : Nat} {st : List Value} {h : AH} : Run M_X9_readClause 68 [.ref a, x1] st h = Run M_X9_readClause 69 [.ref a, x1] (.ref a :: st) h := R_aload_n d_X9_readClause_68 rfl
theorem d_X9_readClause_69 : decode (mB M_X9_readClause) 69 = .ok (.invokevirtual 161, 3) := by decide +kernel
theorem r_X9_readClause_69 {x0 x1 : Value} {a : Nat} {h : AH} : Run M_X9_readClause 69 [x0, x1] (.ref a :: []) h = if refO h 9 (some (.ref a)) = true then (if (Call M_X9_readPart h [.ref a]).isSome = true then Run M_X9_readClause 72 [x0, x1] (rL (Call M_X9_readPart h [.ref a]) ++ []) (cH (Call M_X9_readPart h [.ref a])) else none) else none := R_virt d_X9_readClause_69 rfl rfl rfl rfl rfl (Nat.le_of_ble_eq_true rfl)
theorem d_X9_readClause_72 : decode (mB M_X9_readClause) 72 = .ok (.goto 36, 3) := by decide +kernel
theorem r_X9_readClause_72 {x0 x1 : Value} {st : List Value} {h : AH} : Run M_X9_readClause 72 [x0, x1] st h = Run M_X9_readClause 108 [x0, x1] st h := R_goto d_X9_readClause_72 (by decide)
theorem d_X9_readClause_75 : decode (mB M_X9_readClause) 75 = .ok (.aload_n 0, 1) := by decide +kernel
theorem r_X9_readClause_75 {x1 : Value} {a : Nat} {st : List Value} {h : AH} : Run M_X9_readClause 75 [.ref a, x1] st h = Run M_X9_readClause 76 [.ref a, x1] (.ref a :: st) h := R_aload_n d_X9_readClause_75 rfl
theorem d_X9_readClause_76 : decode (mB M_X9_readClause) 76 = .ok (.invokevirtual 164, 3) := by decide +kernel
theorem r_X9_readClause_76 {x0 x1 : Value} {a : Nat} {h : AH} : Run M_X9_readClause 76 [x0, x1] (.ref a :: []) h = if refO h 9 (some (.ref a)) = true then (if (Call M_X9_readSign h [.ref a]).isSome = true then Run M_X9_readClause 79 [x0, x1] (rL (Call M_X9_readSign h [.ref a]) ++ []) (cH (Call M_X9_readSign h [.ref a])) else none) else none := R_virt d_X9_readClause_76 rfl rfl rfl rfl rfl (Nat.le_of_ble_eq_true rfl)
theorem d_X9_readClause_79 : decode (mB M_X9_readClause) 79 = .ok (.goto 29, 3) := by decide +kernel
theorem r_X9_readClause_79 {x0 x1 : Value} {st : List Value} {h : AH} : Run M_X9_readClause 79 [x0, x1] st h = Run M_X9_readClause 108 [x0, x1] st h := R_goto d_X9_readClause_79 (by decide)
theorem d_X9_readClause_82 : decode (mB M_X9_readClause) 82 = .ok (.aload_n 0, 1) := by decide +kernel
theorem r_X9_readClause_82 {x1 : Value} {a : Nat} {st : List Value} {h : AH} : Run M_X9_readClause 82 [.ref a, x1] st h = Run M_X9_readClause 83 [.ref a, x1] (.ref a :: st) h := R_aload_n d_X9_readClause_82 rfl
theorem d_X9_readClause_83 : decode (mB M_X9_readClause) 83 = .ok (.invokevirtual 167, 3) := by decide +kernel
theorem r_X9_readClause_83 {x0 x1 : Value} {a : Nat} {h : AH} : Run M_X9_readClause 83 [x0, x1] (.ref a :: []) h = if refO h 9 (some (.ref a)) = true then (if (Call M_X9_readCosts h [.ref a]).isSome = true then Run M_X9_readClause 86 [x0, x1] (rL (Call M_X9_readCosts h [.ref a]) ++ []) (cH (Call M_X9_readCosts h [.ref a])) else none) else none := R_virt d_X9_readClause_83 rfl rfl rfl rfl rfl (Nat.le_of_ble_eq_true rfl)
theorem d_X9_readClause_86 : decode (mB M_X9_readClause) 86 = .ok (.goto 22, 3) := by decide +kernel
theorem r_X9_readClause_86 {x0 x1 : Value} {st : List Value} {h : AH} : Run M_X9_readClause 86 [x0, x1] st h = Run M_X9_readClause 108 [x0, x1] st h := R_goto d_X9_readClause_86 (by decide)
theorem d_X9_readClause_89 : decode (mB M_X9_readClause) 89 = .ok (.aload_n 0, 1) := by decide +kernel
theorem r_X9_readClause_89 {x1 : Value} {a : Nat} {st : List Value} {h : AH} : Run M_X9_readClause 89 [.ref a, x1] st h = Run M_X9_readClause 90 [.ref a, x1] (.ref a :: st) h := R_aload_n d_X9_readClause_89 rfl
theorem d_X9_readClause_90 : decode (mB M_X9_readClause) 90 = .ok (.invokevirtual 170, 3) := by decide +kernel
theorem r_X9_readClause_90 {x0 x1 : Value} {a : Nat} {h : AH} : Run M_X9_readClause 90 [x0, x1] (.ref a :: []) h = if refO h 9 (some (.ref a)) = true then (if (Call M_X9_readPlayer h [.ref a]).isSome = true then Run M_X9_readClause 93 [x0, x1] (rL (Call M_X9_readPlayer h [.ref a]) ++ []) (cH (Call M_X9_readPlayer h [.ref a])) else none) else none := R_virt d_X9_readClause_90 rfl rfl rfl rfl rfl (Nat.le_of_ble_eq_true rfl)
theorem d_X9_readClause_93 : decode (mB M_X9_readClause) 93 = .ok (.goto 15, 3) := by decide +kernel
theorem r_X9_readClause_93 {x0 x1 : Value} {st : List Value} {h : AH} : Run M_X9_readClause 93 [x0, x1] st h = Run M_X9_readClause 108 [x0, x1] st h := R_goto d_X9_readClause_93 (by decide)
theorem d_X9_readClause_96 : decode (mB M_X9_readClause) 96 = .ok (.aload_n 0, 1) := by decide +kernel
theorem r_X9_readClause_96 {x1 : Value} {a : Nat} {st : List Value} {h : AH} : Run M_X9_readClause 96 [.ref a, x1] st h = Run M_X9_readClause 97 [.ref a, x1] (.ref a :: st) h := R_aload_n d_X9_readClause_96 rfl
theorem d_X9_readClause_97 : decode (mB M_X9_readClause) 97 = .ok (.invokevirtual 173, 3) := by decide +kernel
theorem r_X9_readClause_97 {x0 x1 : Value} {a : Nat} {h : AH} : Run M_X9_readClause 97 [x0, x1] (.ref a :: []) h = if refO h 9 (some (.ref a)) = true then (if (Call M_X9_readTool h [.ref a]).isSome = true then Run M_X9_readClause 100 [x0, x1] (rL (Call M_X9_readTool h [.ref a]) ++ []) (cH (Call M_X9_readTool h [.ref a])) else none) else none := R_virt d_X9_readClause_97 rfl rfl rfl rfl rfl (Nat.le_of_ble_eq_true rfl)
theorem d_X9_readClause_100 : decode (mB M_X9_readClause) 100 = .ok (.goto 8, 3) := by decide +kernel
theorem r_X9_readClause_100 {x0 x1 : Value} {st : List Value} {h : AH} : Run M_X9_readClause 100 [x0, x1] st h = Run M_X9_readClause 108 [x0, x1] st h := R_goto d_X9_readClause_100 (by decide)
theorem d_X9_readClause_103 : decode (mB M_X9_readClause) 103 = .ok (.aload_n 0, 1) := by decide +kernel
theorem r_X9_readClause_103 {x1 : Value} {a : Nat} {st : List Value} {h : AH} : Run M_X9_readClause 103 [.ref a, x1] st h = Run M_X9_readClause 104 [.ref a, x1] (.ref a :: st) h := R_aload_n d_X9_readClause_103 rfl
theorem d_X9_readClause_104 : decode (mB M_X9_readClause) 104 = .ok (.iconst 1, 1) := by decide +kernel
theorem r_X9_readClause_104 {x0 x1 : Value} {st : List Value} {h : AH} : Run M_X9_readClause 104 [x0, x1] st h = Run M_X9_readClause 105 [x0, x1] (.int (nI 1) :: st) h := R_iconst d_X9_readClause_104 (by decide)
theorem d_X9_readClause_105 : decode (mB M_X9_readClause) 105 = .ok (.invokevirtual 123, 3) := by decide +kernel
theorem r_X9_readClause_105 {x0 x1 : Value} {p0 : Int32} {a : Nat} {h : AH} : Run M_X9_readClause 105 [x0, x1] (.int p0 :: .ref a :: []) h = if refO h 9 (some (.ref a)) = true then (if (Call M_X9_fails h [.ref a, .int p0]).isSome = true then Run M_X9_readClause 108 [x0, x1] (rL (Call M_X9_fails h [.ref a, .int p0]) ++ []) (cH (Call M_X9_fails h [.ref a, .int p0])) else none) else none := R_virt d_X9_readClause_105 rfl rfl rfl rfl rfl (Nat.le_of_ble_eq_true rfl)
theorem d_X9_readClause_108 : decode (mB M_X9_readClause) 108 = .ok (.return_, 1) := by decide +kernel
theorem r_X9_readClause_108 {x0 x1 : Value} {h : AH} : Run M_X9_readClause 108 [x0, x1] [] h = some (h, none) := R_return d_X9_readClause_108 rfl
theorem d_X9_hall_0 : decode (mB M_X9_hall) 0 = .ok (.aload_n 0, 1) := by decide +kernel
theorem r_X9_hall_0 {a : Nat} {st : List Value} {h : AH} : Run M_X9_hall 0 [.ref a] st h = Run M_X9_hall 1 [.ref a] (.ref a :: st) h := R_aload_n d_X9_hall_0 rfl
theorem d_X9_hall_1 : decode (mB M_X9_hall) 1 = .ok (.iconst 0, 1) := by decide +kernel
theorem r_X9_hall_1 {x0 : Value} {st : List Value} {h : AH} : Run M_X9_hall 1 [x0] st h = Run M_X9_hall 2 [x0] (.int (nI 0) :: st) h := R_iconst d_X9_hall_1 (by decide)
theorem d_X9_hall_2 : decode (mB M_X9_hall) 2 = .ok (.putfield 116, 3) := by decide +kernel
theorem r_X9_hall_2 {x0 : Value} {v : Int32} {a : Nat} {st : List Value} {h : AH} : Run M_X9_hall 2 [x0] (.int v :: .ref a :: st) h = if (pF h a 9 19 (.int v)).isSome = true then Run M_X9_hall 5 [x0] st ((pF h a 9 19 (.int v)).getD h) else none := R_putfield d_X9_hall_2 rfl (okP_int rfl rfl)
theorem d_X9_hall_5 : decode (mB M_X9_hall) 5 = .ok (.aload_n 0, 1) := by decide +kernel
theorem r_X9_hall_5 {a : Nat} {st : List Value} {h : AH} : Run M_X9_hall 5 [.ref a] st h = Run M_X9_hall 6 [.ref a] (.ref a :: st) h := R_aload_n d_X9_hall_5 rfl
theorem d_X9_hall_6 : decode (mB M_X9_hall) 6 = .ok (.iconst (-1), 1) := by decide +kernel
theorem r_X9_hall_6 {x0 : Value} {st : List Value} {h : AH} : Run M_X9_hall 6 [x0] st h = Run M_X9_hall 7 [x0] (.int (-1) :: st) h := R_iconst d_X9_hall_6 (by decide)
theorem d_X9_hall_7 : decode (mB M_X9_hall) 7 = .ok (.putfield 41, 3) := by decide +kernel
theorem r_X9_hall_7 {x0 : Value} {v : Int32} {a : Nat} {st : List Value} {h : AH} : Run M_X9_hall 7 [x0] (.int v :: .ref a :: st) h = if (pF h a 9 20 (.int v)).isSome = true then Run M_X9_hall 10 [x0] st ((pF h a 9 20 (.int v)).getD h) else none := R_putfield d_X9_hall_7 rfl (okP_int rfl rfl)
theorem d_X9_hall_10 : decode (mB M_X9_hall) 10 = .ok (.aload_n 0, 1) := by decide +kernel
theorem r_X9_hall_10 {a : Nat} {st : List Value} {h : AH} : Run M_X9_hall 10 [.ref a] st h = Run M_X9_hall 11 [.ref a] (.ref a :: st) h := R_aload_n d_X9_hall_10 rfl
theorem d_X9_hall_11 : decode (mB M_X9_hall) 11 = .ok (.iconst 0, 1) := by decide +kernel
theorem r_X9_hall_11 {x0 : Value} {st : List Value} {h : AH} : Run M_X9_hall 11 [x0] st h = Run M_X9_hall 12 [x0] (.int (nI 0) :: st) h := R_iconst d_X9_hall_11 (by decide)
theorem d_X9_hall_12 : decode (mB M_X9_hall) 12 = .ok (.putfield 97, 3) := by decide +kernel
theorem r_X9_hall_12 {x0 : Value} {v : Int32} {a : Nat} {st : List Value} {h : AH} : Run M_X9_hall 12 [x0] (.int v :: .ref a :: st) h = if (pF h a 9 14 (.int v)).isSome = true then Run M_X9_hall 15 [x0] st ((pF h a 9 14 (.int v)).getD h) else none := R_putfield d_X9_hall_12 rfl (okP_int rfl rfl)
theorem d_X9_hall_15 : decode (mB M_X9_hall) 15 = .ok (.aload_n 0, 1) := by decide +kernel
theorem r_X9_hall_15 {a : Nat} {st : List Value} {h : AH} : Run M_X9_hall 15 [.ref a] st h = Run M_X9_hall 16 [.ref a] (.ref a :: st) h := R_aload_n d_X9_hall_15 rfl
theorem d_X9_hall_16 : decode (mB M_X9_hall) 16 = .ok (.iconst 0, 1) := by decide +kernel
theorem r_X9_hall_16 {x0 : Value} {st : List Value} {h : AH} : Run M_X9_hall 16 [x0] st h = Run M_X9_hall 17 [x0] (.int (nI 0) :: st) h := R_iconst d_X9_hall_16 (by decide)
theorem d_X9_hall_17 : decode (mB M_X9_hall) 17 = .ok (.putfield 130, 3) := by decide +kernel
theorem r_X9_hall_17 {x0 : Value} {v : Int32} {a : Nat} {st : List Value} {h : AH} : Run M_X9_hall 17 [x0] (.int v :: .ref a :: st) h = if (pF h a 9 21 (.int v)).isSome = true then Run M_X9_hall 20 [x0] st ((pF h a 9 21 (.int v)).getD h) else none := R_putfield d_X9_hall_17 rfl (okP_int rfl rfl)
theorem d_X9_hall_20 : decode (mB M_X9_hall) 20 = .ok (.aload_n 0, 1) := by decide +kernel
theorem r_X9_hall_20 {a : Nat} {st : List Value} {h : AH} : Run M_X9_hall 20 [.ref a] st h = Run M_X9_hall 21 [.ref a] (.ref a :: st) h := R_aload_n d_X9_hall_20 rfl
theorem d_X9_hall_21 : decode (mB M_X9_hall) 21 = .ok (.iconst 0, 1) := by decide +kernel
theorem r_X9_hall_21 {x0 : Value} {st : List Value} {h : AH} : Run M_X9_hall 21 [x0] st h = Run M_X9_hall 22 [x0] (.int (nI 0) :: st) h := R_iconst d_X9_hall_21 (by decide)
theorem d_X9_hall_22 : decode (mB M_X9_hall) 22 = .ok (.putfield 155, 3) := by decide +kernel
theorem r_X9_hall_22 {x0 : Value} {v : Int32} {a : Nat} {st : List Value} {h : AH} : Run M_X9_hall 22 [x0] (.int v :: .ref a :: st) h = if (pF h a 9 27 (.int v)).isSome = true then Run M_X9_hall 25 [x0] st ((pF h a 9 27 (.int v)).getD h) else none := R_putfield d_X9_hall_22 rfl (okP_int rfl rfl)
theorem d_X9_hall_25 : decode (mB M_X9_hall) 25 = .ok (.aload_n 0, 1) := by decide +kernel
theorem r_X9_hall_25 {a : Nat} {st : List Value} {h : AH} : Run M_X9_hall 25 [.ref a] st h = Run M_X9_hall 26 [.ref a] (.ref a :: st) h := R_aload_n d_X9_hall_25 rfl
theorem d_X9_hall_26 : decode (mB M_X9_hall) 26 = .ok (.iconst 0, 1) := by decide +kernel
theorem r_X9_hall_26 {x0 : Value} {st : List Value} {h : AH} : Run M_X9_hall 26 [x0] st h = Run M_X9_hall 27 [x0] (.int (nI 0) :: st) h := R_iconst d_X9_hall_26 (by decide)
theorem d_X9_hall_27 : decode (mB M_X9_hall) 27 = .ok (.putfield 158, 3) := by decide +kernel
theorem r_X9_hall_27 {x0 : Value} {v : Int32} {a : Nat} {st : List Value} {h : AH} : Run M_X9_hall 27 [x0] (.int v :: .ref a :: st) h = if (pF h a 9 29 (.int v)).isSome = true then Run M_X9_hall 30 [x0] st ((pF h a 9 29 (.int v)).getD h) else none := R_putfield d_X9_hall_27 rfl (okP_int rfl rfl)
theorem d_X9_hall_30 : decode (mB M_X9_hall) 30 = .ok (.aload_n 0, 1) := by decide +kernel
theorem r_X9_hall_30 {a : Nat} {st : List Value} {h : AH} : Run M_X9_hall 30 [.ref a] st h = Run M_X9_hall 31 [.ref a] (.ref a :: st) h := R_aload_n d_X9_hall_30 rfl
theorem d_X9_hall_31 : decode (mB M_X9_hall) 31 = .ok (.iconst 0, 1) := by decide +kernel
theorem r_X9_hall_31 {x0 : Value} {st : List Value} {h : AH} : Run M_X9_hall 31 [x0] st h = Run M_X9_hall 32 [x0] (.int (nI 0) :: st) h := R_iconst d_X9_hall_31 (by decide)
theorem d_X9_hall_32 : decode (mB M_X9_hall) 32 = .ok (.putfield 148, 3) := by decide +kernel
theorem r_X9_hall_32_0 {x0 : Value} {a : Nat} {st : List Value} {h : AH} : Run M_X9_hall 32 [x0] (.int (nI 0) :: .ref a :: st) h = if (pF h a 9 32 (.int (nI 0))).isSome = true then Run M_X9_hall 35 [x0] st ((pF h a 9 32 (.int (nI 0))).getD h) else none := R_putfield d_X9_hall_32 rfl (okP_bool rfl rfl (Or.inl rfl))
theorem r_X9_hall_32_1 {x0 : Value} {a : Nat} {st : List Value} {h : AH} : Run M_X9_hall 32 [x0] (.int (nI 1) :: .ref a :: st) h = if (pF h a 9 32 (.int (nI 1))).isSome = true then Run M_X9_hall 35 [x0] st ((pF h a 9 32 (.int (nI 1))).getD h) else none := R_putfield d_X9_hall_32 rfl (okP_bool rfl rfl (Or.inr rfl))
theorem d_X9_hall_35 : decode (mB M_X9_hall) 35 = .ok (.aload_n 0, 1) := by decide +kernel
theorem r_X9_hall_35 {a : Nat} {st : List Value} {h : AH} : Run M_X9_hall 35 [.ref a] st h = Run M_X9_hall 36 [.ref a] (.ref a :: st) h := R_aload_n d_X9_hall_35 rfl
theorem d_X9_hall_36 : decode (mB M_X9_hall) 36 = .ok (.iconst 0, 1) := by decide +kernel
theorem r_X9_hall_36 {x0 : Value} {st : List Value} {h : AH} : Run M_X9_hall 36 [x0] st h = Run M_X9_hall 37 [x0] (.int (nI 0) :: st) h := R_iconst d_X9_hall_36 (by decide)
theorem d_X9_hall_37 : decode (mB M_X9_hall) 37 = .ok (.putfield 152, 3) := by decide +kernel
theorem r_X9_hall_37_0 {x0 : Value} {a : Nat} {st : List Value} {h : AH} : Run M_X9_hall 37 [x0] (.int (nI 0) :: .ref a :: st) h = if (pF h a 9 33 (.int (nI 0))).isSome = true then Run M_X9_hall 40 [x0] st ((pF h a 9 33 (.int (nI 0))).getD h) else none := R_putfield d_X9_hall_37 rfl (okP_bool rfl rfl (Or.inl rfl))
theorem r_X9_hall_37_1 {x0 : Value} {a : Nat} {st : List Value} {h : AH} : Run M_X9_hall 37 [x0] (.int (nI 1) :: .ref a :: st) h = if (pF h a 9 33 (.int (nI 1))).isSome = true then Run M_X9_hall 40 [x0] st ((pF h a 9 33 (.int (nI 1))).getD h) else none := R_putfield d_X9_hall_37 rfl (okP_bool rfl rfl (Or.inr rfl))
theorem d_X9_hall_40 : decode (mB M_X9_hall) 40 = .ok (.aload_n 0, 1) := by decide +kernel
theorem r_X9_hall_40 {a : Nat} {st : List Value} {h : AH} : Run M_X9_hall 40 [.ref a] st h = Run M_X9_hall 41 [.ref a] (.ref a :: st) h := R_aload_n d_X9_hall_40 rfl
theorem d_X9_hall_41 : decode (mB M_X9_hall) 41 = .ok (.getfield 66, 3) := by decide +kernel
theorem r_X9_hall_41 {x0 : Value} {a : Nat} {st : List Value} {h : AH} : Run M_X9_hall 41 [x0] (.ref a :: st) h = if (gF h a 9 31).isSome = true then Run M_X9_hall 44 [x0] ((gF h a 9 31).getD .null :: st) h else none := R_getfield d_X9_hall_41 rfl
theorem d_X9_hall_44 : decode (mB M_X9_hall) 44 = .ok (.iconst 0, 1) := by decide +kernel
theorem r_X9_hall_44 {x0 : Value} {st : List Value} {h : AH} : Run M_X9_hall 44 [x0] st h = Run M_X9_hall 45 [x0] (.int (nI 0) :: st) h := R_iconst d_X9_hall_44 (by decide)
theorem d_X9_hall_45 : decode (mB M_X9_hall) 45 = .ok (.iconst 3, 1) := by decide +kernel
theorem r_X9_hall_45 {x0 : Value} {st : List Value} {h : AH} : Run M_X9_hall 45 [x0] st h = Run M_X9_hall 46 [x0] (.int (nI 3) :: st) h := R_iconst d_X9_hall_45 (by decide)
theorem d_X9_hall_46 : decode (mB M_X9_hall) 46 = .ok (.iastore, 1) := by decide +kernel
theorem r_X9_hall_46 {x0 : Value} {a : Nat} {i x : Int32} {st : List Value} {h : AH} : Run M_X9_hall 46 [x0] (.int x :: .int i :: .ref a :: st) h = if (pI 0 h a i x).isSome = true then Run M_X9_hall 47 [x0] st ((pI 0 h a i x).getD h) else none := R_iastore d_X9_hall_46
theorem d_X9_hall_47 : decode (mB M_X9_hall) 47 = .ok (.aload_n 0, 1) := by decide +kernel
theorem r_X9_hall_47 {a : Nat} {st : List Value} {h : AH} : Run M_X9_hall 47 [.ref a] st h = Run M_X9_hall 48 [.ref a] (.ref a :: st) h := R_aload_n d_X9_hall_47 rfl
theorem d_X9_hall_48 : decode (mB M_X9_hall) 48 = .ok (.getfield 66, 3) := by decide +kernel
theorem r_X9_hall_48 {x0 : Value} {a : Nat} {st : List Value} {h : AH} : Run M_X9_hall 48 [x0] (.ref a :: st) h = if (gF h a 9 31).isSome = true then Run M_X9_hall 51 [x0] ((gF h a 9 31).getD .null :: st) h else none := R_getfield d_X9_hall_48 rfl
theorem d_X9_hall_51 : decode (mB M_X9_hall) 51 = .ok (.iconst 1, 1) := by decide +kernel
theorem r_X9_hall_51 {x0 : Value} {st : List Value} {h : AH} : Run M_X9_hall 51 [x0] st h = Run M_X9_hall 52 [x0] (.int (nI 1) :: st) h := R_iconst d_X9_hall_51 (by decide)
theorem d_X9_hall_52 : decode (mB M_X9_hall) 52 = .ok (.iconst 2, 1) := by decide +kernel
theorem r_X9_hall_52 {x0 : Value} {st : List Value} {h : AH} : Run M_X9_hall 52 [x0] st h = Run M_X9_hall 53 [x0] (.int (nI 2) :: st) h := R_iconst d_X9_hall_52 (by decide)
theorem d_X9_hall_53 : decode (mB M_X9_hall) 53 = .ok (.iastore, 1) := by decide +kernel
theorem r_X9_hall_53 {x0 : Value} {a : Nat} {i x : Int32} {st : List Value} {h : AH} : Run M_X9_hall 53 [x0] (.int x :: .int i :: .ref a :: st) h = if (pI 0 h a i x).isSome = true then Run M_X9_hall 54 [x0] st ((pI 0 h a i x).getD h) else none := R_iastore d_X9_hall_53
theorem d_X9_hall_54 : decode (mB M_X9_hall) 54 = .ok (.aload_n 0, 1) := by decide +kernel
theorem r_X9_hall_54 {a : Nat} {st : List Value} {h : AH} : Run M_X9_hall 54 [.ref a] st h = Run M_X9_hall 55 [.ref a] (.ref a :: st) h := R_aload_n d_X9_hall_54 rfl
theorem d_X9_hall_55 : decode (mB M_X9_hall) 55 = .ok (.getfield 66, 3) := by decide +kernel
theorem r_X9_hall_55 {x0 : Value} {a : Nat} {st : List Value} {h : AH} : Run M_X9_hall 55 [x0] (.ref a :: st) h = if (gF h a 9 31).isSome = true then Run M_X9_hall 58 [x0] ((gF h a 9 31).getD .null :: st) h else none := R_getfield d_X9_hall_55 rfl
theorem d_X9_hall_58 : decode (mB M_X9_hall) 58 = .ok (.iconst 2, 1) := by decide +kernel
theorem r_X9_hall_58 {x0 : Value} {st : List Value} {h : AH} : Run M_X9_hall 58 [x0] st h = Run M_X9_hall 59 [x0] (.int (nI 2) :: st) h := R_iconst d_X9_hall_58 (by decide)
theorem d_X9_hall_59 : decode (mB M_X9_hall) 59 = .ok (.iconst 1, 1) := by decide +kernel
theorem r_X9_hall_59 {x0 : Value} {st : List Value} {h : AH} : Run M_X9_hall 59 [x0] st h = Run M_X9_hall 60 [x0] (.int (nI 1) :: st) h := R_iconst d_X9_hall_59 (by decide)
theorem d_X9_hall_60 : decode (mB M_X9_hall) 60 = .ok (.iastore, 1) := by decide +kernel
theorem r_X9_hall_60 {x0 : Value} {a : Nat} {i x : Int32} {st : List Value} {h : AH} : Run M_X9_hall 60 [x0] (.int x :: .int i :: .ref a :: st) h = if (pI 0 h a i x).isSome = true then Run M_X9_hall 61 [x0] st ((pI 0 h a i x).getD h) else none := R_iastore d_X9_hall_60
theorem d_X9_hall_61 : decode (mB M_X9_hall) 61 = .ok (.aload_n 0, 1) := by decide +kernel
theorem r_X9_hall_61 {a : Nat} {st : List Value} {h : AH} : Run M_X9_hall 61 [.ref a] st h = Run M_X9_hall 62 [.ref a] (.ref a :: st) h := R_aload_n d_X9_hall_61 rfl
theorem d_X9_hall_62 : decode (mB M_X9_hall) 62 = .ok (.getfield 66, 3) := by decide +kernel
theorem r_X9_hall_62 {x0 : Value} {a : Nat} {st : List Value} {h : AH} : Run M_X9_hall 62 [x0] (.ref a :: st) h = if (gF h a 9 31).isSome = true then Run M_X9_hall 65 [x0] ((gF h a 9 31).getD .null :: st) h else none := R_getfield d_X9_hall_62 rfl
theorem d_X9_hall_65 : decode (mB M_X9_hall) 65 = .ok (.iconst 3, 1) := by decide +kernel
theorem r_X9_hall_65 {x0 : Value} {st : List Value} {h : AH} : Run M_X9_hall 65 [x0] st h = Run M_X9_hall 66 [x0] (.int (nI 3) :: st) h := R_iconst d_X9_hall_65 (by decide)
theorem d_X9_hall_66 : decode (mB M_X9_hall) 66 = .ok (.bipush 8, 2) := by decide +kernel
theorem r_X9_hall_66 {x0 : Value} {st : List Value} {h : AH} : Run M_X9_hall 66 [x0] st h = Run M_X9_hall 68 [x0] (.int (nI 8) :: st) h := R_bipush d_X9_hall_66 (by decide)
theorem d_X9_hall_68 : decode (mB M_X9_hall) 68 = .ok (.iastore, 1) := by decide +kernel
theorem r_X9_hall_68 {x0 : Value} {a : Nat} {i x : Int32} {st : List Value} {h : AH} : Run M_X9_hall 68 [x0] (.int x :: .int i :: .ref a :: st) h = if (pI 0 h a i x).isSome = true then Run M_X9_hall 69 [x0] st ((pI 0 h a i x).getD h) else none := R_iastore d_X9_hall_68
theorem d_X9_hall_69 : decode (mB M_X9_hall) 69 = .ok (.aload_n 0, 1) := by decide +kernel
theorem r_X9_hall_69 {a : Nat} {st : List Value} {h : AH} : Run M_X9_hall 69 [.ref a] st h = Run M_X9_hall 70 [.ref a] (.ref a :: st) h := R_aload_n d_X9_hall_69 rfl
theorem d_X9_hall_70 : decode (mB M_X9_hall) 70 = .ok (.getfield 66, 3) := by decide +kernel
theorem r_X9_hall_70 {x0 : Value} {a : Nat} {st : List Value} {h : AH} : Run M_X9_hall 70 [x0] (.ref a :: st) h = if (gF h a 9 31).isSome = true then Run M_X9_hall 73 [x0] ((gF h a 9 31).getD .null :: st) h else none := R_getfield d_X9_hall_70 rfl
theorem d_X9_hall_73 : decode (mB M_X9_hall) 73 = .ok (.iconst 4, 1) := by decide +kernel
theorem r_X9_hall_73 {x0 : Value} {st : List Value} {h : AH} : Run M_X9_hall 73 [x0] st h = Run M_X9_hall 74 [x0] (.int (nI 4) :: st) h := R_iconst d_X9_hall_73 (by decide)
theorem d_X9_hall_74 : decode (mB M_X9_hall) 74 = .ok (.iconst 0, 1) := by decide +kernel
theorem r_X9_hall_74 {x0 : Value} {st : List Value} {h : AH} : Run M_X9_hall 74 [x0] st h = Run M_X9_hall 75 [x0] (.int (nI 0) :: st) h := R_iconst d_X9_hall_74 (by decide)
theorem d_X9_hall_75 : decode (mB M_X9_hall) 75 = .ok (.iastore, 1) := by decide +kernel
theorem r_X9_hall_75 {x0 : Value} {a : Nat} {i x : Int32} {st : List Value} {h : AH} : Run M_X9_hall 75 [x0] (.int x :: .int i :: .ref a :: st) h = if (pI 0 h a i x).isSome = true then Run M_X9_hall 76 [x0] st ((pI 0 h a i x).getD h) else none := R_iastore d_X9_hall_75
theorem d_X9_hall_76 : decode (mB M_X9_hall) 76 = .ok (.aload_n 0, 1) := by decide +kernel
theorem r_X9_hall_76 {a : Nat} {st : List Value} {h : AH} : Run M_X9_hall 76 [.ref a] st h = Run M_X9_hall 77 [.ref a] (.ref a :: st) h := R_aload_n d_X9_hall_76 rfl
theorem d_X9_hall_77 : decode (mB M_X9_hall) 77 = .ok (.invokevirtual 127, 3) := by decide +kernel
theorem r_X9_hall_77 {x0 : Value} {a : Nat} {h : AH} : Run M_X9_hall 77 [x0] (.ref a :: []) h = if refO h 9 (some (.ref a)) = true then (if (Call M_X9_next h [.ref a]).isSome = true then Run M_X9_hall 80 [x0] (rL (Call M_X9_next h [.ref a]) ++ []) (cH (Call M_X9_next h [.ref a])) else none) else none := R_virt d_X9_hall_77 rfl rfl rfl rfl rfl (Nat.le_of_ble_eq_true rfl)
theorem d_X9_hall_80 : decode (mB M_X9_hall) 80 = .ok (.aload_n 0, 1) := by decide +kernel
theorem r_X9_hall_80 {a : Nat} {st : List Value} {h : AH} : Run M_X9_hall 80 [.ref a] st h = Run M_X9_hall 81 [.ref a] (.ref a :: st) h := R_aload_n d_X9_hall_80 rfl
theorem d_X9_hall_81 : decode (mB M_X9_hall) 81 = .ok (.invokevirtual 119, 3) := by decide +kernel
theorem r_X9_hall_81 {x0 : Value} {a : Nat} {h : AH} : Run M_X9_hall 81 [x0] (.ref a :: []) h = if refO h 9 (some (.ref a)) = true then (if (Call M_X9_isWell h [.ref a]).isSome = true then Run M_X9_hall 84 [x0] (rL (Call M_X9_isWell h [.ref a]) ++ []) (cH (Call M_X9_isWell h [.ref a])) else none) else none := R_virt d_X9_hall_81 rfl rfl rfl rfl rfl (Nat.le_of_ble_eq_true rfl)
theorem d_X9_hall_84 : decode (mB M_X9_hall) 84 = .ok (.ifCond .eq 17, 3) := by decide +kernel
theorem r_X9_hall_84 {x0 : Value} {x : Int32} {st : List Value} {h : AH} : Run M_X9_hall 84 [x0] (.int x :: st) h = if x = nI 0 then Run M_X9_hall 101 [x0] st h else Run M_X9_hall 87 [x0] st h := R_if_eq d_X9_hall_84 (by decide)
theorem d_X9_hall_87 : decode (mB M_X9_hall) 87 = .ok (.aload_n 0, 1) := by decide +kernel
theorem r_X9_hall_87 {a : Nat} {st : List Value} {h : AH} : Run M_X9_hall 87 [.ref a] st h = Run M_X9_hall 88 [.ref a] (.ref a :: st) h := R_aload_n d_X9_hall_87 rfl
theorem d_X9_hall_88 : decode (mB M_X9_hall) 88 = .ok (.getfield 107, 3) := by decide +kernel
theorem r_X9_hall_88 {x0 : Value} {a : Nat} {st : List Value} {h : AH} : Run M_X9_hall 88 [x0] (.ref a :: st) h = if (gF h a 9 16).isSome = true then Run M_X9_hall 91 [x0] ((gF h a 9 16).getD .null :: st) h else none := R_getfield d_X9_hall_88 rfl
theorem d_X9_hall_91 : decode (mB M_X9_hall) 91 = .ok (.ifCond .eq 10, 3) := by decide +kernel
theorem r_X9_hall_91 {x0 : Value} {x : Int32} {st : List Value} {h : AH} : Run M_X9_hall 91 [x0] (.int x :: st) h = if x = nI 0 then Run M_X9_hall 101 [x0] st h else Run M_X9_hall 94 [x0] st h := R_if_eq d_X9_hall_91 (by decide)
theorem d_X9_hall_94 : decode (mB M_X9_hall) 94 = .ok (.aload_n 0, 1) := by decide +kernel
theorem r_X9_hall_94 {a : Nat} {st : List Value} {h : AH} : Run M_X9_hall 94 [.ref a] st h = Run M_X9_hall 95 [.ref a] (.ref a :: st) h := R_aload_n d_X9_hall_94 rfl
theorem d_X9_hall_95 : decode (mB M_X9_hall) 95 = .ok (.invokevirtual 176, 3) := by decide +kernel
theorem r_X9_hall_95 {x0 : Value} {a : Nat} {h : AH} : Run M_X9_hall 95 [x0] (.ref a :: []) h = if refO h 9 (some (.ref a)) = true then (if (Call M_X9_readClause h [.ref a]).isSome = true then Run M_X9_hall 98 [x0] (rL (Call M_X9_readClause h [.ref a]) ++ []) (cH (Call M_X9_readClause h [.ref a])) else none) else none := R_virt d_X9_hall_95 rfl rfl rfl rfl rfl (Nat.le_of_ble_eq_true rfl)
theorem d_X9_hall_98 : decode (mB M_X9_hall) 98 = .ok (.goto (-18), 3) := by decide +kernel
theorem r_X9_hall_98 {x0 : Value} {st : List Value} {h : AH} : Run M_X9_hall 98 [x0] st h = Run M_X9_hall 80 [x0] st h := R_goto d_X9_hall_98 (by decide)
theorem d_X9_hall_101 : decode (mB M_X9_hall) 101 = .ok (.aload_n 0, 1) := by decide +kernel
theorem r_X9_hall_101 {a : Nat} {st : List Value} {h : AH} : Run M_X9_hall 101 [.ref a] st h = Run M_X9_hall 102 [.ref a] (.ref a :: st) h := R_aload_n d_X9_hall_101 rfl
theorem d_X9_hall_102 : decode (mB M_X9_hall) 102 = .ok (.iconst 0, 1) := by decide +kernel
theorem r_X9_hall_102 {x0 : Value} {st : List Value} {h : AH} : Run M_X9_hall 102 [x0] st h = Run M_X9_hall 103 [x0] (.int (nI 0) :: st) h := R_iconst d_X9_hall_102 (by decide)
theorem d_X9_hall_103 : decode (mB M_X9_hall) 103 = .ok (.putfield 93, 3) := by decide +kernel
theorem r_X9_hall_103 {x0 : Value} {v : Int32} {a : Nat} {st : List Value} {h : AH} : Run M_X9_hall 103 [x0] (.int v :: .ref a :: st) h = if (pF h a 9 13 (.int v)).isSome = true then Run M_X9_hall 106 [x0] st ((pF h a 9 13 (.int v)).getD h) else none := R_putfield d_X9_hall_103 rfl (okP_int rfl rfl)
theorem d_X9_hall_106 : decode (mB M_X9_hall) 106 = .ok (.aload_n 0, 1) := by decide +kernel
theorem r_X9_hall_106 {a : Nat} {st : List Value} {h : AH} : Run M_X9_hall 106 [.ref a] st h = Run M_X9_hall 107 [.ref a] (.ref a :: st) h := R_aload_n d_X9_hall_106 rfl
theorem d_X9_hall_107 : decode (mB M_X9_hall) 107 = .ok (.invokevirtual 119, 3) := by decide +kernel
theorem r_X9_hall_107 {x0 : Value} {a : Nat} {h : AH} : Run M_X9_hall 107 [x0] (.ref a :: []) h = if refO h 9 (some (.ref a)) = true then (if (Call M_X9_isWell h [.ref a]).isSome = true then Run M_X9_hall 110 [x0] (rL (Call M_X9_isWell h [.ref a]) ++ []) (cH (Call M_X9_isWell h [.ref a])) else none) else none := R_virt d_X9_hall_107 rfl rfl rfl rfl rfl (Nat.le_of_ble_eq_true rfl)
theorem d_X9_hall_110 : decode (mB M_X9_hall) 110 = .ok (.ifCond .ne 11, 3) := by decide +kernel
theorem r_X9_hall_110 {x0 : Value} {x : Int32} {st : List Value} {h : AH} : Run M_X9_hall 110 [x0] (.int x :: st) h = if x = nI 0 then Run M_X9_hall 113 [x0] st h else Run M_X9_hall 121 [x0] st h := R_if_ne d_X9_hall_110 (by decide)
theorem d_X9_hall_113 : decode (mB M_X9_hall) 113 = .ok (.bipush (-10), 2) := by decide +kernel
theorem r_X9_hall_113 {x0 : Value} {st : List Value} {h : AH} : Run M_X9_hall 113 [x0] st h = Run M_X9_hall 115 [x0] (.int (-10) :: st) h := R_bipush d_X9_hall_113 (by decide)
theorem d_X9_hall_115 : decode (mB M_X9_hall) 115 = .ok (.aload_n 0, 1) := by decide +kernel
theorem r_X9_hall_115 {a : Nat} {st : List Value} {h : AH} : Run M_X9_hall 115 [.ref a] st h = Run M_X9_hall 116 [.ref a] (.ref a :: st) h := R_aload_n d_X9_hall_115 rfl
theorem d_X9_hall_116 : decode (mB M_X9_hall) 116 = .ok (.getfield 116, 3) := by decide +kernel
theorem r_X9_hall_116 {x0 : Value} {a : Nat} {st : List Value} {h : AH} : Run M_X9_hall 116 [x0] (.ref a :: st) h = if (gF h a 9 19).isSome = true then Run M_X9_hall 119 [x0] ((gF h a 9 19).getD .null :: st) h else none := R_getfield d_X9_hall_116 rfl
theorem d_X9_hall_119 : decode (mB M_X9_hall) 119 = .ok (.isub, 1) := by decide +kernel
theorem r_X9_hall_119 {x0 : Value} {x y : Int32} {st : List Value} {h : AH} : Run M_X9_hall 119 [x0] (.int y :: .int x :: st) h = Run M_X9_hall 120 [x0] (.int (x - y) :: st) h := R_isub d_X9_hall_119
theorem d_X9_hall_120 : decode (mB M_X9_hall) 120 = .ok (.ireturn, 1) := by decide +kernel
theorem r_X9_hall_120 {x0 : Value} {v : Int32} {h : AH} : Run M_X9_hall 120 [x0] [.int v] h = some (h, some (.int v)) := R_ireturn d_X9_hall_120 rfl rfl
theorem d_X9_hall_121 : decode (mB M_X9_hall) 121 = .ok (.aload_n 0, 1) := by decide +kernel
theorem r_X9_hall_121 {a : Nat} {st : List Value} {h : AH} : Run M_X9_hall 121 [.ref a] st h = Run M_X9_hall 122 [.ref a] (.ref a :: st) h := R_aload_n d_X9_hall_121 rfl
theorem d_X9_hall_122 : decode (mB M_X9_hall) 122 = .ok (.invokevirtual 179, 3) := by decide +kernel
theorem r_X9_hall_122 {x0 : Value} {a : Nat} {h : AH} : Run M_X9_hall 122 [x0] (.ref a :: []) h = if refO h 9 (some (.ref a)) = true then (if (Call M_X9_settles h [.ref a]).isSome = true then Run M_X9_hall 125 [x0] (rL (Call M_X9_settles h [.ref a]) ++ []) (cH (Call M_X9_settles h [.ref a])) else none) else none := R_virt d_X9_hall_122 rfl rfl rfl rfl rfl (Nat.le_of_ble_eq_true rfl)
theorem d_X9_hall_125 : decode (mB M_X9_hall) 125 = .ok (.aload_n 0, 1) := by decide +kernel
theorem r_X9_hall_125 {a : Nat} {st : List Value} {h : AH} : Run M_X9_hall 125 [.ref a] st h = Run M_X9_hall 126 [.ref a] (.ref a :: st) h := R_aload_n d_X9_hall_125 rfl
theorem d_X9_hall_126 : decode (mB M_X9_hall) 126 = .ok (.getfield 82, 3) := by decide +kernel
theorem r_X9_hall_126 {x0 : Value} {a : Nat} {st : List Value} {h : AH} : Run M_X9_hall 126 [x0] (.ref a :: st) h = if (gF h a 9 3).isSome = true then Run M_X9_hall 129 [x0] ((gF h a 9 3).getD .null :: st) h else none := R_getfield d_X9_hall_126 rfl
theorem d_X9_hall_129 : decode (mB M_X9_hall) 129 = .ok (.ireturn, 1) := by decide +kernel
theorem r_X9_hall_129 {x0 : Value} {v : Int32} {h : AH} : Run M_X9_hall 129 [x0] [.int v] h = some (h, some (.int v)) := R_ireturn d_X9_hall_129 rfl rfl
theorem d_X9_settles_0 : decode (mB M_X9_settles) 0 = .ok (.aload_n 0, 1) := by decide +kernel
theorem r_X9_settles_0 {x1 : Value} {a : Nat} {st : List Value} {h : AH} : Run M_X9_settles 0 [.ref a, x1] st h = Run M_X9_settles 1 [.ref a, x1] (.ref a :: st) h := R_aload_n d_X9_settles_0 rfl
theorem d_X9_settles_1 : decode (mB M_X9_settles) 1 = .ok (.aload_n 0, 1) := by decide +kernel
theorem r_X9_settles_1 {x1 : Value} {a : Nat} {st : List Value} {h : AH} : Run M_X9_settles 1 [.ref a, x1] st h = Run M_X9_settles 2 [.ref a, x1] (.ref a :: st) h := R_aload_n d_X9_settles_1 rfl
theorem d_X9_settles_2 : decode (mB M_X9_settles) 2 = .ok (.getfield 130, 3) := by decide +kernel
theorem r_X9_settles_2 {x0 x1 : Value} {a : Nat} {st : List Value} {h : AH} : Run M_X9_settles 2 [x0, x1] (.ref a :: st) h = if (gF h a 9 21).isSome = true then Run M_X9_settles 5 [x0, x1] ((gF h a 9 21).getD .null :: st) h else none := R_getfield d_X9_settles_2 rfl
theorem d_X9_settles_5 : decode (mB M_X9_settles) 5 = .ok (.putfield 82, 3) := by decide +kernel
theorem r_X9_settles_5 {x0 x1 : Value} {v : Int32} {a : Nat} {st : List Value} {h : AH} : Run M_X9_settles 5 [x0, x1] (.int v :: .ref a :: st) h = if (pF h a 9 3 (.int v)).isSome = true then Run M_X9_settles 8 [x0, x1] st ((pF h a 9 3 (.int v)).getD h) else none := R_putfield d_X9_settles_5 rfl (okP_int rfl rfl)
theorem d_X9_settles_8 : decode (mB M_X9_settles) 8 = .ok (.aload_n 0, 1) := by decide +kernel
theorem r_X9_settles_8 {x1 : Value} {a : Nat} {st : List Value} {h : AH} : Run M_X9_settles 8 [.ref a, x1] st h = Run M_X9_settles 9 [.ref a, x1] (.ref a :: st) h := R_aload_n d_X9_settles_8 rfl
theorem d_X9_settles_9 : decode (mB M_X9_settles) 9 = .ok (.aload_n 0, 1) := by decide +kernel
theorem r_X9_settles_9 {x1 : Value} {a : Nat} {st : List Value} {h : AH} : Run M_X9_settles 9 [.ref a, x1] st h = Run M_X9_settles 10 [.ref a, x1] (.ref a :: st) h := R_aload_n d_X9_settles_9 rfl
theorem d_X9_settles_10 : decode (mB M_X9_settles) 10 = .ok (.getfield 155, 3) := by decide +kernel
theorem r_X9_settles_10 {x0 x1 : Value} {a : Nat} {st : List Value} {h : AH} : Run M_X9_settles 10 [x0, x1] (.ref a :: st) h = if (gF h a 9 27).isSome = true then Run M_X9_settles 13 [x0, x1] ((gF h a 9 27).getD .null :: st) h else none := R_getfield d_X9_settles_10 rfl
theorem d_X9_settles_13 : decode (mB M_X9_settles) 13 = .ok (.putfield 89, 3) := by decide +kernel
theorem r_X9_settles_13 {x0 x1 : Value} {v : Int32} {a : Nat} {st : List Value} {h : AH} : Run M_X9_settles 13 [x0, x1] (.int v :: .ref a :: st) h = if (pF h a 9 9 (.int v)).isSome = true then Run M_X9_settles 16 [x0, x1] st ((pF h a 9 9 (.int v)).getD h) else none := R_putfield d_X9_settles_13 rfl (okP_int rfl rfl)
theorem d_X9_settles_16 : decode (mB M_X9_settles) 16 = .ok (.aload_n 0, 1) := by decide +kernel
theorem r_X9_settles_16 {x1 : Value} {a : Nat} {st : List Value} {h : AH} : Run M_X9_settles 16 [.ref a, x1] st h = Run M_X9_settles 17 [.ref a, x1] (.ref a :: st) h := R_aload_n d_X9_settles_16 rfl
theorem d_X9_settles_17 : decode (mB M_X9_settles) 17 = .ok (.aload_n 0, 1) := by decide +kernel
theorem r_X9_settles_17 {x1 : Value} {a : Nat} {st : List Value} {h : AH} : Run M_X9_settles 17 [.ref a, x1] st h = Run M_X9_settles 18 [.ref a, x1] (.ref a :: st) h := R_aload_n d_X9_settles_17 rfl
theorem d_X9_settles_18 : decode (mB M_X9_settles) 18 = .ok (.getfield 158, 3) := by decide +kernel
theorem r_X9_settles_18 {x0 x1 : Value} {a : Nat} {st : List Value} {h : AH} : Run M_X9_settles 18 [x0, x1] (.ref a :: st) h = if (gF h a 9 29).isSome = true then Run M_X9_settles 21 [x0, x1] ((gF h a 9 29).getD .null :: st) h else none := R_getfield d_X9_settles_18 rfl
theorem d_X9_settles_21 : decode (mB M_X9_settles) 21 = .ok (.putfield 182, 3) := by decide +kernel
theorem r_X9_settles_21 {x0 x1 : Value} {v : Int32} {a : Nat} {st : List Value} {h : AH} : Run M_X9_settles 21 [x0, x1] (.int v :: .ref a :: st) h = if (pF h a 9 10 (.int v)).isSome = true then Run M_X9_settles 24 [x0, x1] st ((pF h a 9 10 (.int v)).getD h) else none := R_putfield d_X9_settles_21 rfl (okP_int rfl rfl)
theorem d_X9_settles_24 : decode (mB M_X9_settles) 24 = .ok (.iconst 0, 1) := by decide +kernel
theorem r_X9_settles_24 {x0 x1 : Value} {st : List Value} {h : AH} : Run M_X9_settles 24 [x0, x1] st h = Run M_X9_settles 25 [x0, x1] (.int (nI 0) :: st) h := R_iconst d_X9_settles_24 (by decide)
theorem d_X9_settles_25 : decode (mB M_X9_settles) 25 = .ok (.istore_n 1, 1) := by decide +kernel
theorem r_X9_settles_25 {x0 x1 : Value} {a : Int32} {st : List Value} {h : AH} (hc : x0.category = 1) : Run M_X9_settles 25 [x0, x1] (.int a :: st) h = Run M_X9_settles 26 [x0, .int a] st h := R_istore_n d_X9_settles_25 (Nat.lt_of_lt_of_le (by decide : 1 < 2) (Nat.le_refl 2)) (catP_of rfl hc)
theorem d_X9_settles_26 : decode (mB M_X9_settles) 26 = .ok (.iload_n 1, 1) := by decide +kernel
theorem r_X9_settles_26 {x0 : Value} {a : Int32} {st : List Value} {h : AH} : Run M_X9_settles 26 [x0, .int a] st h = Run M_X9_settles 27 [x0, .int a] (.int a :: st) h := R_iload_n d_X9_settles_26 rfl
theorem d_X9_settles_27 : decode (mB M_X9_settles) 27 = .ok (.bipush 7, 2) := by decide +kernel
theorem r_X9_settles_27 {x0 x1 : Value} {st : List Value} {h : AH} : Run M_X9_settles 27 [x0, x1] st h = Run M_X9_settles 29 [x0, x1] (.int (nI 7) :: st) h := R_bipush d_X9_settles_27 (by decide)
theorem d_X9_settles_29 : decode (mB M_X9_settles) 29 = .ok (.if_icmp .ge 57, 3) := by decide +kernel
theorem r_X9_settles_29 {x0 x1 : Value} {x y : Int32} {st : List Value} {h : AH} : Run M_X9_settles 29 [x0, x1] (.int y :: .int x :: st) h = if y ≤ x then Run M_X9_settles 86 [x0, x1] st h else Run M_X9_settles 32 [x0, x1] st h := R_icmp_ge d_X9_settles_29 (by decide)
theorem d_X9_settles_32 : decode (mB M_X9_settles) 32 = .ok (.aload_n 0, 1) := by decide +kernel
theorem r_X9_settles_32 {x1 : Value} {a : Nat} {st : List Value} {h : AH} : Run M_X9_settles 32 [.ref a, x1] st h = Run M_X9_settles 33 [.ref a, x1] (.ref a :: st) h := R_aload_n d_X9_settles_32 rfl
theorem d_X9_settles_33 : decode (mB M_X9_settles) 33 = .ok (.getfield 20, 3) := by decide +kernel
theorem r_X9_settles_33 {x0 x1 : Value} {a : Nat} {st : List Value} {h : AH} : Run M_X9_settles 33 [x0, x1] (.ref a :: st) h = if (gF h a 9 4).isSome = true then Run M_X9_settles 36 [x0, x1] ((gF h a 9 4).getD .null :: st) h else none := R_getfield d_X9_settles_33 rfl
theorem d_X9_settles_36 : decode (mB M_X9_settles) 36 = .ok (.iload_n 1, 1) := by decide +kernel
theorem r_X9_settles_36 {x0 : Value} {a : Int32} {st : List Value} {h : AH} : Run M_X9_settles 36 [x0, .int a] st h = Run M_X9_settles 37 [x0, .int a] (.int a :: st) h := R_iload_n d_X9_settles_36 rfl
theorem d_X9_settles_37 : decode (mB M_X9_settles) 37 = .ok (.aload_n 0, 1) := by decide +kernel
theorem r_X9_settles_37 {x1 : Value} {a : Nat} {st : List Value} {h : AH} : Run M_X9_settles 37 [.ref a, x1] st h = Run M_X9_settles 38 [.ref a, x1] (.ref a :: st) h := R_aload_n d_X9_settles_37 rfl
theorem d_X9_settles_38 : decode (mB M_X9_settles) 38 = .ok (.getfield 45, 3) := by decide +kernel
theorem r_X9_settles_38 {x0 x1 : Value} {a : Nat} {st : List Value} {h : AH} : Run M_X9_settles 38 [x0, x1] (.ref a :: st) h = if (gF h a 9 22).isSome = true then Run M_X9_settles 41 [x0, x1] ((gF h a 9 22).getD .null :: st) h else none := R_getfield d_X9_settles_38 rfl
theorem d_X9_settles_41 : decode (mB M_X9_settles) 41 = .ok (.iload_n 1, 1) := by decide +kernel
theorem r_X9_settles_41 {x0 : Value} {a : Int32} {st : List Value} {h : AH} : Run M_X9_settles 41 [x0, .int a] st h = Run M_X9_settles 42 [x0, .int a] (.int a :: st) h := R_iload_n d_X9_settles_41 rfl
theorem d_X9_settles_42 : decode (mB M_X9_settles) 42 = .ok (.iaload, 1) := by decide +kernel
theorem r_X9_settles_42 {x0 x1 : Value} {a : Nat} {i : Int32} {st : List Value} {h : AH} : Run M_X9_settles 42 [x0, x1] (.int i :: .ref a :: st) h = if (gI 0 h a i).isSome = true then Run M_X9_settles 43 [x0, x1] (.int ((gI 0 h a i).getD 0) :: st) h else none := R_iaload d_X9_settles_42
theorem d_X9_settles_43 : decode (mB M_X9_settles) 43 = .ok (.iastore, 1) := by decide +kernel
theorem r_X9_settles_43 {x0 x1 : Value} {a : Nat} {i x : Int32} {st : List Value} {h : AH} : Run M_X9_settles 43 [x0, x1] (.int x :: .int i :: .ref a :: st) h = if (pI 0 h a i x).isSome = true then Run M_X9_settles 44 [x0, x1] st ((pI 0 h a i x).getD h) else none := R_iastore d_X9_settles_43
theorem d_X9_settles_44 : decode (mB M_X9_settles) 44 = .ok (.aload_n 0, 1) := by decide +kernel
theorem r_X9_settles_44 {x1 : Value} {a : Nat} {st : List Value} {h : AH} : Run M_X9_settles 44 [.ref a, x1] st h = Run M_X9_settles 45 [.ref a, x1] (.ref a :: st) h := R_aload_n d_X9_settles_44 rfl
theorem d_X9_settles_45 : decode (mB M_X9_settles) 45 = .ok (.getfield 23, 3) := by decide +kernel
theorem r_X9_settles_45 {x0 x1 : Value} {a : Nat} {st : List Value} {h : AH} : Run M_X9_settles 45 [x0, x1] (.ref a :: st) h = if (gF h a 9 5).isSome = true then Run M_X9_settles 48 [x0, x1] ((gF h a 9 5).getD .null :: st) h else none := R_getfield d_X9_settles_45 rfl
theorem d_X9_settles_48 : decode (mB M_X9_settles) 48 = .ok (.iload_n 1, 1) := by decide +kernel
theorem r_X9_settles_48 {x0 : Value} {a : Int32} {st : List Value} {h : AH} : Run M_X9_settles 48 [x0, .int a] st h = Run M_X9_settles 49 [x0, .int a] (.int a :: st) h := R_iload_n d_X9_settles_48 rfl
theorem d_X9_settles_49 : decode (mB M_X9_settles) 49 = .ok (.aload_n 0, 1) := by decide +kernel
theorem r_X9_settles_49 {x1 : Value} {a : Nat} {st : List Value} {h : AH} : Run M_X9_settles 49 [.ref a, x1] st h = Run M_X9_settles 50 [.ref a, x1] (.ref a :: st) h := R_aload_n d_X9_settles_49 rfl
theorem d_X9_settles_50 : decode (mB M_X9_settles) 50 = .ok (.getfield 48, 3) := by decide +kernel
theorem r_X9_settles_50 {x0 x1 : Value} {a : Nat} {st : List Value} {h : AH} : Run M_X9_settles 50 [x0, x1] (.ref a :: st) h = if (gF h a 9 23).isSome = true then Run M_X9_settles 53 [x0, x1] ((gF h a 9 23).getD .null :: st) h else none := R_getfield d_X9_settles_50 rfl
theorem d_X9_settles_53 : decode (mB M_X9_settles) 53 = .ok (.iload_n 1, 1) := by decide +kernel
theorem r_X9_settles_53 {x0 : Value} {a : Int32} {st : List Value} {h : AH} : Run M_X9_settles 53 [x0, .int a] st h = Run M_X9_settles 54 [x0, .int a] (.int a :: st) h := R_iload_n d_X9_settles_53 rfl
theorem d_X9_settles_54 : decode (mB M_X9_settles) 54 = .ok (.iaload, 1) := by decide +kernel
theorem r_X9_settles_54 {x0 x1 : Value} {a : Nat} {i : Int32} {st : List Value} {h : AH} : Run M_X9_settles 54 [x0, x1] (.int i :: .ref a :: st) h = if (gI 0 h a i).isSome = true then Run M_X9_settles 55 [x0, x1] (.int ((gI 0 h a i).getD 0) :: st) h else none := R_iaload d_X9_settles_54
theorem d_X9_settles_55 : decode (mB M_X9_settles) 55 = .ok (.iastore, 1) := by decide +kernel
theorem r_X9_settles_55 {x0 x1 : Value} {a : Nat} {i x : Int32} {st : List Value} {h : AH} : Run M_X9_settles 55 [x0, x1] (.int x :: .int i :: .ref a :: st) h = if (pI 0 h a i x).isSome = true then Run M_X9_settles 56 [x0, x1] st ((pI 0 h a i x).getD h) else none := R_iastore d_X9_settles_55
theorem d_X9_settles_56 : decode (mB M_X9_settles) 56 = .ok (.aload_n 0, 1) := by decide +kernel
theorem r_X9_settles_56 {x1 : Value} {a : Nat} {st : List Value} {h : AH} : Run M_X9_settles 56 [.ref a, x1] st h = Run M_X9_settles 57 [.ref a, x1] (.ref a :: st) h := R_aload_n d_X9_settles_56 rfl
theorem d_X9_settles_57 : decode (mB M_X9_settles) 57 = .ok (.getfield 26, 3) := by decide +kernel
theorem r_X9_settles_57 {x0 x1 : Value} {a : Nat} {st : List Value} {h : AH} : Run M_X9_settles 57 [x0, x1] (.ref a :: st) h = if (gF h a 9 6).isSome = true then Run M_X9_settles 60 [x0, x1] ((gF h a 9 6).getD .null :: st) h else none := R_getfield d_X9_settles_57 rfl
theorem d_X9_settles_60 : decode (mB M_X9_settles) 60 = .ok (.iload_n 1, 1) := by decide +kernel
theorem r_X9_settles_60 {x0 : Value} {a : Int32} {st : List Value} {h : AH} : Run M_X9_settles 60 [x0, .int a] st h = Run M_X9_settles 61 [x0, .int a] (.int a :: st) h := R_iload_n d_X9_settles_60 rfl
theorem d_X9_settles_61 : decode (mB M_X9_settles) 61 = .ok (.aload_n 0, 1) := by decide +kernel
theorem r_X9_settles_61 {x1 : Value} {a : Nat} {st : List Value} {h : AH} : Run M_X9_settles 61 [.ref a, x1] st h = Run M_X9_settles 62 [.ref a, x1] (.ref a :: st) h := R_aload_n d_X9_settles_61 rfl
theorem d_X9_settles_62 : decode (mB M_X9_settles) 62 = .ok (.getfield 51, 3) := by decide +kernel
theorem r_X9_settles_62 {x0 x1 : Value} {a : Nat} {st : List Value} {h : AH} : Run M_X9_settles 62 [x0, x1] (.ref a :: st) h = if (gF h a 9 24).isSome = true then Run M_X9_settles 65 [x0, x1] ((gF h a 9 24).getD .null :: st) h else none := R_getfield d_X9_settles_62 rfl
theorem d_X9_settles_65 : decode (mB M_X9_settles) 65 = .ok (.iload_n 1, 1) := by decide +kernel
theorem r_X9_settles_65 {x0 : Value} {a : Int32} {st : List Value} {h : AH} : Run M_X9_settles 65 [x0, .int a] st h = Run M_X9_settles 66 [x0, .int a] (.int a :: st) h := R_iload_n d_X9_settles_65 rfl
theorem d_X9_settles_66 : decode (mB M_X9_settles) 66 = .ok (.iaload, 1) := by decide +kernel
theorem r_X9_settles_66 {x0 x1 : Value} {a : Nat} {i : Int32} {st : List Value} {h : AH} : Run M_X9_settles 66 [x0, x1] (.int i :: .ref a :: st) h = if (gI 0 h a i).isSome = true then Run M_X9_settles 67 [x0, x1] (.int ((gI 0 h a i).getD 0) :: st) h else none := R_iaload d_X9_settles_66
theorem d_X9_settles_67 : decode (mB M_X9_settles) 67 = .ok (.iastore, 1) := by decide +kernel
theorem r_X9_settles_67 {x0 x1 : Value} {a : Nat} {i x : Int32} {st : List Value} {h : AH} : Run M_X9_settles 67 [x0, x1] (.int x :: .int i :: .ref a :: st) h = if (pI 0 h a i x).isSome = true then Run M_X9_settles 68 [x0, x1] st ((pI 0 h a i x).getD h) else none := R_iastore d_X9_settles_67
theorem d_X9_settles_68 : decode (mB M_X9_settles) 68 = .ok (.aload_n 0, 1) := by decide +kernel
theorem r_X9_settles_68 {x1 : Value} {a : Nat} {st : List Value} {h : AH} : Run M_X9_settles 68 [.ref a, x1] st h = Run M_X9_settles 69 [.ref a, x1] (.ref a :: st) h := R_aload_n d_X9_settles_68 rfl
theorem d_X9_settles_69 : decode (mB M_X9_settles) 69 = .ok (.getfield 29, 3) := by decide +kernel
theorem r_X9_settles_69 {x0 x1 : Value} {a : Nat} {st : List Value} {h : AH} : Run M_X9_settles 69 [x0, x1] (.ref a :: st) h = if (gF h a 9 7).isSome = true then Run M_X9_settles 72 [x0, x1] ((gF h a 9 7).getD .null :: st) h else none := R_getfield d_X9_settles_69 rfl
theorem d_X9_settles_72 : decode (mB M_X9_settles) 72 = .ok (.iload_n 1, 1) := by decide +kernel
theorem r_X9_settles_72 {x0 : Value} {a : Int32} {st : List Value} {h : AH} : Run M_X9_settles 72 [x0, .int a] st h = Run M_X9_settles 73 [x0, .int a] (.int a :: st) h := R_iload_n d_X9_settles_72 rfl
theorem d_X9_settles_73 : decode (mB M_X9_settles) 73 = .ok (.aload_n 0, 1) := by decide +kernel
theorem r_X9_settles_73 {x1 : Value} {a : Nat} {st : List Value} {h : AH} : Run M_X9_settles 73 [.ref a, x1] st h = Run M_X9_settles 74 [.ref a, x1] (.ref a :: st) h := R_aload_n d_X9_settles_73 rfl
theorem d_X9_settles_74 : decode (mB M_X9_settles) 74 = .ok (.getfield 54, 3) := by decide +kernel
theorem r_X9_settles_74 {x0 x1 : Value} {a : Nat} {st : List Value} {h : AH} : Run M_X9_settles 74 [x0, x1] (.ref a :: st) h = if (gF h a 9 25).isSome = true then Run M_X9_settles 77 [x0, x1] ((gF h a 9 25).getD .null :: st) h else none := R_getfield d_X9_settles_74 rfl
theorem d_X9_settles_77 : decode (mB M_X9_settles) 77 = .ok (.iload_n 1, 1) := by decide +kernel
theorem r_X9_settles_77 {x0 : Value} {a : Int32} {st : List Value} {h : AH} : Run M_X9_settles 77 [x0, .int a] st h = Run M_X9_settles 78 [x0, .int a] (.int a :: st) h := R_iload_n d_X9_settles_77 rfl
theorem d_X9_settles_78 : decode (mB M_X9_settles) 78 = .ok (.iaload, 1) := by decide +kernel
theorem r_X9_settles_78 {x0 x1 : Value} {a : Nat} {i : Int32} {st : List Value} {h : AH} : Run M_X9_settles 78 [x0, x1] (.int i :: .ref a :: st) h = if (gI 0 h a i).isSome = true then Run M_X9_settles 79 [x0, x1] (.int ((gI 0 h a i).getD 0) :: st) h else none := R_iaload d_X9_settles_78
theorem d_X9_settles_79 : decode (mB M_X9_settles) 79 = .ok (.iastore, 1) := by decide +kernel
theorem r_X9_settles_79 {x0 x1 : Value} {a : Nat} {i x : Int32} {st : List Value} {h : AH} : Run M_X9_settles 79 [x0, x1] (.int x :: .int i :: .ref a :: st) h = if (pI 0 h a i x).isSome = true then Run M_X9_settles 80 [x0, x1] st ((pI 0 h a i x).getD h) else none := R_iastore d_X9_settles_79
theorem d_X9_settles_80 : decode (mB M_X9_settles) 80 = .ok (.iinc 1 1, 3) := by decide +kernel
theorem r_X9_settles_80 {x0 : Value} {a : Int32} {st : List Value} {h : AH} (hc : x0.category = 1) : Run M_X9_settles 80 [x0, .int a] st h = Run M_X9_settles 83 [x0, .int (a + (nI 1))] st h := R_iinc d_X9_settles_80 (by decide) rfl (catP_of rfl hc)
theorem d_X9_settles_83 : decode (mB M_X9_settles) 83 = .ok (.goto (-57), 3) := by decide +kernel
theorem r_X9_settles_83 {x0 x1 : Value} {st : List Value} {h : AH} : Run M_X9_settles 83 [x0, x1] st h = Run M_X9_settles 26 [x0, x1] st h := R_goto d_X9_settles_83 (by decide)
theorem d_X9_settles_86 : decode (mB M_X9_settles) 86 = .ok (.iconst 0, 1) := by decide +kernel
theorem r_X9_settles_86 {x0 x1 : Value} {st : List Value} {h : AH} : Run M_X9_settles 86 [x0, x1] st h = Run M_X9_settles 87 [x0, x1] (.int (nI 0) :: st) h := R_iconst d_X9_settles_86 (by decide)
theorem d_X9_settles_87 : decode (mB M_X9_settles) 87 = .ok (.istore_n 1, 1) := by decide +kernel
theorem r_X9_settles_87 {x0 x1 : Value} {a : Int32} {st : List Value} {h : AH} (hc : x0.category = 1) : Run M_X9_settles 87 [x0, x1] (.int a :: st) h = Run M_X9_settles 88 [x0, .int a] st h := R_istore_n d_X9_settles_87 (Nat.lt_of_lt_of_le (by decide : 1 < 2) (Nat.le_refl 2)) (catP_of rfl hc)
theorem d_X9_settles_88 : decode (mB M_X9_settles) 88 = .ok (.iload_n 1, 1) := by decide +kernel
theorem r_X9_settles_88 {x0 : Value} {a : Int32} {st : List Value} {h : AH} : Run M_X9_settles 88 [x0, .int a] st h = Run M_X9_settles 89 [x0, .int a] (.int a :: st) h := R_iload_n d_X9_settles_88 rfl
theorem d_X9_settles_89 : decode (mB M_X9_settles) 89 = .ok (.bipush 28, 2) := by decide +kernel
theorem r_X9_settles_89 {x0 x1 : Value} {st : List Value} {h : AH} : Run M_X9_settles 89 [x0, x1] st h = Run M_X9_settles 91 [x0, x1] (.int (nI 28) :: st) h := R_bipush d_X9_settles_89 (by decide)
theorem d_X9_settles_91 : decode (mB M_X9_settles) 91 = .ok (.if_icmp .ge 21, 3) := by decide +kernel
theorem r_X9_settles_91 {x0 x1 : Value} {x y : Int32} {st : List Value} {h : AH} : Run M_X9_settles 91 [x0, x1] (.int y :: .int x :: st) h = if y ≤ x then Run M_X9_settles 112 [x0, x1] st h else Run M_X9_settles 94 [x0, x1] st h := R_icmp_ge d_X9_settles_91 (by decide)
theorem d_X9_settles_94 : decode (mB M_X9_settles) 94 = .ok (.aload_n 0, 1) := by decide +kernel
theorem r_X9_settles_94 {x1 : Value} {a : Nat} {st : List Value} {h : AH} : Run M_X9_settles 94 [.ref a, x1] st h = Run M_X9_settles 95 [.ref a, x1] (.ref a :: st) h := R_aload_n d_X9_settles_94 rfl
theorem d_X9_settles_95 : decode (mB M_X9_settles) 95 = .ok (.getfield 32, 3) := by decide +kernel
theorem r_X9_settles_95 {x0 x1 : Value} {a : Nat} {st : List Value} {h : AH} : Run M_X9_settles 95 [x0, x1] (.ref a :: st) h = if (gF h a 9 8).isSome = true then Run M_X9_settles 98 [x0, x1] ((gF h a 9 8).getD .null :: st) h else none := R_getfield d_X9_settles_95 rfl
theorem d_X9_settles_98 : decode (mB M_X9_settles) 98 = .ok (.iload_n 1, 1) := by decide +kernel
theorem r_X9_settles_98 {x0 : Value} {a : Int32} {st : List Value} {h : AH} : Run M_X9_settles 98 [x0, .int a] st h = Run M_X9_settles 99 [x0, .int a] (.int a :: st) h := R_iload_n d_X9_settles_98 rfl
theorem d_X9_settles_99 : decode (mB M_X9_settles) 99 = .ok (.aload_n 0, 1) := by decide +kernel
theorem r_X9_settles_99 {x1 : Value} {a : Nat} {st : List Value} {h : AH} : Run M_X9_settles 99 [.ref a, x1] st h = Run M_X9_settles 100 [.ref a, x1] (.ref a :: st) h := R_aload_n d_X9_settles_99 rfl
theorem d_X9_settles_100 : decode (mB M_X9_settles) 100 = .ok (.getfield 57, 3) := by decide +kernel
theorem r_X9_settles_100 {x0 x1 : Value} {a : Nat} {st : List Value} {h : AH} : Run M_X9_settles 100 [x0, x1] (.ref a :: st) h = if (gF h a 9 26).isSome = true then Run M_X9_settles 103 [x0, x1] ((gF h a 9 26).getD .null :: st) h else none := R_getfield d_X9_settles_100 rfl
theorem d_X9_settles_103 : decode (mB M_X9_settles) 103 = .ok (.iload_n 1, 1) := by decide +kernel
theorem r_X9_settles_103 {x0 : Value} {a : Int32} {st : List Value} {h : AH} : Run M_X9_settles 103 [x0, .int a] st h = Run M_X9_settles 104 [x0, .int a] (.int a :: st) h := R_iload_n d_X9_settles_103 rfl
theorem d_X9_settles_104 : decode (mB M_X9_settles) 104 = .ok (.iaload, 1) := by decide +kernel
theorem r_X9_settles_104 {x0 x1 : Value} {a : Nat} {i : Int32} {st : List Value} {h : AH} : Run M_X9_settles 104 [x0, x1] (.int i :: .ref a :: st) h = if (gI 0 h a i).isSome = true then Run M_X9_settles 105 [x0, x1] (.int ((gI 0 h a i).getD 0) :: st) h else none := R_iaload d_X9_settles_104
theorem d_X9_settles_105 : decode (mB M_X9_settles) 105 = .ok (.iastore, 1) := by decide +kernel
theorem r_X9_settles_105 {x0 x1 : Value} {a : Nat} {i x : Int32} {st : List Value} {h : AH} : Run M_X9_settles 105 [x0, x1] (.int x :: .int i :: .ref a :: st) h = if (pI 0 h a i x).isSome = true then Run M_X9_settles 106 [x0, x1] st ((pI 0 h a i x).getD h) else none := R_iastore d_X9_settles_105
theorem d_X9_settles_106 : decode (mB M_X9_settles) 106 = .ok (.iinc 1 1, 3) := by decide +kernel
theorem r_X9_settles_106 {x0 : Value} {a : Int32} {st : List Value} {h : AH} (hc : x0.category = 1) : Run M_X9_settles 106 [x0, .int a] st h = Run M_X9_settles 109 [x0, .int (a + (nI 1))] st h := R_iinc d_X9_settles_106 (by decide) rfl (catP_of rfl hc)
theorem d_X9_settles_109 : decode (mB M_X9_settles) 109 = .ok (.goto (-21), 3) := by decide +kernel
theorem r_X9_settles_109 {x0 x1 : Value} {st : List Value} {h : AH} : Run M_X9_settles 109 [x0, x1] st h = Run M_X9_settles 88 [x0, x1] st h := R_goto d_X9_settles_109 (by decide)
theorem d_X9_settles_112 : decode (mB M_X9_settles) 112 = .ok (.iconst 0, 1) := by decide +kernel
theorem r_X9_settles_112 {x0 x1 : Value} {st : List Value} {h : AH} : Run M_X9_settles 112 [x0, x1] st h = Run M_X9_settles 113 [x0, x1] (.int (nI 0) :: st) h := R_iconst d_X9_settles_112 (by decide)
theorem d_X9_settles_113 : decode (mB M_X9_settles) 113 = .ok (.istore_n 1, 1) := by decide +kernel
theorem r_X9_settles_113 {x0 x1 : Value} {a : Int32} {st : List Value} {h : AH} (hc : x0.category = 1) : Run M_X9_settles 113 [x0, x1] (.int a :: st) h = Run M_X9_settles 114 [x0, .int a] st h := R_istore_n d_X9_settles_113 (Nat.lt_of_lt_of_le (by decide : 1 < 2) (Nat.le_refl 2)) (catP_of rfl hc)
theorem d_X9_settles_114 : decode (mB M_X9_settles) 114 = .ok (.iload_n 1, 1) := by decide +kernel
theorem r_X9_settles_114 {x0 : Value} {a : Int32} {st : List Value} {h : AH} : Run M_X9_settles 114 [x0, .int a] st h = Run M_X9_settles 115 [x0, .int a] (.int a :: st) h := R_iload_n d_X9_settles_114 rfl
theorem d_X9_settles_115 : decode (mB M_X9_settles) 115 = .ok (.iconst 5, 1) := by decide +kernel
theorem r_X9_settles_115 {x0 x1 : Value} {st : List Value} {h : AH} : Run M_X9_settles 115 [x0, x1] st h = Run M_X9_settles 116 [x0, x1] (.int (nI 5) :: st) h := R_iconst d_X9_settles_115 (by decide)
theorem d_X9_settles_116 : decode (mB M_X9_settles) 116 = .ok (.if_icmp .ge 21, 3) := by decide +kernel
theorem r_X9_settles_116 {x0 x1 : Value} {x y : Int32} {st : List Value} {h : AH} : Run M_X9_settles 116 [x0, x1] (.int y :: .int x :: st) h = if y ≤ x then Run M_X9_settles 137 [x0, x1] st h else Run M_X9_settles 119 [x0, x1] st h := R_icmp_ge d_X9_settles_116 (by decide)
theorem d_X9_settles_119 : decode (mB M_X9_settles) 119 = .ok (.aload_n 0, 1) := by decide +kernel
theorem r_X9_settles_119 {x1 : Value} {a : Nat} {st : List Value} {h : AH} : Run M_X9_settles 119 [.ref a, x1] st h = Run M_X9_settles 120 [.ref a, x1] (.ref a :: st) h := R_aload_n d_X9_settles_119 rfl
theorem d_X9_settles_120 : decode (mB M_X9_settles) 120 = .ok (.getfield 7, 3) := by decide +kernel
theorem r_X9_settles_120 {x0 x1 : Value} {a : Nat} {st : List Value} {h : AH} : Run M_X9_settles 120 [x0, x1] (.ref a :: st) h = if (gF h a 9 0).isSome = true then Run M_X9_settles 123 [x0, x1] ((gF h a 9 0).getD .null :: st) h else none := R_getfield d_X9_settles_120 rfl
theorem d_X9_settles_123 : decode (mB M_X9_settles) 123 = .ok (.iload_n 1, 1) := by decide +kernel
theorem r_X9_settles_123 {x0 : Value} {a : Int32} {st : List Value} {h : AH} : Run M_X9_settles 123 [x0, .int a] st h = Run M_X9_settles 124 [x0, .int a] (.int a :: st) h := R_iload_n d_X9_settles_123 rfl
theorem d_X9_settles_124 : decode (mB M_X9_settles) 124 = .ok (.aload_n 0, 1) := by decide +kernel
theorem r_X9_settles_124 {x1 : Value} {a : Nat} {st : List Value} {h : AH} : Run M_X9_settles 124 [.ref a, x1] st h = Run M_X9_settles 125 [.ref a, x1] (.ref a :: st) h := R_aload_n d_X9_settles_124 rfl
theorem d_X9_settles_125 : decode (mB M_X9_settles) 125 = .ok (.getfield 66, 3) := by decide +kernel
theorem r_X9_settles_125 {x0 x1 : Value} {a : Nat} {st : List Value} {h : AH} : Run M_X9_settles 125 [x0, x1] (.ref a :: st) h = if (gF h a 9 31).isSome = true then Run M_X9_settles 128 [x0, x1] ((gF h a 9 31).getD .null :: st) h else none := R_getfield d_X9_settles_125 rfl
theorem d_X9_settles_128 : decode (mB M_X9_settles) 128 = .ok (.iload_n 1, 1) := by decide +kernel
theorem r_X9_settles_128 {x0 : Value} {a : Int32} {st : List Value} {h : AH} : Run M_X9_settles 128 [x0, .int a] st h = Run M_X9_settles 129 [x0, .int a] (.int a :: st) h := R_iload_n d_X9_settles_128 rfl
theorem d_X9_settles_129 : decode (mB M_X9_settles) 129 = .ok (.iaload, 1) := by decide +kernel
theorem r_X9_settles_129 {x0 x1 : Value} {a : Nat} {i : Int32} {st : List Value} {h : AH} : Run M_X9_settles 129 [x0, x1] (.int i :: .ref a :: st) h = if (gI 0 h a i).isSome = true then Run M_X9_settles 130 [x0, x1] (.int ((gI 0 h a i).getD 0) :: st) h else none := R_iaload d_X9_settles_129
theorem d_X9_settles_130 : decode (mB M_X9_settles) 130 = .ok (.iastore, 1) := by decide +kernel
theorem r_X9_settles_130 {x0 x1 : Value} {a : Nat} {i x : Int32} {st : List Value} {h : AH} : Run M_X9_settles 130 [x0, x1] (.int x :: .int i :: .ref a :: st) h = if (pI 0 h a i x).isSome = true then Run M_X9_settles 131 [x0, x1] st ((pI 0 h a i x).getD h) else none := R_iastore d_X9_settles_130
theorem d_X9_settles_131 : decode (mB M_X9_settles) 131 = .ok (.iinc 1 1, 3) := by decide +kernel
theorem r_X9_settles_131 {x0 : Value} {a : Int32} {st : List Value} {h : AH} (hc : x0.category = 1) : Run M_X9_settles 131 [x0, .int a] st h = Run M_X9_settles 134 [x0, .int (a + (nI 1))] st h := R_iinc d_X9_settles_131 (by decide) rfl (catP_of rfl hc)
theorem d_X9_settles_134 : decode (mB M_X9_settles) 134 = .ok (.goto (-20), 3) := by decide +kernel
theorem r_X9_settles_134 {x0 x1 : Value} {st : List Value} {h : AH} : Run M_X9_settles 134 [x0, x1] st h = Run M_X9_settles 114 [x0, x1] st h := R_goto d_X9_settles_134 (by decide)
theorem d_X9_settles_137 : decode (mB M_X9_settles) 137 = .ok (.iconst 0, 1) := by decide +kernel
theorem r_X9_settles_137 {x0 x1 : Value} {st : List Value} {h : AH} : Run M_X9_settles 137 [x0, x1] st h = Run M_X9_settles 138 [x0, x1] (.int (nI 0) :: st) h := R_iconst d_X9_settles_137 (by decide)
theorem d_X9_settles_138 : decode (mB M_X9_settles) 138 = .ok (.istore_n 1, 1) := by decide +kernel
theorem r_X9_settles_138 {x0 x1 : Value} {a : Int32} {st : List Value} {h : AH} (hc : x0.category = 1) : Run M_X9_settles 138 [x0, x1] (.int a :: st) h = Run M_X9_settles 139 [x0, .int a] st h := R_istore_n d_X9_settles_138 (Nat.lt_of_lt_of_le (by decide : 1 < 2) (Nat.le_refl 2)) (catP_of rfl hc)
theorem d_X9_settles_139 : decode (mB M_X9_settles) 139 = .ok (.iload_n 1, 1) := by decide +kernel
theorem r_X9_settles_139 {x0 : Value} {a : Int32} {st : List Value} {h : AH} : Run M_X9_settles 139 [x0, .int a] st h = Run M_X9_settles 140 [x0, .int a] (.int a :: st) h := R_iload_n d_X9_settles_139 rfl
theorem d_X9_settles_140 : decode (mB M_X9_settles) 140 = .ok (.bipush 10, 2) := by decide +kernel
theorem r_X9_settles_140 {x0 x1 : Value} {st : List Value} {h : AH} : Run M_X9_settles 140 [x0, x1] st h = Run M_X9_settles 142 [x0, x1] (.int (nI 10) :: st) h := R_bipush d_X9_settles_140 (by decide)
theorem d_X9_settles_142 : decode (mB M_X9_settles) 142 = .ok (.if_icmp .ge 35, 3) := by decide +kernel
theorem r_X9_settles_142 {x0 x1 : Value} {x y : Int32} {st : List Value} {h : AH} : Run M_X9_settles 142 [x0, x1] (.int y :: .int x :: st) h = if y ≤ x then Run M_X9_settles 177 [x0, x1] st h else Run M_X9_settles 145 [x0, x1] st h := R_icmp_ge d_X9_settles_142 (by decide)
theorem d_X9_settles_145 : decode (mB M_X9_settles) 145 = .ok (.aload_n 0, 1) := by decide +kernel
theorem r_X9_settles_145 {x1 : Value} {a : Nat} {st : List Value} {h : AH} : Run M_X9_settles 145 [.ref a, x1] st h = Run M_X9_settles 146 [.ref a, x1] (.ref a :: st) h := R_aload_n d_X9_settles_145 rfl
theorem d_X9_settles_146 : decode (mB M_X9_settles) 146 = .ok (.getfield 7, 3) := by decide +kernel
theorem r_X9_settles_146 {x0 x1 : Value} {a : Nat} {st : List Value} {h : AH} : Run M_X9_settles 146 [x0, x1] (.ref a :: st) h = if (gF h a 9 0).isSome = true then Run M_X9_settles 149 [x0, x1] ((gF h a 9 0).getD .null :: st) h else none := R_getfield d_X9_settles_146 rfl
theorem d_X9_settles_149 : decode (mB M_X9_settles) 149 = .ok (.iconst 5, 1) := by decide +kernel
theorem r_X9_settles_149 {x0 x1 : Value} {st : List Value} {h : AH} : Run M_X9_settles 149 [x0, x1] st h = Run M_X9_settles 150 [x0, x1] (.int (nI 5) :: st) h := R_iconst d_X9_settles_149 (by decide)
theorem d_X9_settles_150 : decode (mB M_X9_settles) 150 = .ok (.iload_n 1, 1) := by decide +kernel
theorem r_X9_settles_150 {x0 : Value} {a : Int32} {st : List Value} {h : AH} : Run M_X9_settles 150 [x0, .int a] st h = Run M_X9_settles 151 [x0, .int a] (.int a :: st) h := R_iload_n d_X9_settles_150 rfl
theorem d_X9_settles_151 : decode (mB M_X9_settles) 151 = .ok (.iadd, 1) := by decide +kernel
theorem r_X9_settles_151 {x0 x1 : Value} {x y : Int32} {st : List Value} {h : AH} : Run M_X9_settles 151 [x0, x1] (.int y :: .int x :: st) h = Run M_X9_settles 152 [x0, x1] (.int (x + y) :: st) h := R_iadd d_X9_settles_151
theorem d_X9_settles_152 : decode (mB M_X9_settles) 152 = .ok (.aload_n 0, 1) := by decide +kernel
theorem r_X9_settles_152 {x1 : Value} {a : Nat} {st : List Value} {h : AH} : Run M_X9_settles 152 [.ref a, x1] st h = Run M_X9_settles 153 [.ref a, x1] (.ref a :: st) h := R_aload_n d_X9_settles_152 rfl
theorem d_X9_settles_153 : decode (mB M_X9_settles) 153 = .ok (.getfield 60, 3) := by decide +kernel
theorem r_X9_settles_153 {x0 x1 : Value} {a : Nat} {st : List Value} {h : AH} : Run M_X9_settles 153 [x0, x1] (.ref a :: st) h = if (gF h a 9 28).isSome = true then Run M_X9_settles 156 [x0, x1] ((gF h a 9 28).getD .null :: st) h else none := R_getfield d_X9_settles_153 rfl
theorem d_X9_settles_156 : decode (mB M_X9_settles) 156 = .ok (.iload_n 1, 1) := by decide +kernel
theorem r_X9_settles_156 {x0 : Value} {a : Int32} {st : List Value} {h : AH} : Run M_X9_settles 156 [x0, .int a] st h = Run M_X9_settles 157 [x0, .int a] (.int a :: st) h := R_iload_n d_X9_settles_156 rfl
theorem d_X9_settles_157 : decode (mB M_X9_settles) 157 = .ok (.iaload, 1) := by decide +kernel
theorem r_X9_settles_157 {x0 x1 : Value} {a : Nat} {i : Int32} {st : List Value} {h : AH} : Run M_X9_settles 157 [x0, x1] (.int i :: .ref a :: st) h = if (gI 0 h a i).isSome = true then Run M_X9_settles 158 [x0, x1] (.int ((gI 0 h a i).getD 0) :: st) h else none := R_iaload d_X9_settles_157
theorem d_X9_settles_158 : decode (mB M_X9_settles) 158 = .ok (.iastore, 1) := by decide +kernel
theorem r_X9_settles_158 {x0 x1 : Value} {a : Nat} {i x : Int32} {st : List Value} {h : AH} : Run M_X9_settles 158 [x0, x1] (.int x :: .int i :: .ref a :: st) h = if (pI 0 h a i x).isSome = true then Run M_X9_settles 159 [x0, x1] st ((pI 0 h a i x).getD h) else none := R_iastore d_X9_settles_158
theorem d_X9_settles_159 : decode (mB M_X9_settles) 159 = .ok (.aload_n 0, 1) := by decide +kernel
theorem r_X9_settles_159 {x1 : Value} {a : Nat} {st : List Value} {h : AH} : Run M_X9_settles 159 [.ref a, x1] st h = Run M_X9_settles 160 [.ref a, x1] (.ref a :: st) h := R_aload_n d_X9_settles_159 rfl
theorem d_X9_settles_160 : decode (mB M_X9_settles) 160 = .ok (.getfield 35, 3) := by decide +kernel
theorem r_X9_settles_160 {x0 x1 : Value} {a : Nat} {st : List Value} {h : AH} : Run M_X9_settles 160 [x0, x1] (.ref a :: st) h = if (gF h a 9 11).isSome = true then Run M_X9_settles 163 [x0, x1] ((gF h a 9 11).getD .null :: st) h else none := R_getfield d_X9_settles_160 rfl
theorem d_X9_settles_163 : decode (mB M_X9_settles) 163 = .ok (.iload_n 1, 1) := by decide +kernel
theorem r_X9_settles_163 {x0 : Value} {a : Int32} {st : List Value} {h : AH} : Run M_X9_settles 163 [x0, .int a] st h = Run M_X9_settles 164 [x0, .int a] (.int a :: st) h := R_iload_n d_X9_settles_163 rfl
theorem d_X9_settles_164 : decode (mB M_X9_settles) 164 = .ok (.aload_n 0, 1) := by decide +kernel
theorem r_X9_settles_164 {x1 : Value} {a : Nat} {st : List Value} {h : AH} : Run M_X9_settles 164 [.ref a, x1] st h = Run M_X9_settles 165 [.ref a, x1] (.ref a :: st) h := R_aload_n d_X9_settles_164 rfl
theorem d_X9_settles_165 : decode (mB M_X9_settles) 165 = .ok (.getfield 63, 3) := by decide +kernel
theorem r_X9_settles_165 {x0 x1 : Value} {a : Nat} {st : List Value} {h : AH} : Run M_X9_settles 165 [x0, x1] (.ref a :: st) h = if (gF h a 9 30).isSome = true then Run M_X9_settles 168 [x0, x1] ((gF h a 9 30).getD .null :: st) h else none := R_getfield d_X9_settles_165 rfl
theorem d_X9_settles_168 : decode (mB M_X9_settles) 168 = .ok (.iload_n 1, 1) := by decide +kernel
theorem r_X9_settles_168 {x0 : Value} {a : Int32} {st : List Value} {h : AH} : Run M_X9_settles 168 [x0, .int a] st h = Run M_X9_settles 169 [x0, .int a] (.int a :: st) h := R_iload_n d_X9_settles_168 rfl
theorem d_X9_settles_169 : decode (mB M_X9_settles) 169 = .ok (.iaload, 1) := by decide +kernel
theorem r_X9_settles_169 {x0 x1 : Value} {a : Nat} {i : Int32} {st : List Value} {h : AH} : Run M_X9_settles 169 [x0, x1] (.int i :: .ref a :: st) h = if (gI 0 h a i).isSome = true then Run M_X9_settles 170 [x0, x1] (.int ((gI 0 h a i).getD 0) :: st) h else none := R_iaload d_X9_settles_169
theorem d_X9_settles_170 : decode (mB M_X9_settles) 170 = .ok (.iastore, 1) := by decide +kernel
theorem r_X9_settles_170 {x0 x1 : Value} {a : Nat} {i x : Int32} {st : List Value} {h : AH} : Run M_X9_settles 170 [x0, x1] (.int x :: .int i :: .ref a :: st) h = if (pI 0 h a i x).isSome = true then Run M_X9_settles 171 [x0, x1] st ((pI 0 h a i x).getD h) else none := R_iastore d_X9_settles_170
theorem d_X9_settles_171 : decode (mB M_X9_settles) 171 = .ok (.iinc 1 1, 3) := by decide +kernel
theorem r_X9_settles_171 {x0 : Value} {a : Int32} {st : List Value} {h : AH} (hc : x0.category = 1) : Run M_X9_settles 171 [x0, .int a] st h = Run M_X9_settles 174 [x0, .int (a + (nI 1))] st h := R_iinc d_X9_settles_171 (by decide) rfl (catP_of rfl hc)
theorem d_X9_settles_174 : decode (mB M_X9_settles) 174 = .ok (.goto (-35), 3) := by decide +kernel
theorem r_X9_settles_174 {x0 x1 : Value} {st : List Value} {h : AH} : Run M_X9_settles 174 [x0, x1] st h = Run M_X9_settles 139 [x0, x1] st h := R_goto d_X9_settles_174 (by decide)
theorem d_X9_settles_177 : decode (mB M_X9_settles) 177 = .ok (.aload_n 0, 1) := by decide +kernel
theorem r_X9_settles_177 {x1 : Value} {a : Nat} {st : List Value} {h : AH} : Run M_X9_settles 177 [.ref a, x1] st h = Run M_X9_settles 178 [.ref a, x1] (.ref a :: st) h := R_aload_n d_X9_settles_177 rfl
theorem d_X9_settles_178 : decode (mB M_X9_settles) 178 = .ok (.getfield 7, 3) := by decide +kernel
theorem r_X9_settles_178 {x0 x1 : Value} {a : Nat} {st : List Value} {h : AH} : Run M_X9_settles 178 [x0, x1] (.ref a :: st) h = if (gF h a 9 0).isSome = true then Run M_X9_settles 181 [x0, x1] ((gF h a 9 0).getD .null :: st) h else none := R_getfield d_X9_settles_178 rfl
theorem d_X9_settles_181 : decode (mB M_X9_settles) 181 = .ok (.bipush 15, 2) := by decide +kernel
theorem r_X9_settles_181 {x0 x1 : Value} {st : List Value} {h : AH} : Run M_X9_settles 181 [x0, x1] st h = Run M_X9_settles 183 [x0, x1] (.int (nI 15) :: st) h := R_bipush d_X9_settles_181 (by decide)
theorem d_X9_settles_183 : decode (mB M_X9_settles) 183 = .ok (.iconst 0, 1) := by decide +kernel
theorem r_X9_settles_183 {x0 x1 : Value} {st : List Value} {h : AH} : Run M_X9_settles 183 [x0, x1] st h = Run M_X9_settles 184 [x0, x1] (.int (nI 0) :: st) h := R_iconst d_X9_settles_183 (by decide)
theorem d_X9_settles_184 : decode (mB M_X9_settles) 184 = .ok (.iastore, 1) := by decide +kernel
theorem r_X9_settles_184 {x0 x1 : Value} {a : Nat} {i x : Int32} {st : List Value} {h : AH} : Run M_X9_settles 184 [x0, x1] (.int x :: .int i :: .ref a :: st) h = if (pI 0 h a i x).isSome = true then Run M_X9_settles 185 [x0, x1] st ((pI 0 h a i x).getD h) else none := R_iastore d_X9_settles_184
theorem d_X9_settles_185 : decode (mB M_X9_settles) 185 = .ok (.aload_n 0, 1) := by decide +kernel
theorem r_X9_settles_185 {x1 : Value} {a : Nat} {st : List Value} {h : AH} : Run M_X9_settles 185 [.ref a, x1] st h = Run M_X9_settles 186 [.ref a, x1] (.ref a :: st) h := R_aload_n d_X9_settles_185 rfl
theorem d_X9_settles_186 : decode (mB M_X9_settles) 186 = .ok (.getfield 7, 3) := by decide +kernel
theorem r_X9_settles_186 {x0 x1 : Value} {a : Nat} {st : List Value} {h : AH} : Run M_X9_settles 186 [x0, x1] (.ref a :: st) h = if (gF h a 9 0).isSome = true then Run M_X9_settles 189 [x0, x1] ((gF h a 9 0).getD .null :: st) h else none := R_getfield d_X9_settles_186 rfl
theorem d_X9_settles_189 : decode (mB M_X9_settles) 189 = .ok (.bipush 16, 2) := by decide +kernel
theorem r_X9_settles_189 {x0 x1 : Value} {st : List Value} {h : AH} : Run M_X9_settles 189 [x0, x1] st h = Run M_X9_settles 191 [x0, x1] (.int (nI 16) :: st) h := R_bipush d_X9_settles_189 (by decide)
theorem d_X9_settles_191 : decode (mB M_X9_settles) 191 = .ok (.iconst 0, 1) := by decide +kernel
theorem r_X9_settles_191 {x0 x1 : Value} {st : List Value} {h : AH} : Run M_X9_settles 191 [x0, x1] st h = Run M_X9_settles 192 [x0, x1] (.int (nI 0) :: st) h := R_iconst d_X9_settles_191 (by decide)
theorem d_X9_settles_192 : decode (mB M_X9_settles) 192 = .ok (.iastore, 1) := by decide +kernel
theorem r_X9_settles_192 {x0 x1 : Value} {a : Nat} {i x : Int32} {st : List Value} {h : AH} : Run M_X9_settles 192 [x0, x1] (.int x :: .int i :: .ref a :: st) h = if (pI 0 h a i x).isSome = true then Run M_X9_settles 193 [x0, x1] st ((pI 0 h a i x).getD h) else none := R_iastore d_X9_settles_192
theorem d_X9_settles_193 : decode (mB M_X9_settles) 193 = .ok (.aload_n 0, 1) := by decide +kernel
theorem r_X9_settles_193 {x1 : Value} {a : Nat} {st : List Value} {h : AH} : Run M_X9_settles 193 [.ref a, x1] st h = Run M_X9_settles 194 [.ref a, x1] (.ref a :: st) h := R_aload_n d_X9_settles_193 rfl
theorem d_X9_settles_194 : decode (mB M_X9_settles) 194 = .ok (.getfield 7, 3) := by decide +kernel
theorem r_X9_settles_194 {x0 x1 : Value} {a : Nat} {st : List Value} {h : AH} : Run M_X9_settles 194 [x0, x1] (.ref a :: st) h = if (gF h a 9 0).isSome = true then Run M_X9_settles 197 [x0, x1] ((gF h a 9 0).getD .null :: st) h else none := R_getfield d_X9_settles_194 rfl
theorem d_X9_settles_197 : decode (mB M_X9_settles) 197 = .ok (.bipush 17, 2) := by decide +kernel
theorem r_X9_settles_197 {x0 x1 : Value} {st : List Value} {h : AH} : Run M_X9_settles 197 [x0, x1] st h = Run M_X9_settles 199 [x0, x1] (.int (nI 17) :: st) h := R_bipush d_X9_settles_197 (by decide)
theorem d_X9_settles_199 : decode (mB M_X9_settles) 199 = .ok (.iconst 0, 1) := by decide +kernel
theorem r_X9_settles_199 {x0 x1 : Value} {st : List Value} {h : AH} : Run M_X9_settles 199 [x0, x1] st h = Run M_X9_settles 200 [x0, x1] (.int (nI 0) :: st) h := R_iconst d_X9_settles_199 (by decide)
theorem d_X9_settles_200 : decode (mB M_X9_settles) 200 = .ok (.iastore, 1) := by decide +kernel
theorem r_X9_settles_200 {x0 x1 : Value} {a : Nat} {i x : Int32} {st : List Value} {h : AH} : Run M_X9_settles 200 [x0, x1] (.int x :: .int i :: .ref a :: st) h = if (pI 0 h a i x).isSome = true then Run M_X9_settles 201 [x0, x1] st ((pI 0 h a i x).getD h) else none := R_iastore d_X9_settles_200
theorem d_X9_settles_201 : decode (mB M_X9_settles) 201 = .ok (.aload_n 0, 1) := by decide +kernel
theorem r_X9_settles_201 {x1 : Value} {a : Nat} {st : List Value} {h : AH} : Run M_X9_settles 201 [.ref a, x1] st h = Run M_X9_settles 202 [.ref a, x1] (.ref a :: st) h := R_aload_n d_X9_settles_201 rfl
theorem d_X9_settles_202 : decode (mB M_X9_settles) 202 = .ok (.iconst 0, 1) := by decide +kernel
theorem r_X9_settles_202 {x0 x1 : Value} {st : List Value} {h : AH} : Run M_X9_settles 202 [x0, x1] st h = Run M_X9_settles 203 [x0, x1] (.int (nI 0) :: st) h := R_iconst d_X9_settles_202 (by decide)
theorem d_X9_settles_203 : decode (mB M_X9_settles) 203 = .ok (.putfield 185, 3) := by decide +kernel
theorem r_X9_settles_203 {x0 x1 : Value} {v : Int32} {a : Nat} {st : List Value} {h : AH} : Run M_X9_settles 203 [x0, x1] (.int v :: .ref a :: st) h = if (pF h a 9 36 (.int v)).isSome = true then Run M_X9_settles 206 [x0, x1] st ((pF h a 9 36 (.int v)).getD h) else none := R_putfield d_X9_settles_203 rfl (okP_int rfl rfl)
theorem d_X9_settles_206 : decode (mB M_X9_settles) 206 = .ok (.aload_n 0, 1) := by decide +kernel
theorem r_X9_settles_206 {x1 : Value} {a : Nat} {st : List Value} {h : AH} : Run M_X9_settles 206 [.ref a, x1] st h = Run M_X9_settles 207 [.ref a, x1] (.ref a :: st) h := R_aload_n d_X9_settles_206 rfl
theorem d_X9_settles_207 : decode (mB M_X9_settles) 207 = .ok (.iconst 0, 1) := by decide +kernel
theorem r_X9_settles_207 {x0 x1 : Value} {st : List Value} {h : AH} : Run M_X9_settles 207 [x0, x1] st h = Run M_X9_settles 208 [x0, x1] (.int (nI 0) :: st) h := R_iconst d_X9_settles_207 (by decide)
theorem d_X9_settles_208 : decode (mB M_X9_settles) 208 = .ok (.putfield 188, 3) := by decide +kernel
theorem r_X9_settles_208 {x0 x1 : Value} {v : Int32} {a : Nat} {st : List Value} {h : AH} : Run M_X9_settles 208 [x0, x1] (.int v :: .ref a :: st) h = if (pF h a 9 38 (.int v)).isSome = true then Run M_X9_settles 211 [x0, x1] st ((pF h a 9 38 (.int v)).getD h) else none := R_putfield d_X9_settles_208 rfl (okP_int rfl rfl)
theorem d_X9_settles_211 : decode (mB M_X9_settles) 211 = .ok (.aload_n 0, 1) := by decide +kernel
theorem r_X9_settles_211 {x1 : Value} {a : Nat} {st : List Value} {h : AH} : Run M_X9_settles 211 [.ref a, x1] st h = Run M_X9_settles 212 [.ref a, x1] (.ref a :: st) h := R_aload_n d_X9_settles_211 rfl
theorem d_X9_settles_212 : decode (mB M_X9_settles) 212 = .ok (.getfield 16, 3) := by decide +kernel
theorem r_X9_settles_212 {x0 x1 : Value} {a : Nat} {st : List Value} {h : AH} : Run M_X9_settles 212 [x0, x1] (.ref a :: st) h = if (gF h a 9 2).isSome = true then Run M_X9_settles 215 [x0, x1] ((gF h a 9 2).getD .null :: st) h else none := R_getfield d_X9_settles_212 rfl
theorem d_X9_settles_215 : decode (mB M_X9_settles) 215 = .ok (.iconst 0, 1) := by decide +kernel
theorem r_X9_settles_215 {x0 x1 : Value} {st : List Value} {h : AH} : Run M_X9_settles 215 [x0, x1] st h = Run M_X9_settles 216 [x0, x1] (.int (nI 0) :: st) h := R_iconst d_X9_settles_215 (by decide)
theorem d_X9_settles_216 : decode (mB M_X9_settles) 216 = .ok (.iconst 0, 1) := by decide +kernel
theorem r_X9_settles_216 {x0 x1 : Value} {st : List Value} {h : AH} : Run M_X9_settles 216 [x0, x1] st h = Run M_X9_settles 217 [x0, x1] (.int (nI 0) :: st) h := R_iconst d_X9_settles_216 (by decide)
theorem d_X9_settles_217 : decode (mB M_X9_settles) 217 = .ok (.bastore, 1) := by decide +kernel
theorem r_X9_settles_217 {x0 x1 : Value} {a : Nat} {i x : Int32} {st : List Value} {h : AH} : Run M_X9_settles 217 [x0, x1] (.int x :: .int i :: .ref a :: st) h = if (pI 2 h a i (x &&& 1)).isSome = true then Run M_X9_settles 218 [x0, x1] st ((pI 2 h a i (x &&& 1)).getD h) else none := R_bastore d_X9_settles_217
theorem d_X9_settles_218 : decode (mB M_X9_settles) 218 = .ok (.aload_n 0, 1) := by decide +kernel
theorem r_X9_settles_218 {x1 : Value} {a : Nat} {st : List Value} {h : AH} : Run M_X9_settles 218 [.ref a, x1] st h = Run M_X9_settles 219 [.ref a, x1] (.ref a :: st) h := R_aload_n d_X9_settles_218 rfl
theorem d_X9_settles_219 : decode (mB M_X9_settles) 219 = .ok (.getfield 16, 3) := by decide +kernel
theorem r_X9_settles_219 {x0 x1 : Value} {a : Nat} {st : List Value} {h : AH} : Run M_X9_settles 219 [x0, x1] (.ref a :: st) h = if (gF h a 9 2).isSome = true then Run M_X9_settles 222 [x0, x1] ((gF h a 9 2).getD .null :: st) h else none := R_getfield d_X9_settles_219 rfl
theorem d_X9_settles_222 : decode (mB M_X9_settles) 222 = .ok (.iconst 1, 1) := by decide +kernel
theorem r_X9_settles_222 {x0 x1 : Value} {st : List Value} {h : AH} : Run M_X9_settles 222 [x0, x1] st h = Run M_X9_settles 223 [x0, x1] (.int (nI 1) :: st) h := R_iconst d_X9_settles_222 (by decide)
theorem d_X9_settles_223 : decode (mB M_X9_settles) 223 = .ok (.iconst 0, 1) := by decide +kernel
theorem r_X9_settles_223 {x0 x1 : Value} {st : List Value} {h : AH} : Run M_X9_settles 223 [x0, x1] st h = Run M_X9_settles 224 [x0, x1] (.int (nI 0) :: st) h := R_iconst d_X9_settles_223 (by decide)
theorem d_X9_settles_224 : decode (mB M_X9_settles) 224 = .ok (.bastore, 1) := by decide +kernel
theorem r_X9_settles_224 {x0 x1 : Value} {a : Nat} {i x : Int32} {st : List Value} {h : AH} : Run M_X9_settles 224 [x0, x1] (.int x :: .int i :: .ref a :: st) h = if (pI 2 h a i (x &&& 1)).isSome = true then Run M_X9_settles 225 [x0, x1] st ((pI 2 h a i (x &&& 1)).getD h) else none := R_bastore d_X9_settles_224
theorem d_X9_settles_225 : decode (mB M_X9_settles) 225 = .ok (.return_, 1) := by decide +kernel
theorem r_X9_settles_225 {x0 x1 : Value} {h : AH} : Run M_X9_settles 225 [x0, x1] [] h = some (h, none) := R_return d_X9_settles_225 rfl
theorem d_X9_fault_0 : decode (mB M_X9_fault) 0 = .ok (.aload_n 0, 1) := by decide +kernel
theorem r_X9_fault_0 {a : Nat} {st : List Value} {h : AH} : Run M_X9_fault 0 [.ref a] st h = Run M_X9_fault 1 [.ref a] (.ref a :: st) h := R_aload_n d_X9_fault_0 rfl
theorem d_X9_fault_1 : decode (mB M_X9_fault) 1 = .ok (.getfield 41, 3) := by decide +kernel
theorem r_X9_fault_1 {x0 : Value} {a : Nat} {st : List Value} {h : AH} : Run M_X9_fault 1 [x0] (.ref a :: st) h = if (gF h a 9 20).isSome = true then Run M_X9_fault 4 [x0] ((gF h a 9 20).getD .null :: st) h else none := R_getfield d_X9_fault_1 rfl
theorem d_X9_fault_4 : decode (mB M_X9_fault) 4 = .ok (.ireturn, 1) := by decide +kernel
theorem r_X9_fault_4 {x0 : Value} {v : Int32} {h : AH} : Run M_X9_fault 4 [x0] [.int v] h = some (h, some (.int v)) := R_ireturn d_X9_fault_4 rfl rfl
theorem d_X9_told_0 : decode (mB M_X9_told) 0 = .ok (.iload_n 1, 1) := by decide +kernel
theorem r_X9_told_0 {x0 : Value} {a : Int32} {st : List Value} {h : AH} : Run M_X9_told 0 [x0, .int a] st h = Run M_X9_told 1 [x0, .int a] (.int a :: st) h := R_iload_n d_X9_told_0 rfl
theorem d_X9_told_1 : decode (mB M_X9_told) 1 = .ok (.tableswitch 160 0 13 #[71, 76, 81, 86, 91, 98, 105, 112, 119, 126, 134, 142, 150, 155], 71) := by decide +kernel
theorem r_X9_told_1 {x0 x1 : Value} {x : Int32} {st : List Value} {h : AH} : Run M_X9_told 1 [x0, x1] (.int x :: st) h = if x = (nI 0) then Run M_X9_told 72 [x0, x1] st h else if x = (nI 1) then Run M_X9_told 77 [x0, x1] st h else if x = (nI 2) then Run M_X9_told 82 [x0, x1] st h else if x = (nI 3) then Run M_X9_told 87 [x0, x1] st h else if x = (nI 4) then Run M_X9_told 92 [x0, x1] st h else if x = (nI 5) then Run M_X9_told 99 [x0, x1] st h else if x = (nI 6) then Run M_X9_told 106 [x0, x1] st h else if x = (nI 7) then Run M_X9_told 113 [x0, x1] st h else if x = (nI 8) then Run M_X9_told 120 [x0, x1] st h else if x = (nI 9) then Run M_X9_told 127 [x0, x1] st h else if x = (nI 10) then Run M_X9_told 135 [x0, x1] st h else if x = (nI 11) then Run M_X9_told 143 [x0, x1] st h else if x = (nI 12) then Run M_X9_told 151 [x0, x1] st h else if x = (nI 13) then Run M_X9_told 156 [x0, x1] st h else Run M_X9_told 161 [x0, x1] st h := by
  by_cases h0 : x = (nI 0)
  · subst h0; rw [if_pos rfl]; exact R_tabIn (off := 71) d_X9_told_1 (by decide) (by decide) (by decide) (by decide)
  rw [if_neg h0]
  by_cases h1 : x = (nI 1)
  · subst h1; rw [if_pos rfl]; exact R_tabIn (off := 76) d_X9_told_1 (by decide) (by decide) (by decide) (by decide)
  rw [if_neg h1]
  by_cases h2 : x = (nI 2)
  · subst h2; rw [if_pos rfl]; exact R_tabIn (off := 81) d_X9_told_1 (by decide) (by decide) (by decide) (by decide)
  rw [if_neg h2]
  by_cases h3 : x = (nI 3)
  · subst h3; rw [if_pos rfl]; exact R_tabIn (off := 86) d_X9_told_1 (by decide) (by decide) (by decide) (by decide)
  rw [if_neg h3]
  by_cases h4 : x = (nI 4)
  · subst h4; rw [if_pos rfl]; exact R_tabIn (off := 91) d_X9_told_1 (by decide) (by decide) (by decide) (by decide)
  rw [if_neg h4]
  by_cases h5 : x = (nI 5)
  · subst h5; rw [if_pos rfl]; exact R_tabIn (off := 98) d_X9_told_1 (by decide) (by decide) (by decide) (by decide)
  rw [if_neg h5]
  by_cases h6 : x = (nI 6)
  · subst h6; rw [if_pos rfl]; exact R_tabIn (off := 105) d_X9_told_1 (by decide) (by decide) (by decide) (by decide)
  rw [if_neg h6]
  by_cases h7 : x = (nI 7)
  · subst h7; rw [if_pos rfl]; exact R_tabIn (off := 112) d_X9_told_1 (by decide) (by decide) (by decide) (by decide)
  rw [if_neg h7]
  by_cases h8 : x = (nI 8)
  · subst h8; rw [if_pos rfl]; exact R_tabIn (off := 119) d_X9_told_1 (by decide) (by decide) (by decide) (by decide)
  rw [if_neg h8]
  by_cases h9 : x = (nI 9)
  · subst h9; rw [if_pos rfl]; exact R_tabIn (off := 126) d_X9_told_1 (by decide) (by decide) (by decide) (by decide)
  rw [if_neg h9]
  by_cases h10 : x = (nI 10)
  · subst h10; rw [if_pos rfl]; exact R_tabIn (off := 134) d_X9_told_1 (by decide) (by decide) (by decide) (by decide)
  rw [if_neg h10]
  by_cases h11 : x = (nI 11)
  · subst h11; rw [if_pos rfl]; exact R_tabIn (off := 142) d_X9_told_1 (by decide) (by decide) (by decide) (by decide)
  rw [if_neg h11]
  by_cases h12 : x = (nI 12)
  · subst h12; rw [if_pos rfl]; exact R_tabIn (off := 150) d_X9_told_1 (by decide) (by decide) (by decide) (by decide)
  rw [if_neg h12]
  by_cases h13 : x = (nI 13)
  · subst h13; rw [if_pos rfl]; exact R_tabIn (off := 155) d_X9_told_1 (by decide) (by decide) (by decide) (by decide)
  rw [if_neg h13]
  refine R_tabOut d_X9_told_1 (by decide) ?_ (by decide)
  have e0 : ¬ x.toInt = 0 := lv_neT h0 (by decide)
  have e1 : ¬ x.toInt = 1 := lv_neT h1 (by decide)
  have e2 : ¬ x.toInt = 2 := lv_neT h2 (by decide)
  have e3 : ¬ x.toInt = 3 := lv_neT h3 (by decide)
  have e4 : ¬ x.toInt = 4 := lv_neT h4 (by decide)
  have e5 : ¬ x.toInt = 5 := lv_neT h5 (by decide)
  have e6 : ¬ x.toInt = 6 := lv_neT h6 (by decide)
  have e7 : ¬ x.toInt = 7 := lv_neT h7 (by decide)
  have e8 : ¬ x.toInt = 8 := lv_neT h8 (by decide)
  have e9 : ¬ x.toInt = 9 := lv_neT h9 (by decide)
  have e10 : ¬ x.toInt = 10 := lv_neT h10 (by decide)
  have e11 : ¬ x.toInt = 11 := lv_neT h11 (by decide)
  have e12 : ¬ x.toInt = 12 := lv_neT h12 (by decide)
  have e13 : ¬ x.toInt = 13 := lv_neT h13 (by decide)
  omega
theorem d_X9_told_72 : decode (mB M_X9_told) 72 = .ok (.aload_n 0, 1) := by decide +kernel
theorem r_X9_told_72 {x1 : Value} {a : Nat} {st : List Value} {h : AH} : Run M_X9_told 72 [.ref a, x1] st h = Run M_X9_told 73 [.ref a, x1] (.ref a :: st) h := R_aload_n d_X9_told_72 rfl
theorem d_X9_told_73 : decode (mB M_X9_told) 73 = .ok (.getfield 82, 3) := by decide +kernel
theorem r_X9_told_73 {x0 x1 : Value} {a : Nat} {st : List Value} {h : AH} : Run M_X9_told 73 [x0, x1] (.ref a :: st) h = if (gF h a 9 3).isSome = true then Run M_X9_told 76 [x0, x1] ((gF h a 9 3).getD .null :: st) h else none := R_getfield d_X9_told_73 rfl
theorem d_X9_told_76 : decode (mB M_X9_told) 76 = .ok (.ireturn, 1) := by decide +kernel
theorem r_X9_told_76 {x0 x1 : Value} {v : Int32} {h : AH} : Run M_X9_told 76 [x0, x1] [.int v] h = some (h, some (.int v)) := R_ireturn d_X9_told_76 rfl rfl
theorem d_X9_told_77 : decode (mB M_X9_told) 77 = .ok (.aload_n 0, 1) := by decide +kernel
theorem r_X9_told_77 {x1 : Value} {a : Nat} {st : List Value} {h : AH} : Run M_X9_told 77 [.ref a, x1] st h = Run M_X9_told 78 [.ref a, x1] (.ref a :: st) h := R_aload_n d_X9_told_77 rfl
theorem d_X9_told_78 : decode (mB M_X9_told) 78 = .ok (.getfield 89, 3) := by decide +kernel
theorem r_X9_told_78 {x0 x1 : Value} {a : Nat} {st : List Value} {h : AH} : Run M_X9_told 78 [x0, x1] (.ref a :: st) h = if (gF h a 9 9).isSome = true then Run M_X9_told 81 [x0, x1] ((gF h a 9 9).getD .null :: st) h else none := R_getfield d_X9_told_78 rfl
theorem d_X9_told_81 : decode (mB M_X9_told) 81 = .ok (.ireturn, 1) := by decide +kernel
theorem r_X9_told_81 {x0 x1 : Value} {v : Int32} {h : AH} : Run M_X9_told 81 [x0, x1] [.int v] h = some (h, some (.int v)) := R_ireturn d_X9_told_81 rfl rfl
theorem d_X9_told_82 : decode (mB M_X9_told) 82 = .ok (.aload_n 0, 1) := by decide +kernel
theorem r_X9_told_82 {x1 : Value} {a : Nat} {st : List Value} {h : AH} : Run M_X9_told 82 [.ref a, x1] st h = Run M_X9_told 83 [.ref a, x1] (.ref a :: st) h := R_aload_n d_X9_told_82 rfl
theorem d_X9_told_83 : decode (mB M_X9_told) 83 = .ok (.getfield 182, 3) := by decide +kernel
theorem r_X9_told_83 {x0 x1 : Value} {a : Nat} {st : List Value} {h : AH} : Run M_X9_told 83 [x0, x1] (.ref a :: st) h = if (gF h a 9 10).isSome = true then Run M_X9_told 86 [x0, x1] ((gF h a 9 10).getD .null :: st) h else none := R_getfield d_X9_told_83 rfl
theorem d_X9_told_86 : decode (mB M_X9_told) 86 = .ok (.ireturn, 1) := by decide +kernel
theorem r_X9_told_86 {x0 x1 : Value} {v : Int32} {h : AH} : Run M_X9_told 86 [x0, x1] [.int v] h = some (h, some (.int v)) := R_ireturn d_X9_told_86 rfl rfl
theorem d_X9_told_87 : decode (mB M_X9_told) 87 = .ok (.aload_n 0, 1) := by decide +kernel
theorem r_X9_told_87 {x1 : Value} {a : Nat} {st : List Value} {h : AH} : Run M_X9_told 87 [.ref a, x1] st h = Run M_X9_told 88 [.ref a, x1] (.ref a :: st) h := R_aload_n d_X9_told_87 rfl
theorem d_X9_told_88 : decode (mB M_X9_told) 88 = .ok (.getfield 93, 3) := by decide +kernel
theorem r_X9_told_88 {x0 x1 : Value} {a : Nat} {st : List Value} {h : AH} : Run M_X9_told 88 [x0, x1] (.ref a :: st) h = if (gF h a 9 13).isSome = true then Run M_X9_told 91 [x0, x1] ((gF h a 9 13).getD .null :: st) h else none := R_getfield d_X9_told_88 rfl
theorem d_X9_told_91 : decode (mB M_X9_told) 91 = .ok (.ireturn, 1) := by decide +kernel
theorem r_X9_told_91 {x0 x1 : Value} {v : Int32} {h : AH} : Run M_X9_told 91 [x0, x1] [.int v] h = some (h, some (.int v)) := R_ireturn d_X9_told_91 rfl rfl
theorem d_X9_told_92 : decode (mB M_X9_told) 92 = .ok (.aload_n 0, 1) := by decide +kernel
theorem r_X9_told_92 {x1 : Value} {a : Nat} {st : List Value} {h : AH} : Run M_X9_told 92 [.ref a, x1] st h = Run M_X9_told 93 [.ref a, x1] (.ref a :: st) h := R_aload_n d_X9_told_92 rfl
theorem d_X9_told_93 : decode (mB M_X9_told) 93 = .ok (.getfield 7, 3) := by decide +kernel
theorem r_X9_told_93 {x0 x1 : Value} {a : Nat} {st : List Value} {h : AH} : Run M_X9_told 93 [x0, x1] (.ref a :: st) h = if (gF h a 9 0).isSome = true then Run M_X9_told 96 [x0, x1] ((gF h a 9 0).getD .null :: st) h else none := R_getfield d_X9_told_93 rfl
theorem d_X9_told_96 : decode (mB M_X9_told) 96 = .ok (.iconst 3, 1) := by decide +kernel
theorem r_X9_told_96 {x0 x1 : Value} {st : List Value} {h : AH} : Run M_X9_told 96 [x0, x1] st h = Run M_X9_told 97 [x0, x1] (.int (nI 3) :: st) h := R_iconst d_X9_told_96 (by decide)
theorem d_X9_told_97 : decode (mB M_X9_told) 97 = .ok (.iaload, 1) := by decide +kernel
theorem r_X9_told_97 {x0 x1 : Value} {a : Nat} {i : Int32} {st : List Value} {h : AH} : Run M_X9_told 97 [x0, x1] (.int i :: .ref a :: st) h = if (gI 0 h a i).isSome = true then Run M_X9_told 98 [x0, x1] (.int ((gI 0 h a i).getD 0) :: st) h else none := R_iaload d_X9_told_97
theorem d_X9_told_98 : decode (mB M_X9_told) 98 = .ok (.ireturn, 1) := by decide +kernel
theorem r_X9_told_98 {x0 x1 : Value} {v : Int32} {h : AH} : Run M_X9_told 98 [x0, x1] [.int v] h = some (h, some (.int v)) := R_ireturn d_X9_told_98 rfl rfl
theorem d_X9_told_99 : decode (mB M_X9_told) 99 = .ok (.aload_n 0, 1) := by decide +kernel
theorem r_X9_told_99 {x1 : Value} {a : Nat} {st : List Value} {h : AH} : Run M_X9_told 99 [.ref a, x1] st h = Run M_X9_told 100 [.ref a, x1] (.ref a :: st) h := R_aload_n d_X9_told_99 rfl
theorem d_X9_told_100 : decode (mB M_X9_told) 100 = .ok (.getfield 7, 3) := by decide +kernel
theorem r_X9_told_100 {x0 x1 : Value} {a : Nat} {st : List Value} {h : AH} : Run M_X9_told 100 [x0, x1] (.ref a :: st) h = if (gF h a 9 0).isSome = true then Run M_X9_told 103 [x0, x1] ((gF h a 9 0).getD .null :: st) h else none := R_getfield d_X9_told_100 rfl
theorem d_X9_told_103 : decode (mB M_X9_told) 103 = .ok (.iconst 4, 1) := by decide +kernel
theorem r_X9_told_103 {x0 x1 : Value} {st : List Value} {h : AH} : Run M_X9_told 103 [x0, x1] st h = Run M_X9_told 104 [x0, x1] (.int (nI 4) :: st) h := R_iconst d_X9_told_103 (by decide)
theorem d_X9_told_104 : decode (mB M_X9_told) 104 = .ok (.iaload, 1) := by decide +kernel
theorem r_X9_told_104 {x0 x1 : Value} {a : Nat} {i : Int32} {st : List Value} {h : AH} : Run M_X9_told 104 [x0, x1] (.int i :: .ref a :: st) h = if (gI 0 h a i).isSome = true then Run M_X9_told 105 [x0, x1] (.int ((gI 0 h a i).getD 0) :: st) h else none := R_iaload d_X9_told_104
theorem d_X9_told_105 : decode (mB M_X9_told) 105 = .ok (.ireturn, 1) := by decide +kernel
theorem r_X9_told_105 {x0 x1 : Value} {v : Int32} {h : AH} : Run M_X9_told 105 [x0, x1] [.int v] h = some (h, some (.int v)) := R_ireturn d_X9_told_105 rfl rfl
theorem d_X9_told_106 : decode (mB M_X9_told) 106 = .ok (.aload_n 0, 1) := by decide +kernel
theorem r_X9_told_106 {x1 : Value} {a : Nat} {st : List Value} {h : AH} : Run M_X9_told 106 [.ref a, x1] st h = Run M_X9_told 107 [.ref a, x1] (.ref a :: st) h := R_aload_n d_X9_told_106 rfl
theorem d_X9_told_107 : decode (mB M_X9_told) 107 = .ok (.getfield 7, 3) := by decide +kernel
theorem r_X9_told_107 {x0 x1 : Value} {a : Nat} {st : List Value} {h : AH} : Run M_X9_told 107 [x0, x1] (.ref a :: st) h = if (gF h a 9 0).isSome = true then Run M_X9_told 110 [x0, x1] ((gF h a 9 0).getD .null :: st) h else none := R_getfield d_X9_told_107 rfl
theorem d_X9_told_110 : decode (mB M_X9_told) 110 = .ok (.iconst 0, 1) := by decide +kernel
theorem r_X9_told_110 {x0 x1 : Value} {st : List Value} {h : AH} : Run M_X9_told 110 [x0, x1] st h = Run M_X9_told 111 [x0, x1] (.int (nI 0) :: st) h := R_iconst d_X9_told_110 (by decide)
theorem d_X9_told_111 : decode (mB M_X9_told) 111 = .ok (.iaload, 1) := by decide +kernel
theorem r_X9_told_111 {x0 x1 : Value} {a : Nat} {i : Int32} {st : List Value} {h : AH} : Run M_X9_told 111 [x0, x1] (.int i :: .ref a :: st) h = if (gI 0 h a i).isSome = true then Run M_X9_told 112 [x0, x1] (.int ((gI 0 h a i).getD 0) :: st) h else none := R_iaload d_X9_told_111
theorem d_X9_told_112 : decode (mB M_X9_told) 112 = .ok (.ireturn, 1) := by decide +kernel
theorem r_X9_told_112 {x0 x1 : Value} {v : Int32} {h : AH} : Run M_X9_told 112 [x0, x1] [.int v] h = some (h, some (.int v)) := R_ireturn d_X9_told_112 rfl rfl
theorem d_X9_told_113 : decode (mB M_X9_told) 113 = .ok (.aload_n 0, 1) := by decide +kernel
theorem r_X9_told_113 {x1 : Value} {a : Nat} {st : List Value} {h : AH} : Run M_X9_told 113 [.ref a, x1] st h = Run M_X9_told 114 [.ref a, x1] (.ref a :: st) h := R_aload_n d_X9_told_113 rfl
theorem d_X9_told_114 : decode (mB M_X9_told) 114 = .ok (.getfield 7, 3) := by decide +kernel
theorem r_X9_told_114 {x0 x1 : Value} {a : Nat} {st : List Value} {h : AH} : Run M_X9_told 114 [x0, x1] (.ref a :: st) h = if (gF h a 9 0).isSome = true then Run M_X9_told 117 [x0, x1] ((gF h a 9 0).getD .null :: st) h else none := R_getfield d_X9_told_114 rfl
theorem d_X9_told_117 : decode (mB M_X9_told) 117 = .ok (.iconst 1, 1) := by decide +kernel
theorem r_X9_told_117 {x0 x1 : Value} {st : List Value} {h : AH} : Run M_X9_told 117 [x0, x1] st h = Run M_X9_told 118 [x0, x1] (.int (nI 1) :: st) h := R_iconst d_X9_told_117 (by decide)
theorem d_X9_told_118 : decode (mB M_X9_told) 118 = .ok (.iaload, 1) := by decide +kernel
theorem r_X9_told_118 {x0 x1 : Value} {a : Nat} {i : Int32} {st : List Value} {h : AH} : Run M_X9_told 118 [x0, x1] (.int i :: .ref a :: st) h = if (gI 0 h a i).isSome = true then Run M_X9_told 119 [x0, x1] (.int ((gI 0 h a i).getD 0) :: st) h else none := R_iaload d_X9_told_118
theorem d_X9_told_119 : decode (mB M_X9_told) 119 = .ok (.ireturn, 1) := by decide +kernel
theorem r_X9_told_119 {x0 x1 : Value} {v : Int32} {h : AH} : Run M_X9_told 119 [x0, x1] [.int v] h = some (h, some (.int v)) := R_ireturn d_X9_told_119 rfl rfl
theorem d_X9_told_120 : decode (mB M_X9_told) 120 = .ok (.aload_n 0, 1) := by decide +kernel
theorem r_X9_told_120 {x1 : Value} {a : Nat} {st : List Value} {h : AH} : Run M_X9_told 120 [.ref a, x1] st h = Run M_X9_told 121 [.ref a, x1] (.ref a :: st) h := R_aload_n d_X9_told_120 rfl
theorem d_X9_told_121 : decode (mB M_X9_told) 121 = .ok (.getfield 7, 3) := by decide +kernel
theorem r_X9_told_121 {x0 x1 : Value} {a : Nat} {st : List Value} {h : AH} : Run M_X9_told 121 [x0, x1] (.ref a :: st) h = if (gF h a 9 0).isSome = true then Run M_X9_told 124 [x0, x1] ((gF h a 9 0).getD .null :: st) h else none := R_getfield d_X9_told_121 rfl
theorem d_X9_told_124 : decode (mB M_X9_told) 124 = .ok (.iconst 2, 1) := by decide +kernel
theorem r_X9_told_124 {x0 x1 : Value} {st : List Value} {h : AH} : Run M_X9_told 124 [x0, x1] st h = Run M_X9_told 125 [x0, x1] (.int (nI 2) :: st) h := R_iconst d_X9_told_124 (by decide)
theorem d_X9_told_125 : decode (mB M_X9_told) 125 = .ok (.iaload, 1) := by decide +kernel
theorem r_X9_told_125 {x0 x1 : Value} {a : Nat} {i : Int32} {st : List Value} {h : AH} : Run M_X9_told 125 [x0, x1] (.int i :: .ref a :: st) h = if (gI 0 h a i).isSome = true then Run M_X9_told 126 [x0, x1] (.int ((gI 0 h a i).getD 0) :: st) h else none := R_iaload d_X9_told_125
theorem d_X9_told_126 : decode (mB M_X9_told) 126 = .ok (.ireturn, 1) := by decide +kernel
theorem r_X9_told_126 {x0 x1 : Value} {v : Int32} {h : AH} : Run M_X9_told 126 [x0, x1] [.int v] h = some (h, some (.int v)) := R_ireturn d_X9_told_126 rfl rfl
theorem d_X9_told_127 : decode (mB M_X9_told) 127 = .ok (.aload_n 0, 1) := by decide +kernel
theorem r_X9_told_127 {x1 : Value} {a : Nat} {st : List Value} {h : AH} : Run M_X9_told 127 [.ref a, x1] st h = Run M_X9_told 128 [.ref a, x1] (.ref a :: st) h := R_aload_n d_X9_told_127 rfl
theorem d_X9_told_128 : decode (mB M_X9_told) 128 = .ok (.getfield 7, 3) := by decide +kernel
theorem r_X9_told_128 {x0 x1 : Value} {a : Nat} {st : List Value} {h : AH} : Run M_X9_told 128 [x0, x1] (.ref a :: st) h = if (gF h a 9 0).isSome = true then Run M_X9_told 131 [x0, x1] ((gF h a 9 0).getD .null :: st) h else none := R_getfield d_X9_told_128 rfl
theorem d_X9_told_131 : decode (mB M_X9_told) 131 = .ok (.bipush 15, 2) := by decide +kernel
theorem r_X9_told_131 {x0 x1 : Value} {st : List Value} {h : AH} : Run M_X9_told 131 [x0, x1] st h = Run M_X9_told 133 [x0, x1] (.int (nI 15) :: st) h := R_bipush d_X9_told_131 (by decide)
theorem d_X9_told_133 : decode (mB M_X9_told) 133 = .ok (.iaload, 1) := by decide +kernel
theorem r_X9_told_133 {x0 x1 : Value} {a : Nat} {i : Int32} {st : List Value} {h : AH} : Run M_X9_told 133 [x0, x1] (.int i :: .ref a :: st) h = if (gI 0 h a i).isSome = true then Run M_X9_told 134 [x0, x1] (.int ((gI 0 h a i).getD 0) :: st) h else none := R_iaload d_X9_told_133
theorem d_X9_told_134 : decode (mB M_X9_told) 134 = .ok (.ireturn, 1) := by decide +kernel
theorem r_X9_told_134 {x0 x1 : Value} {v : Int32} {h : AH} : Run M_X9_told 134 [x0, x1] [.int v] h = some (h, some (.int v)) := R_ireturn d_X9_told_134 rfl rfl
theorem d_X9_told_135 : decode (mB M_X9_told) 135 = .ok (.aload_n 0, 1) := by decide +kernel
theorem r_X9_told_135 {x1 : Value} {a : Nat} {st : List Value} {h : AH} : Run M_X9_told 135 [.ref a, x1] st h = Run M_X9_told 136 [.ref a, x1] (.ref a :: st) h := R_aload_n d_X9_told_135 rfl
theorem d_X9_told_136 : decode (mB M_X9_told) 136 = .ok (.getfield 7, 3) := by decide +kernel
theorem r_X9_told_136 {x0 x1 : Value} {a : Nat} {st : List Value} {h : AH} : Run M_X9_told 136 [x0, x1] (.ref a :: st) h = if (gF h a 9 0).isSome = true then Run M_X9_told 139 [x0, x1] ((gF h a 9 0).getD .null :: st) h else none := R_getfield d_X9_told_136 rfl
theorem d_X9_told_139 : decode (mB M_X9_told) 139 = .ok (.bipush 16, 2) := by decide +kernel
theorem r_X9_told_139 {x0 x1 : Value} {st : List Value} {h : AH} : Run M_X9_told 139 [x0, x1] st h = Run M_X9_told 141 [x0, x1] (.int (nI 16) :: st) h := R_bipush d_X9_told_139 (by decide)
theorem d_X9_told_141 : decode (mB M_X9_told) 141 = .ok (.iaload, 1) := by decide +kernel
theorem r_X9_told_141 {x0 x1 : Value} {a : Nat} {i : Int32} {st : List Value} {h : AH} : Run M_X9_told 141 [x0, x1] (.int i :: .ref a :: st) h = if (gI 0 h a i).isSome = true then Run M_X9_told 142 [x0, x1] (.int ((gI 0 h a i).getD 0) :: st) h else none := R_iaload d_X9_told_141
theorem d_X9_told_142 : decode (mB M_X9_told) 142 = .ok (.ireturn, 1) := by decide +kernel
theorem r_X9_told_142 {x0 x1 : Value} {v : Int32} {h : AH} : Run M_X9_told 142 [x0, x1] [.int v] h = some (h, some (.int v)) := R_ireturn d_X9_told_142 rfl rfl
theorem d_X9_told_143 : decode (mB M_X9_told) 143 = .ok (.aload_n 0, 1) := by decide +kernel
theorem r_X9_told_143 {x1 : Value} {a : Nat} {st : List Value} {h : AH} : Run M_X9_told 143 [.ref a, x1] st h = Run M_X9_told 144 [.ref a, x1] (.ref a :: st) h := R_aload_n d_X9_told_143 rfl
theorem d_X9_told_144 : decode (mB M_X9_told) 144 = .ok (.getfield 7, 3) := by decide +kernel
theorem r_X9_told_144 {x0 x1 : Value} {a : Nat} {st : List Value} {h : AH} : Run M_X9_told 144 [x0, x1] (.ref a :: st) h = if (gF h a 9 0).isSome = true then Run M_X9_told 147 [x0, x1] ((gF h a 9 0).getD .null :: st) h else none := R_getfield d_X9_told_144 rfl
theorem d_X9_told_147 : decode (mB M_X9_told) 147 = .ok (.bipush 17, 2) := by decide +kernel
theorem r_X9_told_147 {x0 x1 : Value} {st : List Value} {h : AH} : Run M_X9_told 147 [x0, x1] st h = Run M_X9_told 149 [x0, x1] (.int (nI 17) :: st) h := R_bipush d_X9_told_147 (by decide)
theorem d_X9_told_149 : decode (mB M_X9_told) 149 = .ok (.iaload, 1) := by decide +kernel
theorem r_X9_told_149 {x0 x1 : Value} {a : Nat} {i : Int32} {st : List Value} {h : AH} : Run M_X9_told 149 [x0, x1] (.int i :: .ref a :: st) h = if (gI 0 h a i).isSome = true then Run M_X9_told 150 [x0, x1] (.int ((gI 0 h a i).getD 0) :: st) h else none := R_iaload d_X9_told_149
theorem d_X9_told_150 : decode (mB M_X9_told) 150 = .ok (.ireturn, 1) := by decide +kernel
theorem r_X9_told_150 {x0 x1 : Value} {v : Int32} {h : AH} : Run M_X9_told 150 [x0, x1] [.int v] h = some (h, some (.int v)) := R_ireturn d_X9_told_150 rfl rfl
theorem d_X9_told_151 : decode (mB M_X9_told) 151 = .ok (.aload_n 0, 1) := by decide +kernel
theorem r_X9_told_151 {x1 : Value} {a : Nat} {st : List Value} {h : AH} : Run M_X9_told 151 [.ref a, x1] st h = Run M_X9_told 152 [.ref a, x1] (.ref a :: st) h := R_aload_n d_X9_told_151 rfl
theorem d_X9_told_152 : decode (mB M_X9_told) 152 = .ok (.getfield 185, 3) := by decide +kernel
theorem r_X9_told_152 {x0 x1 : Value} {a : Nat} {st : List Value} {h : AH} : Run M_X9_told 152 [x0, x1] (.ref a :: st) h = if (gF h a 9 36).isSome = true then Run M_X9_told 155 [x0, x1] ((gF h a 9 36).getD .null :: st) h else none := R_getfield d_X9_told_152 rfl
theorem d_X9_told_155 : decode (mB M_X9_told) 155 = .ok (.ireturn, 1) := by decide +kernel
theorem r_X9_told_155 {x0 x1 : Value} {v : Int32} {h : AH} : Run M_X9_told 155 [x0, x1] [.int v] h = some (h, some (.int v)) := R_ireturn d_X9_told_155 rfl rfl
theorem d_X9_told_156 : decode (mB M_X9_told) 156 = .ok (.aload_n 0, 1) := by decide +kernel
theorem r_X9_told_156 {x1 : Value} {a : Nat} {st : List Value} {h : AH} : Run M_X9_told 156 [.ref a, x1] st h = Run M_X9_told 157 [.ref a, x1] (.ref a :: st) h := R_aload_n d_X9_told_156 rfl
theorem d_X9_told_157 : decode (mB M_X9_told) 157 = .ok (.getfield 188, 3) := by decide +kernel
theorem r_X9_told_157 {x0 x1 : Value} {a : Nat} {st : List Value} {h : AH} : Run M_X9_told 157 [x0, x1] (.ref a :: st) h = if (gF h a 9 38).isSome = true then Run M_X9_told 160 [x0, x1] ((gF h a 9 38).getD .null :: st) h else none := R_getfield d_X9_told_157 rfl
theorem d_X9_told_160 : decode (mB M_X9_told) 160 = .ok (.ireturn, 1) := by decide +kernel
theorem r_X9_told_160 {x0 x1 : Value} {v : Int32} {h : AH} : Run M_X9_told 160 [x0, x1] [.int v] h = some (h, some (.int v)) := R_ireturn d_X9_told_160 rfl rfl
theorem d_X9_told_161 : decode (mB M_X9_told) 161 = .ok (.ldc 92, 2) := by decide +kernel
theorem r_X9_told_161 {x0 x1 : Value} {st : List Value} {h : AH} : Run M_X9_told 161 [x0, x1] st h = Run M_X9_told 163 [x0, x1] (.int (-1000000002) :: st) h := R_ldc d_X9_told_161 (by decide)
theorem d_X9_told_163 : decode (mB M_X9_told) 163 = .ok (.ireturn, 1) := by decide +kernel
theorem r_X9_told_163 {x0 x1 : Value} {v : Int32} {h : AH} : Run M_X9_told 163 [x0, x1] [.int v] h = some (h, some (.int v)) := R_ireturn d_X9_told_163 rfl rfl
