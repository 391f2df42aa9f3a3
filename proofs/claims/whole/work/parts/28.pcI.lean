/-! the equations of the run, an instruction each (program: wip/whole/gen_pcs.py) -/
theorem d_L_law_0 : decode (mB M_L_law) 0 = .ok (.new 7, 3) := by decide +kernel
theorem r_L_law_0 {x0 x1 x2 x3 : Value} {st : List Value} {h : AH} : Run M_L_law 0 [x0, x1, x2, x3] st h = Run M_L_law 3 [x0, x1, x2, x3] (.ref h.1 :: st) (hnew h 9 (oB 8 [.null, .null, .null, .null, .null, .null, .null, .null, .null])) := R_new d_L_law_0 rfl rfl rfl
theorem d_L_law_3 : decode (mB M_L_law) 3 = .ok (.dup, 1) := by decide +kernel
theorem r_L_law_3 {x0 x1 x2 x3 : Value} {x : Nat} {st : List Value} {h : AH} : Run M_L_law 3 [x0, x1, x2, x3] (.ref x :: st) h = Run M_L_law 4 [x0, x1, x2, x3] (.ref x :: .ref x :: st) h := R_dupr d_L_law_3
theorem d_L_law_4 : decode (mB M_L_law) 4 = .ok (.invokespecial 9, 3) := by decide +kernel
theorem r_L_law_4 {x0 x1 x2 x3 : Value} {a : Nat} {w0 : Value} {h : AH} : Run M_L_law 4 [x0, x1, x2, x3] (.ref a :: [w0]) h = if (Call M_X8_init h [.ref a]).isSome = true then Run M_L_law 7 [x0, x1, x2, x3] (rL (Call M_X8_init h [.ref a]) ++ [w0]) (cH (Call M_X8_init h [.ref a])) else none := R_spec d_L_law_4 rfl rfl rfl rfl rfl (Nat.le_of_ble_eq_true rfl)
theorem d_L_law_7 : decode (mB M_L_law) 7 = .ok (.astore_n 1, 1) := by decide +kernel
theorem r_L_law_7 {x0 x1 x2 x3 : Value} {a : Nat} {st : List Value} {h : AH} (hc : x0.category = 1) : Run M_L_law 7 [x0, x1, x2, x3] (.ref a :: st) h = Run M_L_law 8 [x0, .ref a, x2, x3] st h := R_astore_n d_L_law_7 (Nat.lt_of_lt_of_le (by decide : 1 < 4) (Nat.le_refl 4)) (catP_of rfl hc)
theorem d_L_law_8 : decode (mB M_L_law) 8 = .ok (.new 10, 3) := by decide +kernel
theorem r_L_law_8 {x0 x1 x2 x3 : Value} {st : List Value} {h : AH} : Run M_L_law 8 [x0, x1, x2, x3] st h = Run M_L_law 11 [x0, x1, x2, x3] (.ref h.1 :: st) (hnew h 40 (oB 9 [.null, .null, .null, .int 0, .null, .null, .null, .null, .null, .int 0, .int 0, .null, .null, .int 0, .int 0, .int 0, .int 0, .int 0, .int 0, .int 0, .int 0, .int 0, .null, .null, .null, .null, .null, .int 0, .null, .int 0, .null, .null, .int 0, .int 0, .null, .null, .int 0, .null, .int 0, .null])) := R_new d_L_law_8 rfl rfl rfl
theorem d_L_law_11 : decode (mB M_L_law) 11 = .ok (.dup, 1) := by decide +kernel
theorem r_L_law_11 {x0 x1 x2 x3 : Value} {x : Nat} {st : List Value} {h : AH} : Run M_L_law 11 [x0, x1, x2, x3] (.ref x :: st) h = Run M_L_law 12 [x0, x1, x2, x3] (.ref x :: .ref x :: st) h := R_dupr d_L_law_11
theorem d_L_law_12 : decode (mB M_L_law) 12 = .ok (.invokespecial 12, 3) := by decide +kernel
theorem r_L_law_12 {x0 x1 x2 x3 : Value} {a : Nat} {w0 : Value} {h : AH} : Run M_L_law 12 [x0, x1, x2, x3] (.ref a :: [w0]) h = if (Call M_X9_init h [.ref a]).isSome = true then Run M_L_law 15 [x0, x1, x2, x3] (rL (Call M_X9_init h [.ref a]) ++ [w0]) (cH (Call M_X9_init h [.ref a])) else none := R_spec d_L_law_12 rfl rfl rfl rfl rfl (Nat.le_of_ble_eq_true rfl)
theorem d_L_law_15 : decode (mB M_L_law) 15 = .ok (.astore_n 2, 1) := by decide +kernel
theorem r_L_law_15 {x0 x1 x2 x3 : Value} {a : Nat} {st : List Value} {h : AH} (hc : x1.category = 1) : Run M_L_law 15 [x0, x1, x2, x3] (.ref a :: st) h = Run M_L_law 16 [x0, x1, .ref a, x3] st h := R_astore_n d_L_law_15 (Nat.lt_of_lt_of_le (by decide : 2 < 4) (Nat.le_refl 4)) (catP_of rfl hc)
theorem d_L_law_16 : decode (mB M_L_law) 16 = .ok (.iconst 0, 1) := by decide +kernel
theorem r_L_law_16 {x0 x1 x2 x3 : Value} {st : List Value} {h : AH} : Run M_L_law 16 [x0, x1, x2, x3] st h = Run M_L_law 17 [x0, x1, x2, x3] (.int (nI 0) :: st) h := R_iconst d_L_law_16 (by decide)
theorem d_L_law_17 : decode (mB M_L_law) 17 = .ok (.istore_n 3, 1) := by decide +kernel
theorem r_L_law_17 {x0 x1 x2 x3 : Value} {a : Int32} {st : List Value} {h : AH} (hc : x2.category = 1) : Run M_L_law 17 [x0, x1, x2, x3] (.int a :: st) h = Run M_L_law 18 [x0, x1, x2, .int a] st h := R_istore_n d_L_law_17 (Nat.lt_of_lt_of_le (by decide : 3 < 4) (Nat.le_refl 4)) (catP_of rfl hc)
theorem d_L_law_18 : decode (mB M_L_law) 18 = .ok (.iload_n 3, 1) := by decide +kernel
theorem r_L_law_18 {x0 x1 x2 : Value} {a : Int32} {st : List Value} {h : AH} : Run M_L_law 18 [x0, x1, x2, .int a] st h = Run M_L_law 19 [x0, x1, x2, .int a] (.int a :: st) h := R_iload_n d_L_law_18 rfl
theorem d_L_law_19 : decode (mB M_L_law) 19 = .ok (.aload_n 0, 1) := by decide +kernel
theorem r_L_law_19 {x1 x2 x3 : Value} {a : Nat} {st : List Value} {h : AH} : Run M_L_law 19 [.ref a, x1, x2, x3] st h = Run M_L_law 20 [.ref a, x1, x2, x3] (.ref a :: st) h := R_aload_n d_L_law_19 rfl
theorem d_L_law_20 : decode (mB M_L_law) 20 = .ok (.arraylength, 1) := by decide +kernel
theorem r_L_law_20 {x0 x1 x2 x3 : Value} {a : Nat} {st : List Value} {h : AH} : Run M_L_law 20 [x0, x1, x2, x3] (.ref a :: st) h = if (gN h a).isSome = true then Run M_L_law 21 [x0, x1, x2, x3] (.int (Int32.ofNat ((gN h a).getD 0)) :: st) h else none := R_arraylength d_L_law_20
theorem d_L_law_21 : decode (mB M_L_law) 21 = .ok (.iconst 5, 1) := by decide +kernel
theorem r_L_law_21 {x0 x1 x2 x3 : Value} {st : List Value} {h : AH} : Run M_L_law 21 [x0, x1, x2, x3] st h = Run M_L_law 22 [x0, x1, x2, x3] (.int (nI 5) :: st) h := R_iconst d_L_law_21 (by decide)
theorem d_L_law_22 : decode (mB M_L_law) 22 = .ok (.isub, 1) := by decide +kernel
theorem r_L_law_22 {x0 x1 x2 x3 : Value} {x y : Int32} {st : List Value} {h : AH} : Run M_L_law 22 [x0, x1, x2, x3] (.int y :: .int x :: st) h = Run M_L_law 23 [x0, x1, x2, x3] (.int (x - y) :: st) h := R_isub d_L_law_22
theorem d_L_law_23 : decode (mB M_L_law) 23 = .ok (.if_icmp .gt 1330, 3) := by decide +kernel
theorem r_L_law_23 {x0 x1 x2 x3 : Value} {x y : Int32} {st : List Value} {h : AH} : Run M_L_law 23 [x0, x1, x2, x3] (.int y :: .int x :: st) h = if y < x then Run M_L_law 1353 [x0, x1, x2, x3] st h else Run M_L_law 26 [x0, x1, x2, x3] st h := R_icmp_gt d_L_law_23 (by decide)
theorem d_L_law_26 : decode (mB M_L_law) 26 = .ok (.aload_n 0, 1) := by decide +kernel
theorem r_L_law_26 {x1 x2 x3 : Value} {a : Nat} {st : List Value} {h : AH} : Run M_L_law 26 [.ref a, x1, x2, x3] st h = Run M_L_law 27 [.ref a, x1, x2, x3] (.ref a :: st) h := R_aload_n d_L_law_26 rfl
theorem d_L_law_27 : decode (mB M_L_law) 27 = .ok (.iload_n 3, 1) := by decide +kernel
theorem r_L_law_27 {x0 x1 x2 : Value} {a : Int32} {st : List Value} {h : AH} : Run M_L_law 27 [x0, x1, x2, .int a] st h = Run M_L_law 28 [x0, x1, x2, .int a] (.int a :: st) h := R_iload_n d_L_law_27 rfl
theorem d_L_law_28 : decode (mB M_L_law) 28 = .ok (.iaload, 1) := by decide +kernel
theorem r_L_law_28 {x0 x1 x2 x3 : Value} {a : Nat} {i : Int32} {st : List Value} {h : AH} : Run M_L_law 28 [x0, x1, x2, x3] (.int i :: .ref a :: st) h = if (gI 0 h a i).isSome = true then Run M_L_law 29 [x0, x1, x2, x3] (.int ((gI 0 h a i).getD 0) :: st) h else none := R_iaload d_L_law_28
theorem d_L_law_29 : decode (mB M_L_law) 29 = .ok (.bipush 63, 2) := by decide +kernel
theorem r_L_law_29 {x0 x1 x2 x3 : Value} {st : List Value} {h : AH} : Run M_L_law 29 [x0, x1, x2, x3] st h = Run M_L_law 31 [x0, x1, x2, x3] (.int (nI 63) :: st) h := R_bipush d_L_law_29 (by decide)
theorem d_L_law_31 : decode (mB M_L_law) 31 = .ok (.iand, 1) := by decide +kernel
theorem r_L_law_31 {x0 x1 x2 x3 : Value} {x y : Int32} {st : List Value} {h : AH} : Run M_L_law 31 [x0, x1, x2, x3] (.int y :: .int x :: st) h = Run M_L_law 32 [x0, x1, x2, x3] (.int (x &&& y) :: st) h := R_iand d_L_law_31
theorem d_L_law_32 : decode (mB M_L_law) 32 = .ok (.tableswitch 1315 0 39 #[176, 199, 212, 225, 248, 281, 314, 347, 380, 423, 456, 499, 522, 545, 579, 613, 637, 660, 704, 758, 792, 805, 849, 872, 906, 919, 942, 975, 1009, 1042, 1075, 1108, 1141, 1164, 1187, 1220, 1233, 1246, 1269, 1292], 176) := by decide +kernel
theorem r_L_law_32 {x0 x1 x2 x3 : Value} {x : Int32} {st : List Value} {h : AH} : Run M_L_law 32 [x0, x1, x2, x3] (.int x :: st) h = if x = (nI 0) then Run M_L_law 208 [x0, x1, x2, x3] st h else if x = (nI 1) then Run M_L_law 231 [x0, x1, x2, x3] st h else if x = (nI 2) then Run M_L_law 244 [x0, x1, x2, x3] st h else if x = (nI 3) then Run M_L_law 257 [x0, x1, x2, x3] st h else if x = (nI 4) then Run M_L_law 280 [x0, x1, x2, x3] st h else if x = (nI 5) then Run M_L_law 313 [x0, x1, x2, x3] st h else if x = (nI 6) then Run M_L_law 346 [x0, x1, x2, x3] st h else if x = (nI 7) then Run M_L_law 379 [x0, x1, x2, x3] st h else if x = (nI 8) then Run M_L_law 412 [x0, x1, x2, x3] st h else if x = (nI 9) then Run M_L_law 455 [x0, x1, x2, x3] st h else if x = (nI 10) then Run M_L_law 488 [x0, x1, x2, x3] st h else if x = (nI 11) then Run M_L_law 531 [x0, x1, x2, x3] st h else if x = (nI 12) then Run M_L_law 554 [x0, x1, x2, x3] st h else if x = (nI 13) then Run M_L_law 577 [x0, x1, x2, x3] st h else if x = (nI 14) then Run M_L_law 611 [x0, x1, x2, x3] st h else if x = (nI 15) then Run M_L_law 645 [x0, x1, x2, x3] st h else if x = (nI 16) then Run M_L_law 669 [x0, x1, x2, x3] st h else if x = (nI 17) then Run M_L_law 692 [x0, x1, x2, x3] st h else if x = (nI 18) then Run M_L_law 736 [x0, x1, x2, x3] st h else if x = (nI 19) then Run M_L_law 790 [x0, x1, x2, x3] st h else if x = (nI 20) then Run M_L_law 824 [x0, x1, x2, x3] st h else if x = (nI 21) then Run M_L_law 837 [x0, x1, x2, x3] st h else if x = (nI 22) then Run M_L_law 881 [x0, x1, x2, x3] st h else if x = (nI 23) then Run M_L_law 904 [x0, x1, x2, x3] st h else if x = (nI 24) then Run M_L_law 938 [x0, x1, x2, x3] st h else if x = (nI 25) then Run M_L_law 951 [x0, x1, x2, x3] st h else if x = (nI 26) then Run M_L_law 974 [x0, x1, x2, x3] st h else if x = (nI 27) then Run M_L_law 1007 [x0, x1, x2, x3] st h else if x = (nI 28) then Run M_L_law 1041 [x0, x1, x2, x3] st h else if x = (nI 29) then Run M_L_law 1074 [x0, x1, x2, x3] st h else if x = (nI 30) then Run M_L_law 1107 [x0, x1, x2, x3] st h else if x = (nI 31) then Run M_L_law 1140 [x0, x1, x2, x3] st h else if x = (nI 32) then Run M_L_law 1173 [x0, x1, x2, x3] st h else if x = (nI 33) then Run M_L_law 1196 [x0, x1, x2, x3] st h else if x = (nI 34) then Run M_L_law 1219 [x0, x1, x2, x3] st h else if x = (nI 35) then Run M_L_law 1252 [x0, x1, x2, x3] st h else if x = (nI 36) then Run M_L_law 1265 [x0, x1, x2, x3] st h else if x = (nI 37) then Run M_L_law 1278 [x0, x1, x2, x3] st h else if x = (nI 38) then Run M_L_law 1301 [x0, x1, x2, x3] st h else if x = (nI 39) then Run M_L_law 1324 [x0, x1, x2, x3] st h else Run M_L_law 1347 [x0, x1, x2, x3] st h := by
  by_cases h0 : x = (nI 0)
  · subst h0; rw [if_pos rfl]; exact R_tabIn (off := 176) d_L_law_32 (by decide) (by decide) (by decide) (by decide)
  rw [if_neg h0]
  by_cases h1 : x = (nI 1)
  · subst h1; rw [if_pos rfl]; exact R_tabIn (off := 199) d_L_law_32 (by decide) (by decide) (by decide) (by decide)
  rw [if_neg h1]
  by_cases h2 : x = (nI 2)
  · subst h2; rw [if_pos rfl]; exact R_tabIn (off := 212) d_L_law_32 (by decide) (by decide) (by decide) (by decide)
  rw [if_neg h2]
  by_cases h3 : x = (nI 3)
  · subst h3; rw [if_pos rfl]; exact R_tabIn (off := 225) d_L_law_32 (by decide) (by decide) (by decide) (by decide)
  rw [if_neg h3]
  by_cases h4 : x = (nI 4)
  · subst h4; rw [if_pos rfl]; exact R_tabIn (off := 248) d_L_law_32 (by decide) (by decide) (by decide) (by decide)
  rw [if_neg h4]
  by_cases h5 : x = (nI 5)
  · subst h5; rw [if_pos rfl]; exact R_tabIn (off := 281) d_L_law_32 (by decide) (by decide) (by decide) (by decide)
  rw [if_neg h5]
  by_cases h6 : x = (nI 6)
  · subst h6; rw [if_pos rfl]; exact R_tabIn (off := 314) d_L_law_32 (by decide) (by decide) (by decide) (by decide)
  rw [if_neg h6]
  by_cases h7 : x = (nI 7)
  · subst h7; rw [if_pos rfl]; exact R_tabIn (off := 347) d_L_law_32 (by decide) (by decide) (by decide) (by decide)
  rw [if_neg h7]
  by_cases h8 : x = (nI 8)
  · subst h8; rw [if_pos rfl]; exact R_tabIn (off := 380) d_L_law_32 (by decide) (by decide) (by decide) (by decide)
  rw [if_neg h8]
  by_cases h9 : x = (nI 9)
  · subst h9; rw [if_pos rfl]; exact R_tabIn (off := 423) d_L_law_32 (by decide) (by decide) (by decide) (by decide)
  rw [if_neg h9]
  by_cases h10 : x = (nI 10)
  · subst h10; rw [if_pos rfl]; exact R_tabIn (off := 456) d_L_law_32 (by decide) (by decide) (by decide) (by decide)
  rw [if_neg h10]
  by_cases h11 : x = (nI 11)
  · subst h11; rw [if_pos rfl]; exact R_tabIn (off := 499) d_L_law_32 (by decide) (by decide) (by decide) (by decide)
  rw [if_neg h11]
  by_cases h12 : x = (nI 12)
  · subst h12; rw [if_pos rfl]; exact R_tabIn (off := 522) d_L_law_32 (by decide) (by decide) (by decide) (by decide)
  rw [if_neg h12]
  by_cases h13 : x = (nI 13)
  · subst h13; rw [if_pos rfl]; exact R_tabIn (off := 545) d_L_law_32 (by decide) (by decide) (by decide) (by decide)
  rw [if_neg h13]
  by_cases h14 : x = (nI 14)
  · subst h14; rw [if_pos rfl]; exact R_tabIn (off := 579) d_L_law_32 (by decide) (by decide) (by decide) (by decide)
  rw [if_neg h14]
  by_cases h15 : x = (nI 15)
  · subst h15; rw [if_pos rfl]; exact R_tabIn (off := 613) d_L_law_32 (by decide) (by decide) (by decide) (by decide)
  rw [if_neg h15]
  by_cases h16 : x = (nI 16)
  · subst h16; rw [if_pos rfl]; exact R_tabIn (off := 637) d_L_law_32 (by decide) (by decide) (by decide) (by decide)
  rw [if_neg h16]
  by_cases h17 : x = (nI 17)
  · subst h17; rw [if_pos rfl]; exact R_tabIn (off := 660) d_L_law_32 (by decide) (by decide) (by decide) (by decide)
  rw [if_neg h17]
  by_cases h18 : x = (nI 18)
  · subst h18; rw [if_pos rfl]; exact R_tabIn (off := 704) d_L_law_32 (by decide) (by decide) (by decide) (by decide)
  rw [if_neg h18]
  by_cases h19 : x = (nI 19)
  · subst h19; rw [if_pos rfl]; exact R_tabIn (off := 758) d_L_law_32 (by decide) (by decide) (by decide) (by decide)
  rw [if_neg h19]
  by_cases h20 : x = (nI 20)
  · subst h20; rw [if_pos rfl]; exact R_tabIn (off := 792) d_L_law_32 (by decide) (by decide) (by decide) (by decide)
  rw [if_neg h20]
  by_cases h21 : x = (nI 21)
  · subst h21; rw [if_pos rfl]; exact R_tabIn (off := 805) d_L_law_32 (by decide) (by decide) (by decide) (by decide)
  rw [if_neg h21]
  by_cases h22 : x = (nI 22)
  · subst h22; rw [if_pos rfl]; exact R_tabIn (off := 849) d_L_law_32 (by decide) (by decide) (by decide) (by decide)
  rw [if_neg h22]
  by_cases h23 : x = (nI 23)
  · subst h23; rw [if_pos rfl]; exact R_tabIn (off := 872) d_L_law_32 (by decide) (by decide) (by decide) (by decide)
  rw [if_neg h23]
  by_cases h24 : x = (nI 24)
  · subst h24; rw [if_pos rfl]; exact R_tabIn (off := 906) d_L_law_32 (by decide) (by decide) (by decide) (by decide)
  rw [if_neg h24]
  by_cases h25 : x = (nI 25)
  · subst h25; rw [if_pos rfl]; exact R_tabIn (off := 919) d_L_law_32 (by decide) (by decide) (by decide) (by decide)
  rw [if_neg h25]
  by_cases h26 : x = (nI 26)
  · subst h26; rw [if_pos rfl]; exact R_tabIn (off := 942) d_L_law_32 (by decide) (by decide) (by decide) (by decide)
  rw [if_neg h26]
  by_cases h27 : x = (nI 27)
  · subst h27; rw [if_pos rfl]; exact R_tabIn (off := 975) d_L_law_32 (by decide) (by decide) (by decide) (by decide)
  rw [if_neg h27]
  by_cases h28 : x = (nI 28)
  · subst h28; rw [if_pos rfl]; exact R_tabIn (off := 1009) d_L_law_32 (by decide) (by decide) (by decide) (by decide)
  rw [if_neg h28]
  by_cases h29 : x = (nI 29)
  · subst h29; rw [if_pos rfl]; exact R_tabIn (off := 1042) d_L_law_32 (by decide) (by decide) (by decide) (by decide)
  rw [if_neg h29]
  by_cases h30 : x = (nI 30)
  · subst h30; rw [if_pos rfl]; exact R_tabIn (off := 1075) d_L_law_32 (by decide) (by decide) (by decide) (by decide)
  rw [if_neg h30]
  by_cases h31 : x = (nI 31)
  · subst h31; rw [if_pos rfl]; exact R_tabIn (off := 1108) d_L_law_32 (by decide) (by decide) (by decide) (by decide)
  rw [if_neg h31]
  by_cases h32 : x = (nI 32)
  · subst h32; rw [if_pos rfl]; exact R_tabIn (off := 1141) d_L_law_32 (by decide) (by decide) (by decide) (by decide)
  rw [if_neg h32]
  by_cases h33 : x = (nI 33)
  · subst h33; rw [if_pos rfl]; exact R_tabIn (off := 1164) d_L_law_32 (by decide) (by decide) (by decide) (by decide)
  rw [if_neg h33]
  by_cases h34 : x = (nI 34)
  · subst h34; rw [if_pos rfl]; exact R_tabIn (off := 1187) d_L_law_32 (by decide) (by decide) (by decide) (by decide)
  rw [if_neg h34]
  by_cases h35 : x = (nI 35)
  · subst h35; rw [if_pos rfl]; exact R_tabIn (off := 1220) d_L_law_32 (by decide) (by decide) (by decide) (by decide)
  rw [if_neg h35]
  by_cases h36 : x = (nI 36)
  · subst h36; rw [if_pos rfl]; exact R_tabIn (off := 1233) d_L_law_32 (by decide) (by decide) (by decide) (by decide)
  rw [if_neg h36]
  by_cases h37 : x = (nI 37)
  · subst h37; rw [if_pos rfl]; exact R_tabIn (off := 1246) d_L_law_32 (by decide) (by decide) (by decide) (by decide)
  rw [if_neg h37]
  by_cases h38 : x = (nI 38)
  · subst h38; rw [if_pos rfl]; exact R_tabIn (off := 1269) d_L_law_32 (by decide) (by decide) (by decide) (by decide)
  rw [if_neg h38]
  by_cases h39 : x = (nI 39)
  · subst h39; rw [if_pos rfl]; exact R_tabIn (off := 1292) d_L_law_32 (by decide) (by decide) (by decide) (by decide)
  rw [if_neg h39]
  refine R_tabOut d_L_law_32 (by decide) ?_ (by decide)
  have e0 : ¬ x.toInt = 0 := lv_neT h0 (by decide)
  have e1 : ¬ x.toInt = 1 := lv_neT h1 (by decide)
  have e2 : ¬ x.toInt = 2 := lv_neT h2 (by decide)
  have e3 : ¬ x.toInt = 3 := lv_neT h3 (by decide)
  have e4 : ¬ x.toInt = 4 := lv_neT h4 (by decide)
  have e5 : ¬ x.toInt = 5 := lv_neT h5 (by decide)
  have e6 : ¬ x.toInt = 6 := lv_neT h6 (by decide)
  have e7 : ¬ x.toInt = 7 := lv_neT h7 (by decide)
  have e8 : ¬ x.toInt = 8 := lv_neT h8 (by decide)
  have e9 : ¬ x.toInt = 9 := lv_neT h9 (by decide)
  have e10 : ¬ x.toInt = 10 := lv_neT h10 (by decide)
  have e11 : ¬ x.toInt = 11 := lv_neT h11 (by decide)
  have e12 : ¬ x.toInt = 12 := lv_neT h12 (by decide)
  have e13 : ¬ x.toInt = 13 := lv_neT h13 (by decide)
  have e14 : ¬ x.toInt = 14 := lv_neT h14 (by decide)
  have e15 : ¬ x.toInt = 15 := lv_neT h15 (by decide)
  have e16 : ¬ x.toInt = 16 := lv_neT h16 (by decide)
  have e17 : ¬ x.toInt = 17 := lv_neT h17 (by decide)
  have e18 : ¬ x.toInt = 18 := lv_neT h18 (by decide)
  have e19 : ¬ x.toInt = 19 := lv_neT h19 (by decide)
  have e20 : ¬ x.toInt = 20 := lv_neT h20 (by decide)
  have e21 : ¬ x.toInt = 21 := lv_neT h21 (by decide)
  have e22 : ¬ x.toInt = 22 := lv_neT h22 (by decide)
  have e23 : ¬ x.toInt = 23 := lv_neT h23 (by decide)
  have e24 : ¬ x.toInt = 24 := lv_neT h24 (by decide)
  have e25 : ¬ x.toInt = 25 := lv_neT h25 (by decide)
  have e26 : ¬ x.toInt = 26 := lv_neT h26 (by decide)
  have e27 : ¬ x.toInt = 27 := lv_neT h27 (by decide)
  have e28 : ¬ x.toInt = 28 := lv_neT h28 (by decide)
  have e29 : ¬ x.toInt = 29 := lv_neT h29 (by decide)
  have e30 : ¬ x.toInt = 30 := lv_neT h30 (by decide)
  have e31 : ¬ x.toInt = 31 := lv_neT h31 (by decide)
  have e32 : ¬ x.toInt = 32 := lv_neT h32 (by decide)
  have e33 : ¬ x.toInt = 33 := lv_neT h33 (by decide)
  have e34 : ¬ x.toInt = 34 := lv_neT h34 (by decide)
  have e35 : ¬ x.toInt = 35 := lv_neT h35 (by decide)
  have e36 : ¬ x.toInt = 36 := lv_neT h36 (by decide)
  have e37 : ¬ x.toInt = 37 := lv_neT h37 (by decide)
  have e38 : ¬ x.toInt = 38 := lv_neT h38 (by decide)
  have e39 : ¬ x.toInt = 39 := lv_neT h39 (by decide)
  omega
theorem d_L_law_208 : decode (mB M_L_law) 208 = .ok (.aload_n 1, 1) := by decide +kernel
theorem r_L_law_208 {x0 x2 x3 : Value} {a : Nat} {st : List Value} {h : AH} : Run M_L_law 208 [x0, .ref a, x2, x3] st h = Run M_L_law 209 [x0, .ref a, x2, x3] (.ref a :: st) h := R_aload_n d_L_law_208 rfl
theorem d_L_law_209 : decode (mB M_L_law) 209 = .ok (.aload_n 0, 1) := by decide +kernel
theorem r_L_law_209 {x1 x2 x3 : Value} {a : Nat} {st : List Value} {h : AH} : Run M_L_law 209 [.ref a, x1, x2, x3] st h = Run M_L_law 210 [.ref a, x1, x2, x3] (.ref a :: st) h := R_aload_n d_L_law_209 rfl
theorem d_L_law_210 : decode (mB M_L_law) 210 = .ok (.iload_n 3, 1) := by decide +kernel
theorem r_L_law_210 {x0 x1 x2 : Value} {a : Int32} {st : List Value} {h : AH} : Run M_L_law 210 [x0, x1, x2, .int a] st h = Run M_L_law 211 [x0, x1, x2, .int a] (.int a :: st) h := R_iload_n d_L_law_210 rfl
theorem d_L_law_211 : decode (mB M_L_law) 211 = .ok (.iconst 1, 1) := by decide +kernel
theorem r_L_law_211 {x0 x1 x2 x3 : Value} {st : List Value} {h : AH} : Run M_L_law 211 [x0, x1, x2, x3] st h = Run M_L_law 212 [x0, x1, x2, x3] (.int (nI 1) :: st) h := R_iconst d_L_law_211 (by decide)
theorem d_L_law_212 : decode (mB M_L_law) 212 = .ok (.iadd, 1) := by decide +kernel
theorem r_L_law_212 {x0 x1 x2 x3 : Value} {x y : Int32} {st : List Value} {h : AH} : Run M_L_law 212 [x0, x1, x2, x3] (.int y :: .int x :: st) h = Run M_L_law 213 [x0, x1, x2, x3] (.int (x + y) :: st) h := R_iadd d_L_law_212
theorem d_L_law_213 : decode (mB M_L_law) 213 = .ok (.iaload, 1) := by decide +kernel
theorem r_L_law_213 {x0 x1 x2 x3 : Value} {a : Nat} {i : Int32} {st : List Value} {h : AH} : Run M_L_law 213 [x0, x1, x2, x3] (.int i :: .ref a :: st) h = if (gI 0 h a i).isSome = true then Run M_L_law 214 [x0, x1, x2, x3] (.int ((gI 0 h a i).getD 0) :: st) h else none := R_iaload d_L_law_213
theorem d_L_law_214 : decode (mB M_L_law) 214 = .ok (.invokevirtual 13, 3) := by decide +kernel
theorem r_L_law_214 {x0 x1 x2 x3 : Value} {p0 : Int32} {a : Nat} {h : AH} : Run M_L_law 214 [x0, x1, x2, x3] (.int p0 :: .ref a :: []) h = if refO h 8 (some (.ref a)) = true then (if (Call M_X8_feed h [.ref a, .int p0]).isSome = true then Run M_L_law 217 [x0, x1, x2, x3] (rL (Call M_X8_feed h [.ref a, .int p0]) ++ []) (cH (Call M_X8_feed h [.ref a, .int p0])) else none) else none := R_virt d_L_law_214 rfl rfl rfl rfl rfl (Nat.le_of_ble_eq_true rfl)
theorem d_L_law_217 : decode (mB M_L_law) 217 = .ok (.aload_n 2, 1) := by decide +kernel
theorem r_L_law_217 {x0 x1 x3 : Value} {a : Nat} {st : List Value} {h : AH} : Run M_L_law 217 [x0, x1, .ref a, x3] st h = Run M_L_law 218 [x0, x1, .ref a, x3] (.ref a :: st) h := R_aload_n d_L_law_217 rfl
theorem d_L_law_218 : decode (mB M_L_law) 218 = .ok (.aload_n 0, 1) := by decide +kernel
theorem r_L_law_218 {x1 x2 x3 : Value} {a : Nat} {st : List Value} {h : AH} : Run M_L_law 218 [.ref a, x1, x2, x3] st h = Run M_L_law 219 [.ref a, x1, x2, x3] (.ref a :: st) h := R_aload_n d_L_law_218 rfl
theorem d_L_law_219 : decode (mB M_L_law) 219 = .ok (.iload_n 3, 1) := by decide +kernel
theorem r_L_law_219 {x0 x1 x2 : Value} {a : Int32} {st : List Value} {h : AH} : Run M_L_law 219 [x0, x1, x2, .int a] st h = Run M_L_law 220 [x0, x1, x2, .int a] (.int a :: st) h := R_iload_n d_L_law_219 rfl
theorem d_L_law_220 : decode (mB M_L_law) 220 = .ok (.iconst 1, 1) := by decide +kernel
theorem r_L_law_220 {x0 x1 x2 x3 : Value} {st : List Value} {h : AH} : Run M_L_law 220 [x0, x1, x2, x3] st h = Run M_L_law 221 [x0, x1, x2, x3] (.int (nI 1) :: st) h := R_iconst d_L_law_220 (by decide)
theorem d_L_law_221 : decode (mB M_L_law) 221 = .ok (.iadd, 1) := by decide +kernel
theorem r_L_law_221 {x0 x1 x2 x3 : Value} {x y : Int32} {st : List Value} {h : AH} : Run M_L_law 221 [x0, x1, x2, x3] (.int y :: .int x :: st) h = Run M_L_law 222 [x0, x1, x2, x3] (.int (x + y) :: st) h := R_iadd d_L_law_221
theorem d_L_law_222 : decode (mB M_L_law) 222 = .ok (.iaload, 1) := by decide +kernel
theorem r_L_law_222 {x0 x1 x2 x3 : Value} {a : Nat} {i : Int32} {st : List Value} {h : AH} : Run M_L_law 222 [x0, x1, x2, x3] (.int i :: .ref a :: st) h = if (gI 0 h a i).isSome = true then Run M_L_law 223 [x0, x1, x2, x3] (.int ((gI 0 h a i).getD 0) :: st) h else none := R_iaload d_L_law_222
theorem d_L_law_223 : decode (mB M_L_law) 223 = .ok (.invokevirtual 17, 3) := by decide +kernel
theorem r_L_law_223 {x0 x1 x2 x3 : Value} {p0 : Int32} {a : Nat} {w0 : Value} {h : AH} : Run M_L_law 223 [x0, x1, x2, x3] (.int p0 :: .ref a :: [w0]) h = if refO h 9 (some (.ref a)) = true then (if (Call M_X9_feed h [.ref a, .int p0]).isSome = true then Run M_L_law 226 [x0, x1, x2, x3] (rL (Call M_X9_feed h [.ref a, .int p0]) ++ [w0]) (cH (Call M_X9_feed h [.ref a, .int p0])) else none) else none := R_virt d_L_law_223 rfl rfl rfl rfl rfl (Nat.le_of_ble_eq_true rfl)
theorem d_L_law_226 : decode (mB M_L_law) 226 = .ok (.if_icmp .eq 1121, 3) := by decide +kernel
theorem r_L_law_226 {x0 x1 x2 x3 : Value} {x y : Int32} {st : List Value} {h : AH} : Run M_L_law 226 [x0, x1, x2, x3] (.int y :: .int x :: st) h = if x = y then Run M_L_law 1347 [x0, x1, x2, x3] st h else Run M_L_law 229 [x0, x1, x2, x3] st h := R_icmp_eq d_L_law_226 (by decide)
theorem d_L_law_229 : decode (mB M_L_law) 229 = .ok (.iconst 0, 1) := by decide +kernel
theorem r_L_law_229 {x0 x1 x2 x3 : Value} {st : List Value} {h : AH} : Run M_L_law 229 [x0, x1, x2, x3] st h = Run M_L_law 230 [x0, x1, x2, x3] (.int (nI 0) :: st) h := R_iconst d_L_law_229 (by decide)
theorem d_L_law_230 : decode (mB M_L_law) 230 = .ok (.ireturn, 1) := by decide +kernel
theorem r_L_law_230_0 {x0 x1 x2 x3 : Value} {h : AH} : Run M_L_law 230 [x0, x1, x2, x3] [.int (nI 0)] h = some (h, some (.int (nI 0))) := R_ireturn d_L_law_230 rfl (by decide)
theorem r_L_law_230_1 {x0 x1 x2 x3 : Value} {h : AH} : Run M_L_law 230 [x0, x1, x2, x3] [.int (nI 1)] h = some (h, some (.int (nI 1))) := R_ireturn d_L_law_230 rfl (by decide)
theorem r_L_law_230_c {x0 x1 x2 x3 : Value} {c : Prop} [Decidable c] {h : AH} : Run M_L_law 230 [x0, x1, x2, x3] [.int (bI c)] h = some (h, some (.int (bI c))) := R_ireturn d_L_law_230 rfl narrow_bI
theorem d_L_law_231 : decode (mB M_L_law) 231 = .ok (.aload_n 1, 1) := by decide +kernel
theorem r_L_law_231 {x0 x2 x3 : Value} {a : Nat} {st : List Value} {h : AH} : Run M_L_law 231 [x0, .ref a, x2, x3] st h = Run M_L_law 232 [x0, .ref a, x2, x3] (.ref a :: st) h := R_aload_n d_L_law_231 rfl
theorem d_L_law_232 : decode (mB M_L_law) 232 = .ok (.invokevirtual 18, 3) := by decide +kernel
theorem r_L_law_232 {x0 x1 x2 x3 : Value} {a : Nat} {h : AH} : Run M_L_law 232 [x0, x1, x2, x3] (.ref a :: []) h = if refO h 8 (some (.ref a)) = true then (if (Call M_X8_hall h [.ref a]).isSome = true then Run M_L_law 235 [x0, x1, x2, x3] (rL (Call M_X8_hall h [.ref a]) ++ []) (cH (Call M_X8_hall h [.ref a])) else none) else none := R_virt d_L_law_232 rfl rfl rfl rfl rfl (Nat.le_of_ble_eq_true rfl)
theorem d_L_law_235 : decode (mB M_L_law) 235 = .ok (.aload_n 2, 1) := by decide +kernel
theorem r_L_law_235 {x0 x1 x3 : Value} {a : Nat} {st : List Value} {h : AH} : Run M_L_law 235 [x0, x1, .ref a, x3] st h = Run M_L_law 236 [x0, x1, .ref a, x3] (.ref a :: st) h := R_aload_n d_L_law_235 rfl
theorem d_L_law_236 : decode (mB M_L_law) 236 = .ok (.invokevirtual 22, 3) := by decide +kernel
theorem r_L_law_236 {x0 x1 x2 x3 : Value} {a : Nat} {w0 : Value} {h : AH} : Run M_L_law 236 [x0, x1, x2, x3] (.ref a :: [w0]) h = if refO h 9 (some (.ref a)) = true then (if (Call M_X9_hall h [.ref a]).isSome = true then Run M_L_law 239 [x0, x1, x2, x3] (rL (Call M_X9_hall h [.ref a]) ++ [w0]) (cH (Call M_X9_hall h [.ref a])) else none) else none := R_virt d_L_law_236 rfl rfl rfl rfl rfl (Nat.le_of_ble_eq_true rfl)
theorem d_L_law_239 : decode (mB M_L_law) 239 = .ok (.if_icmp .eq 1108, 3) := by decide +kernel
theorem r_L_law_239 {x0 x1 x2 x3 : Value} {x y : Int32} {st : List Value} {h : AH} : Run M_L_law 239 [x0, x1, x2, x3] (.int y :: .int x :: st) h = if x = y then Run M_L_law 1347 [x0, x1, x2, x3] st h else Run M_L_law 242 [x0, x1, x2, x3] st h := R_icmp_eq d_L_law_239 (by decide)
theorem d_L_law_242 : decode (mB M_L_law) 242 = .ok (.iconst 0, 1) := by decide +kernel
theorem r_L_law_242 {x0 x1 x2 x3 : Value} {st : List Value} {h : AH} : Run M_L_law 242 [x0, x1, x2, x3] st h = Run M_L_law 243 [x0, x1, x2, x3] (.int (nI 0) :: st) h := R_iconst d_L_law_242 (by decide)
theorem d_L_law_243 : decode (mB M_L_law) 243 = .ok (.ireturn, 1) := by decide +kernel
theorem r_L_law_243_0 {x0 x1 x2 x3 : Value} {h : AH} : Run M_L_law 243 [x0, x1, x2, x3] [.int (nI 0)] h = some (h, some (.int (nI 0))) := R_ireturn d_L_law_243 rfl (by decide)
theorem r_L_law_243_1 {x0 x1 x2 x3 : Value} {h : AH} : Run M_L_law 243 [x0, x1, x2, x3] [.int (nI 1)] h = some (h, some (.int (nI 1))) := R_ireturn d_L_law_243 rfl (by decide)
theorem r_L_law_243_c {x0 x1 x2 x3 : Value} {c : Prop} [Decidable c] {h : AH} : Run M_L_law 243 [x0, x1, x2, x3] [.int (bI c)] h = some (h, some (.int (bI c))) := R_ireturn d_L_law_243 rfl narrow_bI
theorem d_L_law_244 : decode (mB M_L_law) 244 = .ok (.aload_n 1, 1) := by decide +kernel
theorem r_L_law_244 {x0 x2 x3 : Value} {a : Nat} {st : List Value} {h : AH} : Run M_L_law 244 [x0, .ref a, x2, x3] st h = Run M_L_law 245 [x0, .ref a, x2, x3] (.ref a :: st) h := R_aload_n d_L_law_244 rfl
theorem d_L_law_245 : decode (mB M_L_law) 245 = .ok (.invokevirtual 23, 3) := by decide +kernel
theorem r_L_law_245 {x0 x1 x2 x3 : Value} {a : Nat} {h : AH} : Run M_L_law 245 [x0, x1, x2, x3] (.ref a :: []) h = if refO h 8 (some (.ref a)) = true then (if (Call M_X8_fault h [.ref a]).isSome = true then Run M_L_law 248 [x0, x1, x2, x3] (rL (Call M_X8_fault h [.ref a]) ++ []) (cH (Call M_X8_fault h [.ref a])) else none) else none := R_virt d_L_law_245 rfl rfl rfl rfl rfl (Nat.le_of_ble_eq_true rfl)
theorem d_L_law_248 : decode (mB M_L_law) 248 = .ok (.aload_n 2, 1) := by decide +kernel
theorem r_L_law_248 {x0 x1 x3 : Value} {a : Nat} {st : List Value} {h : AH} : Run M_L_law 248 [x0, x1, .ref a, x3] st h = Run M_L_law 249 [x0, x1, .ref a, x3] (.ref a :: st) h := R_aload_n d_L_law_248 rfl
theorem d_L_law_249 : decode (mB M_L_law) 249 = .ok (.invokevirtual 26, 3) := by decide +kernel
theorem r_L_law_249 {x0 x1 x2 x3 : Value} {a : Nat} {w0 : Value} {h : AH} : Run M_L_law 249 [x0, x1, x2, x3] (.ref a :: [w0]) h = if refO h 9 (some (.ref a)) = true then (if (Call M_X9_fault h [.ref a]).isSome = true then Run M_L_law 252 [x0, x1, x2, x3] (rL (Call M_X9_fault h [.ref a]) ++ [w0]) (cH (Call M_X9_fault h [.ref a])) else none) else none := R_virt d_L_law_249 rfl rfl rfl rfl rfl (Nat.le_of_ble_eq_true rfl)
theorem d_L_law_252 : decode (mB M_L_law) 252 = .ok (.if_icmp .eq 1095, 3) := by decide +kernel
theorem r_L_law_252 {x0 x1 x2 x3 : Value} {x y : Int32} {st : List Value} {h : AH} : Run M_L_law 252 [x0, x1, x2, x3] (.int y :: .int x :: st) h = if x = y then Run M_L_law 1347 [x0, x1, x2, x3] st h else Run M_L_law 255 [x0, x1, x2, x3] st h := R_icmp_eq d_L_law_252 (by decide)
theorem d_L_law_255 : decode (mB M_L_law) 255 = .ok (.iconst 0, 1) := by decide +kernel
theorem r_L_law_255 {x0 x1 x2 x3 : Value} {st : List Value} {h : AH} : Run M_L_law 255 [x0, x1, x2, x3] st h = Run M_L_law 256 [x0, x1, x2, x3] (.int (nI 0) :: st) h := R_iconst d_L_law_255 (by decide)
theorem d_L_law_256 : decode (mB M_L_law) 256 = .ok (.ireturn, 1) := by decide +kernel
theorem r_L_law_256_0 {x0 x1 x2 x3 : Value} {h : AH} : Run M_L_law 256 [x0, x1, x2, x3] [.int (nI 0)] h = some (h, some (.int (nI 0))) := R_ireturn d_L_law_256 rfl (by decide)
theorem r_L_law_256_1 {x0 x1 x2 x3 : Value} {h : AH} : Run M_L_law 256 [x0, x1, x2, x3] [.int (nI 1)] h = some (h, some (.int (nI 1))) := R_ireturn d_L_law_256 rfl (by decide)
theorem r_L_law_256_c {x0 x1 x2 x3 : Value} {c : Prop} [Decidable c] {h : AH} : Run M_L_law 256 [x0, x1, x2, x3] [.int (bI c)] h = some (h, some (.int (bI c))) := R_ireturn d_L_law_256 rfl narrow_bI
theorem d_L_law_257 : decode (mB M_L_law) 257 = .ok (.aload_n 1, 1) := by decide +kernel
theorem r_L_law_257 {x0 x2 x3 : Value} {a : Nat} {st : List Value} {h : AH} : Run M_L_law 257 [x0, .ref a, x2, x3] st h = Run M_L_law 258 [x0, .ref a, x2, x3] (.ref a :: st) h := R_aload_n d_L_law_257 rfl
theorem d_L_law_258 : decode (mB M_L_law) 258 = .ok (.aload_n 0, 1) := by decide +kernel
theorem r_L_law_258 {x1 x2 x3 : Value} {a : Nat} {st : List Value} {h : AH} : Run M_L_law 258 [.ref a, x1, x2, x3] st h = Run M_L_law 259 [.ref a, x1, x2, x3] (.ref a :: st) h := R_aload_n d_L_law_258 rfl
theorem d_L_law_259 : decode (mB M_L_law) 259 = .ok (.iload_n 3, 1) := by decide +kernel
theorem r_L_law_259 {x0 x1 x2 : Value} {a : Int32} {st : List Value} {h : AH} : Run M_L_law 259 [x0, x1, x2, .int a] st h = Run M_L_law 260 [x0, x1, x2, .int a] (.int a :: st) h := R_iload_n d_L_law_259 rfl
theorem d_L_law_260 : decode (mB M_L_law) 260 = .ok (.iconst 1, 1) := by decide +kernel
theorem r_L_law_260 {x0 x1 x2 x3 : Value} {st : List Value} {h : AH} : Run M_L_law 260 [x0, x1, x2, x3] st h = Run M_L_law 261 [x0, x1, x2, x3] (.int (nI 1) :: st) h := R_iconst d_L_law_260 (by decide)
theorem d_L_law_261 : decode (mB M_L_law) 261 = .ok (.iadd, 1) := by decide +kernel
theorem r_L_law_261 {x0 x1 x2 x3 : Value} {x y : Int32} {st : List Value} {h : AH} : Run M_L_law 261 [x0, x1, x2, x3] (.int y :: .int x :: st) h = Run M_L_law 262 [x0, x1, x2, x3] (.int (x + y) :: st) h := R_iadd d_L_law_261
theorem d_L_law_262 : decode (mB M_L_law) 262 = .ok (.iaload, 1) := by decide +kernel
theorem r_L_law_262 {x0 x1 x2 x3 : Value} {a : Nat} {i : Int32} {st : List Value} {h : AH} : Run M_L_law 262 [x0, x1, x2, x3] (.int i :: .ref a :: st) h = if (gI 0 h a i).isSome = true then Run M_L_law 263 [x0, x1, x2, x3] (.int ((gI 0 h a i).getD 0) :: st) h else none := R_iaload d_L_law_262
theorem d_L_law_263 : decode (mB M_L_law) 263 = .ok (.invokevirtual 27, 3) := by decide +kernel
theorem r_L_law_263 {x0 x1 x2 x3 : Value} {p0 : Int32} {a : Nat} {h : AH} : Run M_L_law 263 [x0, x1, x2, x3] (.int p0 :: .ref a :: []) h = if refO h 8 (some (.ref a)) = true then (if (Call M_X8_told h [.ref a, .int p0]).isSome = true then Run M_L_law 266 [x0, x1, x2, x3] (rL (Call M_X8_told h [.ref a, .int p0]) ++ []) (cH (Call M_X8_told h [.ref a, .int p0])) else none) else none := R_virt d_L_law_263 rfl rfl rfl rfl rfl (Nat.le_of_ble_eq_true rfl)
theorem d_L_law_266 : decode (mB M_L_law) 266 = .ok (.aload_n 2, 1) := by decide +kernel
theorem r_L_law_266 {x0 x1 x3 : Value} {a : Nat} {st : List Value} {h : AH} : Run M_L_law 266 [x0, x1, .ref a, x3] st h = Run M_L_law 267 [x0, x1, .ref a, x3] (.ref a :: st) h := R_aload_n d_L_law_266 rfl
theorem d_L_law_267 : decode (mB M_L_law) 267 = .ok (.aload_n 0, 1) := by decide +kernel
theorem r_L_law_267 {x1 x2 x3 : Value} {a : Nat} {st : List Value} {h : AH} : Run M_L_law 267 [.ref a, x1, x2, x3] st h = Run M_L_law 268 [.ref a, x1, x2, x3] (.ref a :: st) h := R_aload_n d_L_law_267 rfl
theorem d_L_law_268 : decode (mB M_L_law) 268 = .ok (.iload_n 3, 1) := by decide +kernel
theorem r_L_law_268 {x0 x1 x2 : Value} {a : Int32} {st : List Value} {h : AH} : Run M_L_law 268 [x0, x1, x2, .int a] st h = Run M_L_law 269 [x0, x1, x2, .int a] (.int a :: st) h := R_iload_n d_L_law_268 rfl
theorem d_L_law_269 : decode (mB M_L_law) 269 = .ok (.iconst 1, 1) := by decide +kernel
theorem r_L_law_269 {x0 x1 x2 x3 : Value} {st : List Value} {h : AH} : Run M_L_law 269 [x0, x1, x2, x3] st h = Run M_L_law 270 [x0, x1, x2, x3] (.int (nI 1) :: st) h := R_iconst d_L_law_269 (by decide)
theorem d_L_law_270 : decode (mB M_L_law) 270 = .ok (.iadd, 1) := by decide +kernel
theorem r_L_law_270 {x0 x1 x2 x3 : Value} {x y : Int32} {st : List Value} {h : AH} : Run M_L_law 270 [x0, x1, x2, x3] (.int y :: .int x :: st) h = Run M_L_law 271 [x0, x1, x2, x3] (.int (x + y) :: st) h := R_iadd d_L_law_270
theorem d_L_law_271 : decode (mB M_L_law) 271 = .ok (.iaload, 1) := by decide +kernel
theorem r_L_law_271 {x0 x1 x2 x3 : Value} {a : Nat} {i : Int32} {st : List Value} {h : AH} : Run M_L_law 271 [x0, x1, x2, x3] (.int i :: .ref a :: st) h = if (gI 0 h a i).isSome = true then Run M_L_law 272 [x0, x1, x2, x3] (.int ((gI 0 h a i).getD 0) :: st) h else none := R_iaload d_L_law_271
theorem d_L_law_272 : decode (mB M_L_law) 272 = .ok (.invokevirtual 30, 3) := by decide +kernel
theorem r_L_law_272 {x0 x1 x2 x3 : Value} {p0 : Int32} {a : Nat} {w0 : Value} {h : AH} : Run M_L_law 272 [x0, x1, x2, x3] (.int p0 :: .ref a :: [w0]) h = if refO h 9 (some (.ref a)) = true then (if (Call M_X9_told h [.ref a, .int p0]).isSome = true then Run M_L_law 275 [x0, x1, x2, x3] (rL (Call M_X9_told h [.ref a, .int p0]) ++ [w0]) (cH (Call M_X9_told h [.ref a, .int p0])) else none) else none := R_virt d_L_law_272 rfl rfl rfl rfl rfl (Nat.le_of_ble_eq_true rfl)
theorem d_L_law_275 : decode (mB M_L_law) 275 = .ok (.if_icmp .eq 1072, 3) := by decide +kernel
theorem r_L_law_275 {x0 x1 x2 x3 : Value} {x y : Int32} {st : List Value} {h : AH} : Run M_L_law 275 [x0, x1, x2, x3] (.int y :: .int x :: st) h = if x = y then Run M_L_law 1347 [x0, x1, x2, x3] st h else Run M_L_law 278 [x0, x1, x2, x3] st h := R_icmp_eq d_L_law_275 (by decide)
theorem d_L_law_278 : decode (mB M_L_law) 278 = .ok (.iconst 0, 1) := by decide +kernel
theorem r_L_law_278 {x0 x1 x2 x3 : Value} {st : List Value} {h : AH} : Run M_L_law 278 [x0, x1, x2, x3] st h = Run M_L_law 279 [x0, x1, x2, x3] (.int (nI 0) :: st) h := R_iconst d_L_law_278 (by decide)
theorem d_L_law_279 : decode (mB M_L_law) 279 = .ok (.ireturn, 1) := by decide +kernel
theorem r_L_law_279_0 {x0 x1 x2 x3 : Value} {h : AH} : Run M_L_law 279 [x0, x1, x2, x3] [.int (nI 0)] h = some (h, some (.int (nI 0))) := R_ireturn d_L_law_279 rfl (by decide)
theorem r_L_law_279_1 {x0 x1 x2 x3 : Value} {h : AH} : Run M_L_law 279 [x0, x1, x2, x3] [.int (nI 1)] h = some (h, some (.int (nI 1))) := R_ireturn d_L_law_279 rfl (by decide)
theorem r_L_law_279_c {x0 x1 x2 x3 : Value} {c : Prop} [Decidable c] {h : AH} : Run M_L_law 279 [x0, x1, x2, x3] [.int (bI c)] h = some (h, some (.int (bI c))) := R_ireturn d_L_law_279 rfl narrow_bI
theorem d_L_law_280 : decode (mB M_L_law) 280 = .ok (.aload_n 1, 1) := by decide +kernel
theorem r_L_law_280 {x0 x2 x3 : Value} {a : Nat} {st : List Value} {h : AH} : Run M_L_law 280 [x0, .ref a, x2, x3] st h = Run M_L_law 281 [x0, .ref a, x2, x3] (.ref a :: st) h := R_aload_n d_L_law_280 rfl
theorem d_L_law_281 : decode (mB M_L_law) 281 = .ok (.aload_n 0, 1) := by decide +kernel
theorem r_L_law_281 {x1 x2 x3 : Value} {a : Nat} {st : List Value} {h : AH} : Run M_L_law 281 [.ref a, x1, x2, x3] st h = Run M_L_law 282 [.ref a, x1, x2, x3] (.ref a :: st) h := R_aload_n d_L_law_281 rfl
theorem d_L_law_282 : decode (mB M_L_law) 282 = .ok (.iload_n 3, 1) := by decide +kernel
theorem r_L_law_282 {x0 x1 x2 : Value} {a : Int32} {st : List Value} {h : AH} : Run M_L_law 282 [x0, x1, x2, .int a] st h = Run M_L_law 283 [x0, x1, x2, .int a] (.int a :: st) h := R_iload_n d_L_law_282 rfl
theorem d_L_law_283 : decode (mB M_L_law) 283 = .ok (.iconst 1, 1) := by decide +kernel
theorem r_L_law_283 {x0 x1 x2 x3 : Value} {st : List Value} {h : AH} : Run M_L_law 283 [x0, x1, x2, x3] st h = Run M_L_law 284 [x0, x1, x2, x3] (.int (nI 1) :: st) h := R_iconst d_L_law_283 (by decide)
theorem d_L_law_284 : decode (mB M_L_law) 284 = .ok (.iadd, 1) := by decide +kernel
theorem r_L_law_284 {x0 x1 x2 x3 : Value} {x y : Int32} {st : List Value} {h : AH} : Run M_L_law 284 [x0, x1, x2, x3] (.int y :: .int x :: st) h = Run M_L_law 285 [x0, x1, x2, x3] (.int (x + y) :: st) h := R_iadd d_L_law_284
theorem d_L_law_285 : decode (mB M_L_law) 285 = .ok (.iaload, 1) := by decide +kernel
theorem r_L_law_285 {x0 x1 x2 x3 : Value} {a : Nat} {i : Int32} {st : List Value} {h : AH} : Run M_L_law 285 [x0, x1, x2, x3] (.int i :: .ref a :: st) h = if (gI 0 h a i).isSome = true then Run M_L_law 286 [x0, x1, x2, x3] (.int ((gI 0 h a i).getD 0) :: st) h else none := R_iaload d_L_law_285
theorem d_L_law_286 : decode (mB M_L_law) 286 = .ok (.aload_n 0, 1) := by decide +kernel
theorem r_L_law_286 {x1 x2 x3 : Value} {a : Nat} {st : List Value} {h : AH} : Run M_L_law 286 [.ref a, x1, x2, x3] st h = Run M_L_law 287 [.ref a, x1, x2, x3] (.ref a :: st) h := R_aload_n d_L_law_286 rfl
theorem d_L_law_287 : decode (mB M_L_law) 287 = .ok (.iload_n 3, 1) := by decide +kernel
theorem r_L_law_287 {x0 x1 x2 : Value} {a : Int32} {st : List Value} {h : AH} : Run M_L_law 287 [x0, x1, x2, .int a] st h = Run M_L_law 288 [x0, x1, x2, .int a] (.int a :: st) h := R_iload_n d_L_law_287 rfl
theorem d_L_law_288 : decode (mB M_L_law) 288 = .ok (.iconst 2, 1) := by decide +kernel
theorem r_L_law_288 {x0 x1 x2 x3 : Value} {st : List Value} {h : AH} : Run M_L_law 288 [x0, x1, x2, x3] st h = Run M_L_law 289 [x0, x1, x2, x3] (.int (nI 2) :: st) h := R_iconst d_L_law_288 (by decide)
theorem d_L_law_289 : decode (mB M_L_law) 289 = .ok (.iadd, 1) := by decide +kernel
theorem r_L_law_289 {x0 x1 x2 x3 : Value} {x y : Int32} {st : List Value} {h : AH} : Run M_L_law 289 [x0, x1, x2, x3] (.int y :: .int x :: st) h = Run M_L_law 290 [x0, x1, x2, x3] (.int (x + y) :: st) h := R_iadd d_L_law_289
theorem d_L_law_290 : decode (mB M_L_law) 290 = .ok (.iaload, 1) := by decide +kernel
theorem r_L_law_290 {x0 x1 x2 x3 : Value} {a : Nat} {i : Int32} {st : List Value} {h : AH} : Run M_L_law 290 [x0, x1, x2, x3] (.int i :: .ref a :: st) h = if (gI 0 h a i).isSome = true then Run M_L_law 291 [x0, x1, x2, x3] (.int ((gI 0 h a i).getD 0) :: st) h else none := R_iaload d_L_law_290
theorem d_L_law_291 : decode (mB M_L_law) 291 = .ok (.invokevirtual 31, 3) := by decide +kernel
theorem r_L_law_291 {x0 x1 x2 x3 : Value} {p0 : Int32} {p1 : Int32} {a : Nat} {h : AH} : Run M_L_law 291 [x0, x1, x2, x3] (.int p1 :: .int p0 :: .ref a :: []) h = if refO h 8 (some (.ref a)) = true then (if (Call M_X8_part h [.ref a, .int p0, .int p1]).isSome = true then Run M_L_law 294 [x0, x1, x2, x3] (rL (Call M_X8_part h [.ref a, .int p0, .int p1]) ++ []) (cH (Call M_X8_part h [.ref a, .int p0, .int p1])) else none) else none := R_virt d_L_law_291 rfl rfl rfl rfl rfl (Nat.le_of_ble_eq_true rfl)
theorem d_L_law_294 : decode (mB M_L_law) 294 = .ok (.aload_n 2, 1) := by decide +kernel
theorem r_L_law_294 {x0 x1 x3 : Value} {a : Nat} {st : List Value} {h : AH} : Run M_L_law 294 [x0, x1, .ref a, x3] st h = Run M_L_law 295 [x0, x1, .ref a, x3] (.ref a :: st) h := R_aload_n d_L_law_294 rfl
theorem d_L_law_295 : decode (mB M_L_law) 295 = .ok (.aload_n 0, 1) := by decide +kernel
theorem r_L_law_295 {x1 x2 x3 : Value} {a : Nat} {st : List Value} {h : AH} : Run M_L_law 295 [.ref a, x1, x2, x3] st h = Run M_L_law 296 [.ref a, x1, x2, x3] (.ref a :: st) h := R_aload_n d_L_law_295 rfl
theorem d_L_law_296 : decode (mB M_L_law) 296 = .ok (.iload_n 3, 1) := by decide +kernel
theorem r_L_law_296 {x0 x1 x2 : Value} {a : Int32} {st : List Value} {h : AH} : Run M_L_law 296 [x0, x1, x2, .int a] st h = Run M_L_law 297 [x0, x1, x2, .int a] (.int a :: st) h := R_iload_n d_L_law_296 rfl
theorem d_L_law_297 : decode (mB M_L_law) 297 = .ok (.iconst 1, 1) := by decide +kernel
theorem r_L_law_297 {x0 x1 x2 x3 : Value} {st : List Value} {h : AH} : Run M_L_law 297 [x0, x1, x2, x3] st h = Run M_L_law 298 [x0, x1, x2, x3] (.int (nI 1) :: st) h := R_iconst d_L_law_297 (by decide)
theorem d_L_law_298 : decode (mB M_L_law) 298 = .ok (.iadd, 1) := by decide +kernel
theorem r_L_law_298 {x0 x1 x2 x3 : Value} {x y : Int32} {st : List Value} {h : AH} : Run M_L_law 298 [x0, x1, x2, x3] (.int y :: .int x :: st) h = Run M_L_law 299 [x0, x1, x2, x3] (.int (x + y) :: st) h := R_iadd d_L_law_298
theorem d_L_law_299 : decode (mB M_L_law) 299 = .ok (.iaload, 1) := by decide +kernel
theorem r_L_law_299 {x0 x1 x2 x3 : Value} {a : Nat} {i : Int32} {st : List Value} {h : AH} : Run M_L_law 299 [x0, x1, x2, x3] (.int i :: .ref a :: st) h = if (gI 0 h a i).isSome = true then Run M_L_law 300 [x0, x1, x2, x3] (.int ((gI 0 h a i).getD 0) :: st) h else none := R_iaload d_L_law_299
theorem d_L_law_300 : decode (mB M_L_law) 300 = .ok (.aload_n 0, 1) := by decide +kernel
theorem r_L_law_300 {x1 x2 x3 : Value} {a : Nat} {st : List Value} {h : AH} : Run M_L_law 300 [.ref a, x1, x2, x3] st h = Run M_L_law 301 [.ref a, x1, x2, x3] (.ref a :: st) h := R_aload_n d_L_law_300 rfl
theorem d_L_law_301 : decode (mB M_L_law) 301 = .ok (.iload_n 3, 1) := by decide +kernel
theorem r_L_law_301 {x0 x1 x2 : Value} {a : Int32} {st : List Value} {h : AH} : Run M_L_law 301 [x0, x1, x2, .int a] st h = Run M_L_law 302 [x0, x1, x2, .int a] (.int a :: st) h := R_iload_n d_L_law_301 rfl
theorem d_L_law_302 : decode (mB M_L_law) 302 = .ok (.iconst 2, 1) := by decide +kernel
theorem r_L_law_302 {x0 x1 x2 x3 : Value} {st : List Value} {h : AH} : Run M_L_law 302 [x0, x1, x2, x3] st h = Run M_L_law 303 [x0, x1, x2, x3] (.int (nI 2) :: st) h := R_iconst d_L_law_302 (by decide)
theorem d_L_law_303 : decode (mB M_L_law) 303 = .ok (.iadd, 1) := by decide +kernel
theorem r_L_law_303 {x0 x1 x2 x3 : Value} {x y : Int32} {st : List Value} {h : AH} : Run M_L_law 303 [x0, x1, x2, x3] (.int y :: .int x :: st) h = Run M_L_law 304 [x0, x1, x2, x3] (.int (x + y) :: st) h := R_iadd d_L_law_303
theorem d_L_law_304 : decode (mB M_L_law) 304 = .ok (.iaload, 1) := by decide +kernel
theorem r_L_law_304 {x0 x1 x2 x3 : Value} {a : Nat} {i : Int32} {st : List Value} {h : AH} : Run M_L_law 304 [x0, x1, x2, x3] (.int i :: .ref a :: st) h = if (gI 0 h a i).isSome = true then Run M_L_law 305 [x0, x1, x2, x3] (.int ((gI 0 h a i).getD 0) :: st) h else none := R_iaload d_L_law_304
theorem d_L_law_305 : decode (mB M_L_law) 305 = .ok (.invokevirtual 35, 3) := by decide +kernel
theorem r_L_law_305 {x0 x1 x2 x3 : Value} {p0 : Int32} {p1 : Int32} {a : Nat} {w0 : Value} {h : AH} : Run M_L_law 305 [x0, x1, x2, x3] (.int p1 :: .int p0 :: .ref a :: [w0]) h = if refO h 9 (some (.ref a)) = true then (if (Call M_X9_part h [.ref a, .int p0, .int p1]).isSome = true then Run M_L_law 308 [x0, x1, x2, x3] (rL (Call M_X9_part h [.ref a, .int p0, .int p1]) ++ [w0]) (cH (Call M_X9_part h [.ref a, .int p0, .int p1])) else none) else none := R_virt d_L_law_305 rfl rfl rfl rfl rfl (Nat.le_of_ble_eq_true rfl)
theorem d_L_law_308 : decode (mB M_L_law) 308 = .ok (.if_icmp .eq 1039, 3) := by decide +kernel
theorem r_L_law_308 {x0 x1 x2 x3 : Value} {x y : Int32} {st : List Value} {h : AH} : Run M_L_law 308 [x0, x1, x2, x3] (.int y :: .int x :: st) h = if x = y then Run M_L_law 1347 [x0, x1, x2, x3] st h else Run M_L_law 311 [x0, x1, x2, x3] st h := R_icmp_eq d_L_law_308 (by decide)
theorem d_L_law_311 : decode (mB M_L_law) 311 = .ok (.iconst 0, 1) := by decide +kernel
theorem r_L_law_311 {x0 x1 x2 x3 : Value} {st : List Value} {h : AH} : Run M_L_law 311 [x0, x1, x2, x3] st h = Run M_L_law 312 [x0, x1, x2, x3] (.int (nI 0) :: st) h := R_iconst d_L_law_311 (by decide)
theorem d_L_law_312 : decode (mB M_L_law) 312 = .ok (.ireturn, 1) := by decide +kernel
theorem r_L_law_312_0 {x0 x1 x2 x3 : Value} {h : AH} : Run M_L_law 312 [x0, x1, x2, x3] [.int (nI 0)] h = some (h, some (.int (nI 0))) := R_ireturn d_L_law_312 rfl (by decide)
theorem r_L_law_312_1 {x0 x1 x2 x3 : Value} {h : AH} : Run M_L_law 312 [x0, x1, x2, x3] [.int (nI 1)] h = some (h, some (.int (nI 1))) := R_ireturn d_L_law_312 rfl (by decide)
theorem r_L_law_312_c {x0 x1 x2 x3 : Value} {c : Prop} [Decidable c] {h : AH} : Run M_L_law 312 [x0, x1, x2, x3] [.int (bI c)] h = some (h, some (.int (bI c))) := R_ireturn d_L_law_312 rfl narrow_bI
theorem d_L_law_313 : decode (mB M_L_law) 313 = .ok (.aload_n 1, 1) := by decide +kernel
theorem r_L_law_313 {x0 x2 x3 : Value} {a : Nat} {st : List Value} {h : AH} : Run M_L_law 313 [x0, .ref a, x2, x3] st h = Run M_L_law 314 [x0, .ref a, x2, x3] (.ref a :: st) h := R_aload_n d_L_law_313 rfl
theorem d_L_law_314 : decode (mB M_L_law) 314 = .ok (.aload_n 0, 1) := by decide +kernel
theorem r_L_law_314 {x1 x2 x3 : Value} {a : Nat} {st : List Value} {h : AH} : Run M_L_law 314 [.ref a, x1, x2, x3] st h = Run M_L_law 315 [.ref a, x1, x2, x3] (.ref a :: st) h := R_aload_n d_L_law_314 rfl
theorem d_L_law_315 : decode (mB M_L_law) 315 = .ok (.iload_n 3, 1) := by decide +kernel
theorem r_L_law_315 {x0 x1 x2 : Value} {a : Int32} {st : List Value} {h : AH} : Run M_L_law 315 [x0, x1, x2, .int a] st h = Run M_L_law 316 [x0, x1, x2, .int a] (.int a :: st) h := R_iload_n d_L_law_315 rfl
theorem d_L_law_316 : decode (mB M_L_law) 316 = .ok (.iconst 1, 1) := by decide +kernel
theorem r_L_law_316 {x0 x1 x2 x3 : Value} {st : List Value} {h : AH} : Run M_L_law 316 [x0, x1, x2, x3] st h = Run M_L_law 317 [x0, x1, x2, x3] (.int (nI 1) :: st) h := R_iconst d_L_law_316 (by decide)
theorem d_L_law_317 : decode (mB M_L_law) 317 = .ok (.iadd, 1) := by decide +kernel
theorem r_L_law_317 {x0 x1 x2 x3 : Value} {x y : Int32} {st : List Value} {h : AH} : Run M_L_law 317 [x0, x1, x2, x3] (.int y :: .int x :: st) h = Run M_L_law 318 [x0, x1, x2, x3] (.int (x + y) :: st) h := R_iadd d_L_law_317
theorem d_L_law_318 : decode (mB M_L_law) 318 = .ok (.iaload, 1) := by decide +kernel
theorem r_L_law_318 {x0 x1 x2 x3 : Value} {a : Nat} {i : Int32} {st : List Value} {h : AH} : Run M_L_law 318 [x0, x1, x2, x3] (.int i :: .ref a :: st) h = if (gI 0 h a i).isSome = true then Run M_L_law 319 [x0, x1, x2, x3] (.int ((gI 0 h a i).getD 0) :: st) h else none := R_iaload d_L_law_318
theorem d_L_law_319 : decode (mB M_L_law) 319 = .ok (.aload_n 0, 1) := by decide +kernel
theorem r_L_law_319 {x1 x2 x3 : Value} {a : Nat} {st : List Value} {h : AH} : Run M_L_law 319 [.ref a, x1, x2, x3] st h = Run M_L_law 320 [.ref a, x1, x2, x3] (.ref a :: st) h := R_aload_n d_L_law_319 rfl
theorem d_L_law_320 : decode (mB M_L_law) 320 = .ok (.iload_n 3, 1) := by decide +kernel
theorem r_L_law_320 {x0 x1 x2 : Value} {a : Int32} {st : List Value} {h : AH} : Run M_L_law 320 [x0, x1, x2, .int a] st h = Run M_L_law 321 [x0, x1, x2, .int a] (.int a :: st) h := R_iload_n d_L_law_320 rfl
theorem d_L_law_321 : decode (mB M_L_law) 321 = .ok (.iconst 2, 1) := by decide +kernel
theorem r_L_law_321 {x0 x1 x2 x3 : Value} {st : List Value} {h : AH} : Run M_L_law 321 [x0, x1, x2, x3] st h = Run M_L_law 322 [x0, x1, x2, x3] (.int (nI 2) :: st) h := R_iconst d_L_law_321 (by decide)
theorem d_L_law_322 : decode (mB M_L_law) 322 = .ok (.iadd, 1) := by decide +kernel
theorem r_L_law_322 {x0 x1 x2 x3 : Value} {x y : Int32} {st : List Value} {h : AH} : Run M_L_law 322 [x0, x1, x2, x3] (.int y :: .int x :: st) h = Run M_L_law 323 [x0, x1, x2, x3] (.int (x + y) :: st) h := R_iadd d_L_law_322
theorem d_L_law_323 : decode (mB M_L_law) 323 = .ok (.iaload, 1) := by decide +kernel
theorem r_L_law_323 {x0 x1 x2 x3 : Value} {a : Nat} {i : Int32} {st : List Value} {h : AH} : Run M_L_law 323 [x0, x1, x2, x3] (.int i :: .ref a :: st) h = if (gI 0 h a i).isSome = true then Run M_L_law 324 [x0, x1, x2, x3] (.int ((gI 0 h a i).getD 0) :: st) h else none := R_iaload d_L_law_323
theorem d_L_law_324 : decode (mB M_L_law) 324 = .ok (.invokevirtual 36, 3) := by decide +kernel
theorem r_L_law_324 {x0 x1 x2 x3 : Value} {p0 : Int32} {p1 : Int32} {a : Nat} {h : AH} : Run M_L_law 324 [x0, x1, x2, x3] (.int p1 :: .int p0 :: .ref a :: []) h = if refO h 8 (some (.ref a)) = true then (if (Call M_X8_length h [.ref a, .int p0, .int p1]).isSome = true then Run M_L_law 327 [x0, x1, x2, x3] (rL (Call M_X8_length h [.ref a, .int p0, .int p1]) ++ []) (cH (Call M_X8_length h [.ref a, .int p0, .int p1])) else none) else none := R_virt d_L_law_324 rfl rfl rfl rfl rfl (Nat.le_of_ble_eq_true rfl)
theorem d_L_law_327 : decode (mB M_L_law) 327 = .ok (.aload_n 2, 1) := by decide +kernel
theorem r_L_law_327 {x0 x1 x3 : Value} {a : Nat} {st : List Value} {h : AH} : Run M_L_law 327 [x0, x1, .ref a, x3] st h = Run M_L_law 328 [x0, x1, .ref a, x3] (.ref a :: st) h := R_aload_n d_L_law_327 rfl
theorem d_L_law_328 : decode (mB M_L_law) 328 = .ok (.aload_n 0, 1) := by decide +kernel
theorem r_L_law_328 {x1 x2 x3 : Value} {a : Nat} {st : List Value} {h : AH} : Run M_L_law 328 [.ref a, x1, x2, x3] st h = Run M_L_law 329 [.ref a, x1, x2, x3] (.ref a :: st) h := R_aload_n d_L_law_328 rfl
theorem d_L_law_329 : decode (mB M_L_law) 329 = .ok (.iload_n 3, 1) := by decide +kernel
theorem r_L_law_329 {x0 x1 x2 : Value} {a : Int32} {st : List Value} {h : AH} : Run M_L_law 329 [x0, x1, x2, .int a] st h = Run M_L_law 330 [x0, x1, x2, .int a] (.int a :: st) h := R_iload_n d_L_law_329 rfl
theorem d_L_law_330 : decode (mB M_L_law) 330 = .ok (.iconst 1, 1) := by decide +kernel
theorem r_L_law_330 {x0 x1 x2 x3 : Value} {st : List Value} {h : AH} : Run M_L_law 330 [x0, x1, x2, x3] st h = Run M_L_law 331 [x0, x1, x2, x3] (.int (nI 1) :: st) h := R_iconst d_L_law_330 (by decide)
theorem d_L_law_331 : decode (mB M_L_law) 331 = .ok (.iadd, 1) := by decide +kernel
theorem r_L_law_331 {x0 x1 x2 x3 : Value} {x y : Int32} {st : List Value} {h : AH} : Run M_L_law 331 [x0, x1, x2, x3] (.int y :: .int x :: st) h = Run M_L_law 332 [x0, x1, x2, x3] (.int (x + y) :: st) h := R_iadd d_L_law_331
theorem d_L_law_332 : decode (mB M_L_law) 332 = .ok (.iaload, 1) := by decide +kernel
theorem r_L_law_332 {x0 x1 x2 x3 : Value} {a : Nat} {i : Int32} {st : List Value} {h : AH} : Run M_L_law 332 [x0, x1, x2, x3] (.int i :: .ref a :: st) h = if (gI 0 h a i).isSome = true then Run M_L_law 333 [x0, x1, x2, x3] (.int ((gI 0 h a i).getD 0) :: st) h else none := R_iaload d_L_law_332
theorem d_L_law_333 : decode (mB M_L_law) 333 = .ok (.aload_n 0, 1) := by decide +kernel
theorem r_L_law_333 {x1 x2 x3 : Value} {a : Nat} {st : List Value} {h : AH} : Run M_L_law 333 [.ref a, x1, x2, x3] st h = Run M_L_law 334 [.ref a, x1, x2, x3] (.ref a :: st) h := R_aload_n d_L_law_333 rfl
theorem d_L_law_334 : decode (mB M_L_law) 334 = .ok (.iload_n 3, 1) := by decide +kernel
theorem r_L_law_334 {x0 x1 x2 : Value} {a : Int32} {st : List Value} {h : AH} : Run M_L_law 334 [x0, x1, x2, .int a] st h = Run M_L_law 335 [x0, x1, x2, .int a] (.int a :: st) h := R_iload_n d_L_law_334 rfl
theorem d_L_law_335 : decode (mB M_L_law) 335 = .ok (.iconst 2, 1) := by decide +kernel
theorem r_L_law_335 {x0 x1 x2 x3 : Value} {st : List Value} {h : AH} : Run M_L_law 335 [x0, x1, x2, x3] st h = Run M_L_law 336 [x0, x1, x2, x3] (.int (nI 2) :: st) h := R_iconst d_L_law_335 (by decide)
theorem d_L_law_336 : decode (mB M_L_law) 336 = .ok (.iadd, 1) := by decide +kernel
theorem r_L_law_336 {x0 x1 x2 x3 : Value} {x y : Int32} {st : List Value} {h : AH} : Run M_L_law 336 [x0, x1, x2, x3] (.int y :: .int x :: st) h = Run M_L_law 337 [x0, x1, x2, x3] (.int (x + y) :: st) h := R_iadd d_L_law_336
theorem d_L_law_337 : decode (mB M_L_law) 337 = .ok (.iaload, 1) := by decide +kernel
theorem r_L_law_337 {x0 x1 x2 x3 : Value} {a : Nat} {i : Int32} {st : List Value} {h : AH} : Run M_L_law 337 [x0, x1, x2, x3] (.int i :: .ref a :: st) h = if (gI 0 h a i).isSome = true then Run M_L_law 338 [x0, x1, x2, x3] (.int ((gI 0 h a i).getD 0) :: st) h else none := R_iaload d_L_law_337
theorem d_L_law_338 : decode (mB M_L_law) 338 = .ok (.invokevirtual 39, 3) := by decide +kernel
theorem r_L_law_338 {x0 x1 x2 x3 : Value} {p0 : Int32} {p1 : Int32} {a : Nat} {w0 : Value} {h : AH} : Run M_L_law 338 [x0, x1, x2, x3] (.int p1 :: .int p0 :: .ref a :: [w0]) h = if refO h 9 (some (.ref a)) = true then (if (Call M_X9_length h [.ref a, .int p0, .int p1]).isSome = true then Run M_L_law 341 [x0, x1, x2, x3] (rL (Call M_X9_length h [.ref a, .int p0, .int p1]) ++ [w0]) (cH (Call M_X9_length h [.ref a, .int p0, .int p1])) else none) else none := R_virt d_L_law_338 rfl rfl rfl rfl rfl (Nat.le_of_ble_eq_true rfl)
theorem d_L_law_341 : decode (mB M_L_law) 341 = .ok (.if_icmp .eq 1006, 3) := by decide +kernel
theorem r_L_law_341 {x0 x1 x2 x3 : Value} {x y : Int32} {st : List Value} {h : AH} : Run M_L_law 341 [x0, x1, x2, x3] (.int y :: .int x :: st) h = if x = y then Run M_L_law 1347 [x0, x1, x2, x3] st h else Run M_L_law 344 [x0, x1, x2, x3] st h := R_icmp_eq d_L_law_341 (by decide)
theorem d_L_law_344 : decode (mB M_L_law) 344 = .ok (.iconst 0, 1) := by decide +kernel
theorem r_L_law_344 {x0 x1 x2 x3 : Value} {st : List Value} {h : AH} : Run M_L_law 344 [x0, x1, x2, x3] st h = Run M_L_law 345 [x0, x1, x2, x3] (.int (nI 0) :: st) h := R_iconst d_L_law_344 (by decide)
theorem d_L_law_345 : decode (mB M_L_law) 345 = .ok (.ireturn, 1) := by decide +kernel
theorem r_L_law_345_0 {x0 x1 x2 x3 : Value} {h : AH} : Run M_L_law 345 [x0, x1, x2, x3] [.int (nI 0)] h = some (h, some (.int (nI 0))) := R_ireturn d_L_law_345 rfl (by decide)
theorem r_L_law_345_1 {x0 x1 x2 x3 : Value} {h : AH} : Run M_L_law 345 [x0, x1, x2, x3] [.int (nI 1)] h = some (h, some (.int (nI 1))) := R_ireturn d_L_law_345 rfl (by decide)
theorem r_L_law_345_c {x0 x1 x2 x3 : Value} {c : Prop} [Decidable c] {h : AH} : Run M_L_law 345 [x0, x1, x2, x3] [.int (bI c)] h = some (h, some (.int (bI c))) := R_ireturn d_L_law_345 rfl narrow_bI
theorem d_L_law_346 : decode (mB M_L_law) 346 = .ok (.aload_n 1, 1) := by decide +kernel
theorem r_L_law_346 {x0 x2 x3 : Value} {a : Nat} {st : List Value} {h : AH} : Run M_L_law 346 [x0, .ref a, x2, x3] st h = Run M_L_law 347 [x0, .ref a, x2, x3] (.ref a :: st) h := R_aload_n d_L_law_346 rfl
theorem d_L_law_347 : decode (mB M_L_law) 347 = .ok (.aload_n 0, 1) := by decide +kernel
theorem r_L_law_347 {x1 x2 x3 : Value} {a : Nat} {st : List Value} {h : AH} : Run M_L_law 347 [.ref a, x1, x2, x3] st h = Run M_L_law 348 [.ref a, x1, x2, x3] (.ref a :: st) h := R_aload_n d_L_law_347 rfl
theorem d_L_law_348 : decode (mB M_L_law) 348 = .ok (.iload_n 3, 1) := by decide +kernel
theorem r_L_law_348 {x0 x1 x2 : Value} {a : Int32} {st : List Value} {h : AH} : Run M_L_law 348 [x0, x1, x2, .int a] st h = Run M_L_law 349 [x0, x1, x2, .int a] (.int a :: st) h := R_iload_n d_L_law_348 rfl
theorem d_L_law_349 : decode (mB M_L_law) 349 = .ok (.iconst 1, 1) := by decide +kernel
theorem r_L_law_349 {x0 x1 x2 x3 : Value} {st : List Value} {h : AH} : Run M_L_law 349 [x0, x1, x2, x3] st h = Run M_L_law 350 [x0, x1, x2, x3] (.int (nI 1) :: st) h := R_iconst d_L_law_349 (by decide)
theorem d_L_law_350 : decode (mB M_L_law) 350 = .ok (.iadd, 1) := by decide +kernel
theorem r_L_law_350 {x0 x1 x2 x3 : Value} {x y : Int32} {st : List Value} {h : AH} : Run M_L_law 350 [x0, x1, x2, x3] (.int y :: .int x :: st) h = Run M_L_law 351 [x0, x1, x2, x3] (.int (x + y) :: st) h := R_iadd d_L_law_350
theorem d_L_law_351 : decode (mB M_L_law) 351 = .ok (.iaload, 1) := by decide +kernel
theorem r_L_law_351 {x0 x1 x2 x3 : Value} {a : Nat} {i : Int32} {st : List Value} {h : AH} : Run M_L_law 351 [x0, x1, x2, x3] (.int i :: .ref a :: st) h = if (gI 0 h a i).isSome = true then Run M_L_law 352 [x0, x1, x2, x3] (.int ((gI 0 h a i).getD 0) :: st) h else none := R_iaload d_L_law_351
theorem d_L_law_352 : decode (mB M_L_law) 352 = .ok (.aload_n 0, 1) := by decide +kernel
theorem r_L_law_352 {x1 x2 x3 : Value} {a : Nat} {st : List Value} {h : AH} : Run M_L_law 352 [.ref a, x1, x2, x3] st h = Run M_L_law 353 [.ref a, x1, x2, x3] (.ref a :: st) h := R_aload_n d_L_law_352 rfl
theorem d_L_law_353 : decode (mB M_L_law) 353 = .ok (.iload_n 3, 1) := by decide +kernel
theorem r_L_law_353 {x0 x1 x2 : Value} {a : Int32} {st : List Value} {h : AH} : Run M_L_law 353 [x0, x1, x2, .int a] st h = Run M_L_law 354 [x0, x1, x2, .int a] (.int a :: st) h := R_iload_n d_L_law_353 rfl
theorem d_L_law_354 : decode (mB M_L_law) 354 = .ok (.iconst 2, 1) := by decide +kernel
theorem r_L_law_354 {x0 x1 x2 x3 : Value} {st : List Value} {h : AH} : Run M_L_law 354 [x0, x1, x2, x3] st h = Run M_L_law 355 [x0, x1, x2, x3] (.int (nI 2) :: st) h := R_iconst d_L_law_354 (by decide)
theorem d_L_law_355 : decode (mB M_L_law) 355 = .ok (.iadd, 1) := by decide +kernel
theorem r_L_law_355 {x0 x1 x2 x3 : Value} {x y : Int32} {st : List Value} {h : AH} : Run M_L_law 355 [x0, x1, x2, x3] (.int y :: .int x :: st) h = Run M_L_law 356 [x0, x1, x2, x3] (.int (x + y) :: st) h := R_iadd d_L_law_355
theorem d_L_law_356 : decode (mB M_L_law) 356 = .ok (.iaload, 1) := by decide +kernel
theorem r_L_law_356 {x0 x1 x2 x3 : Value} {a : Nat} {i : Int32} {st : List Value} {h : AH} : Run M_L_law 356 [x0, x1, x2, x3] (.int i :: .ref a :: st) h = if (gI 0 h a i).isSome = true then Run M_L_law 357 [x0, x1, x2, x3] (.int ((gI 0 h a i).getD 0) :: st) h else none := R_iaload d_L_law_356
theorem d_L_law_357 : decode (mB M_L_law) 357 = .ok (.invokevirtual 40, 3) := by decide +kernel
theorem r_L_law_357 {x0 x1 x2 x3 : Value} {p0 : Int32} {p1 : Int32} {a : Nat} {h : AH} : Run M_L_law 357 [x0, x1, x2, x3] (.int p1 :: .int p0 :: .ref a :: []) h = if refO h 8 (some (.ref a)) = true then (if (Call M_X8_player h [.ref a, .int p0, .int p1]).isSome = true then Run M_L_law 360 [x0, x1, x2, x3] (rL (Call M_X8_player h [.ref a, .int p0, .int p1]) ++ []) (cH (Call M_X8_player h [.ref a, .int p0, .int p1])) else none) else none := R_virt d_L_law_357 rfl rfl rfl rfl rfl (Nat.le_of_ble_eq_true rfl)
theorem d_L_law_360 : decode (mB M_L_law) 360 = .ok (.aload_n 2, 1) := by decide +kernel
theorem r_L_law_360 {x0 x1 x3 : Value} {a : Nat} {st : List Value} {h : AH} : Run M_L_law 360 [x0, x1, .ref a, x3] st h = Run M_L_law 361 [x0, x1, .ref a, x3] (.ref a :: st) h := R_aload_n d_L_law_360 rfl
theorem d_L_law_361 : decode (mB M_L_law) 361 = .ok (.aload_n 0, 1) := by decide +kernel
theorem r_L_law_361 {x1 x2 x3 : Value} {a : Nat} {st : List Value} {h : AH} : Run M_L_law 361 [.ref a, x1, x2, x3] st h = Run M_L_law 362 [.ref a, x1, x2, x3] (.ref a :: st) h := R_aload_n d_L_law_361 rfl
theorem d_L_law_362 : decode (mB M_L_law) 362 = .ok (.iload_n 3, 1) := by decide +kernel
theorem r_L_law_362 {x0 x1 x2 : Value} {a : Int32} {st : List Value} {h : AH} : Run M_L_law 362 [x0, x1, x2, .int a] st h = Run M_L_law 363 [x0, x1, x2, .int a] (.int a :: st) h := R_iload_n d_L_law_362 rfl
theorem d_L_law_363 : decode (mB M_L_law) 363 = .ok (.iconst 1, 1) := by decide +kernel
theorem r_L_law_363 {x0 x1 x2 x3 : Value} {st : List Value} {h : AH} : Run M_L_law 363 [x0, x1, x2, x3] st h = Run M_L_law 364 [x0, x1, x2, x3] (.int (nI 1) :: st) h := R_iconst d_L_law_363 (by decide)
theorem d_L_law_364 : decode (mB M_L_law) 364 = .ok (.iadd, 1) := by decide +kernel
theorem r_L_law_364 {x0 x1 x2 x3 : Value} {x y : Int32} {st : List Value} {h : AH} : Run M_L_law 364 [x0, x1, x2, x3] (.int y :: .int x :: st) h = Run M_L_law 365 [x0, x1, x2, x3] (.int (x + y) :: st) h := R_iadd d_L_law_364
theorem d_L_law_365 : decode (mB M_L_law) 365 = .ok (.iaload, 1) := by decide +kernel
theorem r_L_law_365 {x0 x1 x2 x3 : Value} {a : Nat} {i : Int32} {st : List Value} {h : AH} : Run M_L_law 365 [x0, x1, x2, x3] (.int i :: .ref a :: st) h = if (gI 0 h a i).isSome = true then Run M_L_law 366 [x0, x1, x2, x3] (.int ((gI 0 h a i).getD 0) :: st) h else none := R_iaload d_L_law_365
theorem d_L_law_366 : decode (mB M_L_law) 366 = .ok (.aload_n 0, 1) := by decide +kernel
theorem r_L_law_366 {x1 x2 x3 : Value} {a : Nat} {st : List Value} {h : AH} : Run M_L_law 366 [.ref a, x1, x2, x3] st h = Run M_L_law 367 [.ref a, x1, x2, x3] (.ref a :: st) h := R_aload_n d_L_law_366 rfl
theorem d_L_law_367 : decode (mB M_L_law) 367 = .ok (.iload_n 3, 1) := by decide +kernel
theorem r_L_law_367 {x0 x1 x2 : Value} {a : Int32} {st : List Value} {h : AH} : Run M_L_law 367 [x0, x1, x2, .int a] st h = Run M_L_law 368 [x0, x1, x2, .int a] (.int a :: st) h := R_iload_n d_L_law_367 rfl
theorem d_L_law_368 : decode (mB M_L_law) 368 = .ok (.iconst 2, 1) := by decide +kernel
theorem r_L_law_368 {x0 x1 x2 x3 : Value} {st : List Value} {h : AH} : Run M_L_law 368 [x0, x1, x2, x3] st h = Run M_L_law 369 [x0, x1, x2, x3] (.int (nI 2) :: st) h := R_iconst d_L_law_368 (by decide)
theorem d_L_law_369 : decode (mB M_L_law) 369 = .ok (.iadd, 1) := by decide +kernel
theorem r_L_law_369 {x0 x1 x2 x3 : Value} {x y : Int32} {st : List Value} {h : AH} : Run M_L_law 369 [x0, x1, x2, x3] (.int y :: .int x :: st) h = Run M_L_law 370 [x0, x1, x2, x3] (.int (x + y) :: st) h := R_iadd d_L_law_369
theorem d_L_law_370 : decode (mB M_L_law) 370 = .ok (.iaload, 1) := by decide +kernel
theorem r_L_law_370 {x0 x1 x2 x3 : Value} {a : Nat} {i : Int32} {st : List Value} {h : AH} : Run M_L_law 370 [x0, x1, x2, x3] (.int i :: .ref a :: st) h = if (gI 0 h a i).isSome = true then Run M_L_law 371 [x0, x1, x2, x3] (.int ((gI 0 h a i).getD 0) :: st) h else none := R_iaload d_L_law_370
theorem d_L_law_371 : decode (mB M_L_law) 371 = .ok (.invokevirtual 43, 3) := by decide +kernel
theorem r_L_law_371 {x0 x1 x2 x3 : Value} {p0 : Int32} {p1 : Int32} {a : Nat} {w0 : Value} {h : AH} : Run M_L_law 371 [x0, x1, x2, x3] (.int p1 :: .int p0 :: .ref a :: [w0]) h = if refO h 9 (some (.ref a)) = true then (if (Call M_X9_player h [.ref a, .int p0, .int p1]).isSome = true then Run M_L_law 374 [x0, x1, x2, x3] (rL (Call M_X9_player h [.ref a, .int p0, .int p1]) ++ [w0]) (cH (Call M_X9_player h [.ref a, .int p0, .int p1])) else none) else none := R_virt d_L_law_371 rfl rfl rfl rfl rfl (Nat.le_of_ble_eq_true rfl)
theorem d_L_law_374 : decode (mB M_L_law) 374 = .ok (.if_icmp .eq 973, 3) := by decide +kernel
theorem r_L_law_374 {x0 x1 x2 x3 : Value} {x y : Int32} {st : List Value} {h : AH} : Run M_L_law 374 [x0, x1, x2, x3] (.int y :: .int x :: st) h = if x = y then Run M_L_law 1347 [x0, x1, x2, x3] st h else Run M_L_law 377 [x0, x1, x2, x3] st h := R_icmp_eq d_L_law_374 (by decide)
theorem d_L_law_377 : decode (mB M_L_law) 377 = .ok (.iconst 0, 1) := by decide +kernel
theorem r_L_law_377 {x0 x1 x2 x3 : Value} {st : List Value} {h : AH} : Run M_L_law 377 [x0, x1, x2, x3] st h = Run M_L_law 378 [x0, x1, x2, x3] (.int (nI 0) :: st) h := R_iconst d_L_law_377 (by decide)
theorem d_L_law_378 : decode (mB M_L_law) 378 = .ok (.ireturn, 1) := by decide +kernel
theorem r_L_law_378_0 {x0 x1 x2 x3 : Value} {h : AH} : Run M_L_law 378 [x0, x1, x2, x3] [.int (nI 0)] h = some (h, some (.int (nI 0))) := R_ireturn d_L_law_378 rfl (by decide)
theorem r_L_law_378_1 {x0 x1 x2 x3 : Value} {h : AH} : Run M_L_law 378 [x0, x1, x2, x3] [.int (nI 1)] h = some (h, some (.int (nI 1))) := R_ireturn d_L_law_378 rfl (by decide)
theorem r_L_law_378_c {x0 x1 x2 x3 : Value} {c : Prop} [Decidable c] {h : AH} : Run M_L_law 378 [x0, x1, x2, x3] [.int (bI c)] h = some (h, some (.int (bI c))) := R_ireturn d_L_law_378 rfl narrow_bI
theorem d_L_law_379 : decode (mB M_L_law) 379 = .ok (.aload_n 1, 1) := by decide +kernel
theorem r_L_law_379 {x0 x2 x3 : Value} {a : Nat} {st : List Value} {h : AH} : Run M_L_law 379 [x0, .ref a, x2, x3] st h = Run M_L_law 380 [x0, .ref a, x2, x3] (.ref a :: st) h := R_aload_n d_L_law_379 rfl
theorem d_L_law_380 : decode (mB M_L_law) 380 = .ok (.aload_n 0, 1) := by decide +kernel
theorem r_L_law_380 {x1 x2 x3 : Value} {a : Nat} {st : List Value} {h : AH} : Run M_L_law 380 [.ref a, x1, x2, x3] st h = Run M_L_law 381 [.ref a, x1, x2, x3] (.ref a :: st) h := R_aload_n d_L_law_380 rfl
theorem d_L_law_381 : decode (mB M_L_law) 381 = .ok (.iload_n 3, 1) := by decide +kernel
theorem r_L_law_381 {x0 x1 x2 : Value} {a : Int32} {st : List Value} {h : AH} : Run M_L_law 381 [x0, x1, x2, .int a] st h = Run M_L_law 382 [x0, x1, x2, .int a] (.int a :: st) h := R_iload_n d_L_law_381 rfl
theorem d_L_law_382 : decode (mB M_L_law) 382 = .ok (.iconst 1, 1) := by decide +kernel
theorem r_L_law_382 {x0 x1 x2 x3 : Value} {st : List Value} {h : AH} : Run M_L_law 382 [x0, x1, x2, x3] st h = Run M_L_law 383 [x0, x1, x2, x3] (.int (nI 1) :: st) h := R_iconst d_L_law_382 (by decide)
theorem d_L_law_383 : decode (mB M_L_law) 383 = .ok (.iadd, 1) := by decide +kernel
theorem r_L_law_383 {x0 x1 x2 x3 : Value} {x y : Int32} {st : List Value} {h : AH} : Run M_L_law 383 [x0, x1, x2, x3] (.int y :: .int x :: st) h = Run M_L_law 384 [x0, x1, x2, x3] (.int (x + y) :: st) h := R_iadd d_L_law_383
theorem d_L_law_384 : decode (mB M_L_law) 384 = .ok (.iaload, 1) := by decide +kernel
theorem r_L_law_384 {x0 x1 x2 x3 : Value} {a : Nat} {i : Int32} {st : List Value} {h : AH} : Run M_L_law 384 [x0, x1, x2, x3] (.int i :: .ref a :: st) h = if (gI 0 h a i).isSome = true then Run M_L_law 385 [x0, x1, x2, x3] (.int ((gI 0 h a i).getD 0) :: st) h else none := R_iaload d_L_law_384
theorem d_L_law_385 : decode (mB M_L_law) 385 = .ok (.aload_n 0, 1) := by decide +kernel
theorem r_L_law_385 {x1 x2 x3 : Value} {a : Nat} {st : List Value} {h : AH} : Run M_L_law 385 [.ref a, x1, x2, x3] st h = Run M_L_law 386 [.ref a, x1, x2, x3] (.ref a :: st) h := R_aload_n d_L_law_385 rfl
theorem d_L_law_386 : decode (mB M_L_law) 386 = .ok (.iload_n 3, 1) := by decide +kernel
theorem r_L_law_386 {x0 x1 x2 : Value} {a : Int32} {st : List Value} {h : AH} : Run M_L_law 386 [x0, x1, x2, .int a] st h = Run M_L_law 387 [x0, x1, x2, .int a] (.int a :: st) h := R_iload_n d_L_law_386 rfl
theorem d_L_law_387 : decode (mB M_L_law) 387 = .ok (.iconst 2, 1) := by decide +kernel
theorem r_L_law_387 {x0 x1 x2 x3 : Value} {st : List Value} {h : AH} : Run M_L_law 387 [x0, x1, x2, x3] st h = Run M_L_law 388 [x0, x1, x2, x3] (.int (nI 2) :: st) h := R_iconst d_L_law_387 (by decide)
theorem d_L_law_388 : decode (mB M_L_law) 388 = .ok (.iadd, 1) := by decide +kernel
theorem r_L_law_388 {x0 x1 x2 x3 : Value} {x y : Int32} {st : List Value} {h : AH} : Run M_L_law 388 [x0, x1, x2, x3] (.int y :: .int x :: st) h = Run M_L_law 389 [x0, x1, x2, x3] (.int (x + y) :: st) h := R_iadd d_L_law_388
theorem d_L_law_389 : decode (mB M_L_law) 389 = .ok (.iaload, 1) := by decide +kernel
theorem r_L_law_389 {x0 x1 x2 x3 : Value} {a : Nat} {i : Int32} {st : List Value} {h : AH} : Run M_L_law 389 [x0, x1, x2, x3] (.int i :: .ref a :: st) h = if (gI 0 h a i).isSome = true then Run M_L_law 390 [x0, x1, x2, x3] (.int ((gI 0 h a i).getD 0) :: st) h else none := R_iaload d_L_law_389
theorem d_L_law_390 : decode (mB M_L_law) 390 = .ok (.invokevirtual 44, 3) := by decide +kernel
theorem r_L_law_390 {x0 x1 x2 x3 : Value} {p0 : Int32} {p1 : Int32} {a : Nat} {h : AH} : Run M_L_law 390 [x0, x1, x2, x3] (.int p1 :: .int p0 :: .ref a :: []) h = if refO h 8 (some (.ref a)) = true then (if (Call M_X8_instrument h [.ref a, .int p0, .int p1]).isSome = true then Run M_L_law 393 [x0, x1, x2, x3] (rL (Call M_X8_instrument h [.ref a, .int p0, .int p1]) ++ []) (cH (Call M_X8_instrument h [.ref a, .int p0, .int p1])) else none) else none := R_virt d_L_law_390 rfl rfl rfl rfl rfl (Nat.le_of_ble_eq_true rfl)
theorem d_L_law_393 : decode (mB M_L_law) 393 = .ok (.aload_n 2, 1) := by decide +kernel
theorem r_L_law_393 {x0 x1 x3 : Value} {a : Nat} {st : List Value} {h : AH} : Run M_L_law 393 [x0, x1, .ref a, x3] st h = Run M_L_law 394 [x0, x1, .ref a, x3] (.ref a :: st) h := R_aload_n d_L_law_393 rfl
theorem d_L_law_394 : decode (mB M_L_law) 394 = .ok (.aload_n 0, 1) := by decide +kernel
theorem r_L_law_394 {x1 x2 x3 : Value} {a : Nat} {st : List Value} {h : AH} : Run M_L_law 394 [.ref a, x1, x2, x3] st h = Run M_L_law 395 [.ref a, x1, x2, x3] (.ref a :: st) h := R_aload_n d_L_law_394 rfl
theorem d_L_law_395 : decode (mB M_L_law) 395 = .ok (.iload_n 3, 1) := by decide +kernel
theorem r_L_law_395 {x0 x1 x2 : Value} {a : Int32} {st : List Value} {h : AH} : Run M_L_law 395 [x0, x1, x2, .int a] st h = Run M_L_law 396 [x0, x1, x2, .int a] (.int a :: st) h := R_iload_n d_L_law_395 rfl
theorem d_L_law_396 : decode (mB M_L_law) 396 = .ok (.iconst 1, 1) := by decide +kernel
theorem r_L_law_396 {x0 x1 x2 x3 : Value} {st : List Value} {h : AH} : Run M_L_law 396 [x0, x1, x2, x3] st h = Run M_L_law 397 [x0, x1, x2, x3] (.int (nI 1) :: st) h := R_iconst d_L_law_396 (by decide)
theorem d_L_law_397 : decode (mB M_L_law) 397 = .ok (.iadd, 1) := by decide +kernel
theorem r_L_law_397 {x0 x1 x2 x3 : Value} {x y : Int32} {st : List Value} {h : AH} : Run M_L_law 397 [x0, x1, x2, x3] (.int y :: .int x :: st) h = Run M_L_law 398 [x0, x1, x2, x3] (.int (x + y) :: st) h := R_iadd d_L_law_397
theorem d_L_law_398 : decode (mB M_L_law) 398 = .ok (.iaload, 1) := by decide +kernel
theorem r_L_law_398 {x0 x1 x2 x3 : Value} {a : Nat} {i : Int32} {st : List Value} {h : AH} : Run M_L_law 398 [x0, x1, x2, x3] (.int i :: .ref a :: st) h = if (gI 0 h a i).isSome = true then Run M_L_law 399 [x0, x1, x2, x3] (.int ((gI 0 h a i).getD 0) :: st) h else none := R_iaload d_L_law_398
theorem d_L_law_399 : decode (mB M_L_law) 399 = .ok (.aload_n 0, 1) := by decide +kernel
theorem r_L_law_399 {x1 x2 x3 : Value} {a : Nat} {st : List Value} {h : AH} : Run M_L_law 399 [.ref a, x1, x2, x3] st h = Run M_L_law 400 [.ref a, x1, x2, x3] (.ref a :: st) h := R_aload_n d_L_law_399 rfl
theorem d_L_law_400 : decode (mB M_L_law) 400 = .ok (.iload_n 3, 1) := by decide +kernel
theorem r_L_law_400 {x0 x1 x2 : Value} {a : Int32} {st : List Value} {h : AH} : Run M_L_law 400 [x0, x1, x2, .int a] st h = Run M_L_law 401 [x0, x1, x2, .int a] (.int a :: st) h := R_iload_n d_L_law_400 rfl
theorem d_L_law_401 : decode (mB M_L_law) 401 = .ok (.iconst 2, 1) := by decide +kernel
theorem r_L_law_401 {x0 x1 x2 x3 : Value} {st : List Value} {h : AH} : Run M_L_law 401 [x0, x1, x2, x3] st h = Run M_L_law 402 [x0, x1, x2, x3] (.int (nI 2) :: st) h := R_iconst d_L_law_401 (by decide)
theorem d_L_law_402 : decode (mB M_L_law) 402 = .ok (.iadd, 1) := by decide +kernel
theorem r_L_law_402 {x0 x1 x2 x3 : Value} {x y : Int32} {st : List Value} {h : AH} : Run M_L_law 402 [x0, x1, x2, x3] (.int y :: .int x :: st) h = Run M_L_law 403 [x0, x1, x2, x3] (.int (x + y) :: st) h := R_iadd d_L_law_402
theorem d_L_law_403 : decode (mB M_L_law) 403 = .ok (.iaload, 1) := by decide +kernel
theorem r_L_law_403 {x0 x1 x2 x3 : Value} {a : Nat} {i : Int32} {st : List Value} {h : AH} : Run M_L_law 403 [x0, x1, x2, x3] (.int i :: .ref a :: st) h = if (gI 0 h a i).isSome = true then Run M_L_law 404 [x0, x1, x2, x3] (.int ((gI 0 h a i).getD 0) :: st) h else none := R_iaload d_L_law_403
theorem d_L_law_404 : decode (mB M_L_law) 404 = .ok (.invokevirtual 47, 3) := by decide +kernel
theorem r_L_law_404 {x0 x1 x2 x3 : Value} {p0 : Int32} {p1 : Int32} {a : Nat} {w0 : Value} {h : AH} : Run M_L_law 404 [x0, x1, x2, x3] (.int p1 :: .int p0 :: .ref a :: [w0]) h = if refO h 9 (some (.ref a)) = true then (if (Call M_X9_instrument h [.ref a, .int p0, .int p1]).isSome = true then Run M_L_law 407 [x0, x1, x2, x3] (rL (Call M_X9_instrument h [.ref a, .int p0, .int p1]) ++ [w0]) (cH (Call M_X9_instrument h [.ref a, .int p0, .int p1])) else none) else none := R_virt d_L_law_404 rfl rfl rfl rfl rfl (Nat.le_of_ble_eq_true rfl)
theorem d_L_law_407 : decode (mB M_L_law) 407 = .ok (.if_icmp .eq 940, 3) := by decide +kernel
theorem r_L_law_407 {x0 x1 x2 x3 : Value} {x y : Int32} {st : List Value} {h : AH} : Run M_L_law 407 [x0, x1, x2, x3] (.int y :: .int x :: st) h = if x = y then Run M_L_law 1347 [x0, x1, x2, x3] st h else Run M_L_law 410 [x0, x1, x2, x3] st h := R_icmp_eq d_L_law_407 (by decide)
theorem d_L_law_410 : decode (mB M_L_law) 410 = .ok (.iconst 0, 1) := by decide +kernel
theorem r_L_law_410 {x0 x1 x2 x3 : Value} {st : List Value} {h : AH} : Run M_L_law 410 [x0, x1, x2, x3] st h = Run M_L_law 411 [x0, x1, x2, x3] (.int (nI 0) :: st) h := R_iconst d_L_law_410 (by decide)
theorem d_L_law_411 : decode (mB M_L_law) 411 = .ok (.ireturn, 1) := by decide +kernel
theorem r_L_law_411_0 {x0 x1 x2 x3 : Value} {h : AH} : Run M_L_law 411 [x0, x1, x2, x3] [.int (nI 0)] h = some (h, some (.int (nI 0))) := R_ireturn d_L_law_411 rfl (by decide)
theorem r_L_law_411_1 {x0 x1 x2 x3 : Value} {h : AH} : Run M_L_law 411 [x0, x1, x2, x3] [.int (nI 1)] h = some (h, some (.int (nI 1))) := R_ireturn d_L_law_411 rfl (by decide)
theorem r_L_law_411_c {x0 x1 x2 x3 : Value} {c : Prop} [Decidable c] {h : AH} : Run M_L_law 411 [x0, x1, x2, x3] [.int (bI c)] h = some (h, some (.int (bI c))) := R_ireturn d_L_law_411 rfl narrow_bI
theorem d_L_law_412 : decode (mB M_L_law) 412 = .ok (.aload_n 1, 1) := by decide +kernel
theorem r_L_law_412 {x0 x2 x3 : Value} {a : Nat} {st : List Value} {h : AH} : Run M_L_law 412 [x0, .ref a, x2, x3] st h = Run M_L_law 413 [x0, .ref a, x2, x3] (.ref a :: st) h := R_aload_n d_L_law_412 rfl
theorem d_L_law_413 : decode (mB M_L_law) 413 = .ok (.aload_n 0, 1) := by decide +kernel
theorem r_L_law_413 {x1 x2 x3 : Value} {a : Nat} {st : List Value} {h : AH} : Run M_L_law 413 [.ref a, x1, x2, x3] st h = Run M_L_law 414 [.ref a, x1, x2, x3] (.ref a :: st) h := R_aload_n d_L_law_413 rfl
theorem d_L_law_414 : decode (mB M_L_law) 414 = .ok (.iload_n 3, 1) := by decide +kernel
theorem r_L_law_414 {x0 x1 x2 : Value} {a : Int32} {st : List Value} {h : AH} : Run M_L_law 414 [x0, x1, x2, .int a] st h = Run M_L_law 415 [x0, x1, x2, .int a] (.int a :: st) h := R_iload_n d_L_law_414 rfl
theorem d_L_law_415 : decode (mB M_L_law) 415 = .ok (.iconst 1, 1) := by decide +kernel
theorem r_L_law_415 {x0 x1 x2 x3 : Value} {st : List Value} {h : AH} : Run M_L_law 415 [x0, x1, x2, x3] st h = Run M_L_law 416 [x0, x1, x2, x3] (.int (nI 1) :: st) h := R_iconst d_L_law_415 (by decide)
theorem d_L_law_416 : decode (mB M_L_law) 416 = .ok (.iadd, 1) := by decide +kernel
theorem r_L_law_416 {x0 x1 x2 x3 : Value} {x y : Int32} {st : List Value} {h : AH} : Run M_L_law 416 [x0, x1, x2, x3] (.int y :: .int x :: st) h = Run M_L_law 417 [x0, x1, x2, x3] (.int (x + y) :: st) h := R_iadd d_L_law_416
theorem d_L_law_417 : decode (mB M_L_law) 417 = .ok (.iaload, 1) := by decide +kernel
theorem r_L_law_417 {x0 x1 x2 x3 : Value} {a : Nat} {i : Int32} {st : List Value} {h : AH} : Run M_L_law 417 [x0, x1, x2, x3] (.int i :: .ref a :: st) h = if (gI 0 h a i).isSome = true then Run M_L_law 418 [x0, x1, x2, x3] (.int ((gI 0 h a i).getD 0) :: st) h else none := R_iaload d_L_law_417
theorem d_L_law_418 : decode (mB M_L_law) 418 = .ok (.aload_n 0, 1) := by decide +kernel
theorem r_L_law_418 {x1 x2 x3 : Value} {a : Nat} {st : List Value} {h : AH} : Run M_L_law 418 [.ref a, x1, x2, x3] st h = Run M_L_law 419 [.ref a, x1, x2, x3] (.ref a :: st) h := R_aload_n d_L_law_418 rfl
theorem d_L_law_419 : decode (mB M_L_law) 419 = .ok (.iload_n 3, 1) := by decide +kernel
theorem r_L_law_419 {x0 x1 x2 : Value} {a : Int32} {st : List Value} {h : AH} : Run M_L_law 419 [x0, x1, x2, .int a] st h = Run M_L_law 420 [x0, x1, x2, .int a] (.int a :: st) h := R_iload_n d_L_law_419 rfl
theorem d_L_law_420 : decode (mB M_L_law) 420 = .ok (.iconst 2, 1) := by decide +kernel
theorem r_L_law_420 {x0 x1 x2 x3 : Value} {st : List Value} {h : AH} : Run M_L_law 420 [x0, x1, x2, x3] st h = Run M_L_law 421 [x0, x1, x2, x3] (.int (nI 2) :: st) h := R_iconst d_L_law_420 (by decide)
theorem d_L_law_421 : decode (mB M_L_law) 421 = .ok (.iadd, 1) := by decide +kernel
theorem r_L_law_421 {x0 x1 x2 x3 : Value} {x y : Int32} {st : List Value} {h : AH} : Run M_L_law 421 [x0, x1, x2, x3] (.int y :: .int x :: st) h = Run M_L_law 422 [x0, x1, x2, x3] (.int (x + y) :: st) h := R_iadd d_L_law_421
theorem d_L_law_422 : decode (mB M_L_law) 422 = .ok (.iaload, 1) := by decide +kernel
theorem r_L_law_422 {x0 x1 x2 x3 : Value} {a : Nat} {i : Int32} {st : List Value} {h : AH} : Run M_L_law 422 [x0, x1, x2, x3] (.int i :: .ref a :: st) h = if (gI 0 h a i).isSome = true then Run M_L_law 423 [x0, x1, x2, x3] (.int ((gI 0 h a i).getD 0) :: st) h else none := R_iaload d_L_law_422
theorem d_L_law_423 : decode (mB M_L_law) 423 = .ok (.aload_n 0, 1) := by decide +kernel
theorem r_L_law_423 {x1 x2 x3 : Value} {a : Nat} {st : List Value} {h : AH} : Run M_L_law 423 [.ref a, x1, x2, x3] st h = Run M_L_law 424 [.ref a, x1, x2, x3] (.ref a :: st) h := R_aload_n d_L_law_423 rfl
theorem d_L_law_424 : decode (mB M_L_law) 424 = .ok (.iload_n 3, 1) := by decide +kernel
theorem r_L_law_424 {x0 x1 x2 : Value} {a : Int32} {st : List Value} {h : AH} : Run M_L_law 424 [x0, x1, x2, .int a] st h = Run M_L_law 425 [x0, x1, x2, .int a] (.int a :: st) h := R_iload_n d_L_law_424 rfl
theorem d_L_law_425 : decode (mB M_L_law) 425 = .ok (.iconst 3, 1) := by decide +kernel
theorem r_L_law_425 {x0 x1 x2 x3 : Value} {st : List Value} {h : AH} : Run M_L_law 425 [x0, x1, x2, x3] st h = Run M_L_law 426 [x0, x1, x2, x3] (.int (nI 3) :: st) h := R_iconst d_L_law_425 (by decide)
theorem d_L_law_426 : decode (mB M_L_law) 426 = .ok (.iadd, 1) := by decide +kernel
theorem r_L_law_426 {x0 x1 x2 x3 : Value} {x y : Int32} {st : List Value} {h : AH} : Run M_L_law 426 [x0, x1, x2, x3] (.int y :: .int x :: st) h = Run M_L_law 427 [x0, x1, x2, x3] (.int (x + y) :: st) h := R_iadd d_L_law_426
theorem d_L_law_427 : decode (mB M_L_law) 427 = .ok (.iaload, 1) := by decide +kernel
theorem r_L_law_427 {x0 x1 x2 x3 : Value} {a : Nat} {i : Int32} {st : List Value} {h : AH} : Run M_L_law 427 [x0, x1, x2, x3] (.int i :: .ref a :: st) h = if (gI 0 h a i).isSome = true then Run M_L_law 428 [x0, x1, x2, x3] (.int ((gI 0 h a i).getD 0) :: st) h else none := R_iaload d_L_law_427
theorem d_L_law_428 : decode (mB M_L_law) 428 = .ok (.invokevirtual 48, 3) := by decide +kernel
theorem r_L_law_428 {x0 x1 x2 x3 : Value} {p0 : Int32} {p1 : Int32} {p2 : Int32} {a : Nat} {h : AH} : Run M_L_law 428 [x0, x1, x2, x3] (.int p2 :: .int p1 :: .int p0 :: .ref a :: []) h = if refO h 8 (some (.ref a)) = true then (if (Call M_X8_costs h [.ref a, .int p0, .int p1, .int p2]).isSome = true then Run M_L_law 431 [x0, x1, x2, x3] (rL (Call M_X8_costs h [.ref a, .int p0, .int p1, .int p2]) ++ []) (cH (Call M_X8_costs h [.ref a, .int p0, .int p1, .int p2])) else none) else none := R_virt d_L_law_428 rfl rfl rfl rfl rfl (Nat.le_of_ble_eq_true rfl)
theorem d_L_law_431 : decode (mB M_L_law) 431 = .ok (.aload_n 2, 1) := by decide +kernel
theorem r_L_law_431 {x0 x1 x3 : Value} {a : Nat} {st : List Value} {h : AH} : Run M_L_law 431 [x0, x1, .ref a, x3] st h = Run M_L_law 432 [x0, x1, .ref a, x3] (.ref a :: st) h := R_aload_n d_L_law_431 rfl
theorem d_L_law_432 : decode (mB M_L_law) 432 = .ok (.aload_n 0, 1) := by decide +kernel
theorem r_L_law_432 {x1 x2 x3 : Value} {a : Nat} {st : List Value} {h : AH} : Run M_L_law 432 [.ref a, x1, x2, x3] st h = Run M_L_law 433 [.ref a, x1, x2, x3] (.ref a :: st) h := R_aload_n d_L_law_432 rfl
theorem d_L_law_433 : decode (mB M_L_law) 433 = .ok (.iload_n 3, 1) := by decide +kernel
theorem r_L_law_433 {x0 x1 x2 : Value} {a : Int32} {st : List Value} {h : AH} : Run M_L_law 433 [x0, x1, x2, .int a] st h = Run M_L_law 434 [x0, x1, x2, .int a] (.int a :: st) h := R_iload_n d_L_law_433 rfl
theorem d_L_law_434 : decode (mB M_L_law) 434 = .ok (.iconst 1, 1) := by decide +kernel
theorem r_L_law_434 {x0 x1 x2 x3 : Value} {st : List Value} {h : AH} : Run M_L_law 434 [x0, x1, x2, x3] st h = Run M_L_law 435 [x0, x1, x2, x3] (.int (nI 1) :: st) h := R_iconst d_L_law_434 (by decide)
theorem d_L_law_435 : decode (mB M_L_law) 435 = .ok (.iadd, 1) := by decide +kernel
theorem r_L_law_435 {x0 x1 x2 x3 : Value} {x y : Int32} {st : List Value} {h : AH} : Run M_L_law 435 [x0, x1, x2, x3] (.int y :: .int x :: st) h = Run M_L_law 436 [x0, x1, x2, x3] (.int (x + y) :: st) h := R_iadd d_L_law_435
theorem d_L_law_436 : decode (mB M_L_law) 436 = .ok (.iaload, 1) := by decide +kernel
theorem r_L_law_436 {x0 x1 x2 x3 : Value} {a : Nat} {i : Int32} {st : List Value} {h : AH} : Run M_L_law 436 [x0, x1, x2, x3] (.int i :: .ref a :: st) h = if (gI 0 h a i).isSome = true then Run M_L_law 437 [x0, x1, x2, x3] (.int ((gI 0 h a i).getD 0) :: st) h else none := R_iaload d_L_law_436
theorem d_L_law_437 : decode (mB M_L_law) 437 = .ok (.aload_n 0, 1) := by decide +kernel
theorem r_L_law_437 {x1 x2 x3 : Value} {a : Nat} {st : List Value} {h : AH} : Run M_L_law 437 [.ref a, x1, x2, x3] st h = Run M_L_law 438 [.ref a, x1, x2, x3] (.ref a :: st) h := R_aload_n d_L_law_437 rfl
theorem d_L_law_438 : decode (mB M_L_law) 438 = .ok (.iload_n 3, 1) := by decide +kernel
theorem r_L_law_438 {x0 x1 x2 : Value} {a : Int32} {st : List Value} {h : AH} : Run M_L_law 438 [x0, x1, x2, .int a] st h = Run M_L_law 439 [x0, x1, x2, .int a] (.int a :: st) h := R_iload_n d_L_law_438 rfl
theorem d_L_law_439 : decode (mB M_L_law) 439 = .ok (.iconst 2, 1) := by decide +kernel
theorem r_L_law_439 {x0 x1 x2 x3 : Value} {st : List Value} {h : AH} : Run M_L_law 439 [x0, x1, x2, x3] st h = Run M_L_law 440 [x0, x1, x2, x3] (.int (nI 2) :: st) h := R_iconst d_L_law_439 (by decide)
theorem d_L_law_440 : decode (mB M_L_law) 440 = .ok (.iadd, 1) := by decide +kernel
theorem r_L_law_440 {x0 x1 x2 x3 : Value} {x y : Int32} {st : List Value} {h : AH} : Run M_L_law 440 [x0, x1, x2, x3] (.int y :: .int x :: st) h = Run M_L_law 441 [x0, x1, x2, x3] (.int (x + y) :: st) h := R_iadd d_L_law_440
theorem d_L_law_441 : decode (mB M_L_law) 441 = .ok (.iaload, 1) := by decide +kernel
theorem r_L_law_441 {x0 x1 x2 x3 : Value} {a : Nat} {i : Int32} {st : List Value} {h : AH} : Run M_L_law 441 [x0, x1, x2, x3] (.int i :: .ref a :: st) h = if (gI 0 h a i).isSome = true then Run M_L_law 442 [x0, x1, x2, x3] (.int ((gI 0 h a i).getD 0) :: st) h else none := R_iaload d_L_law_441
theorem d_L_law_442 : decode (mB M_L_law) 442 = .ok (.aload_n 0, 1) := by decide +kernel
theorem r_L_law_442 {x1 x2 x3 : Value} {a : Nat} {st : List Value} {h : AH} : Run M_L_law 442 [.ref a, x1, x2, x3] st h = Run M_L_law 443 [.ref a, x1, x2, x3] (.ref a :: st) h := R_aload_n d_L_law_442 rfl
theorem d_L_law_443 : decode (mB M_L_law) 443 = .ok (.iload_n 3, 1) := by decide +kernel
theorem r_L_law_443 {x0 x1 x2 : Value} {a : Int32} {st : List Value} {h : AH} : Run M_L_law 443 [x0, x1, x2, .int a] st h = Run M_L_law 444 [x0, x1, x2, .int a] (.int a :: st) h := R_iload_n d_L_law_443 rfl
theorem d_L_law_444 : decode (mB M_L_law) 444 = .ok (.iconst 3, 1) := by decide +kernel
theorem r_L_law_444 {x0 x1 x2 x3 : Value} {st : List Value} {h : AH} : Run M_L_law 444 [x0, x1, x2, x3] st h = Run M_L_law 445 [x0, x1, x2, x3] (.int (nI 3) :: st) h := R_iconst d_L_law_444 (by decide)
theorem d_L_law_445 : decode (mB M_L_law) 445 = .ok (.iadd, 1) := by decide +kernel
theorem r_L_law_445 {x0 x1 x2 x3 : Value} {x y : Int32} {st : List Value} {h : AH} : Run M_L_law 445 [x0, x1, x2, x3] (.int y :: .int x :: st) h = Run M_L_law 446 [x0, x1, x2, x3] (.int (x + y) :: st) h := R_iadd d_L_law_445
theorem d_L_law_446 : decode (mB M_L_law) 446 = .ok (.iaload, 1) := by decide +kernel
theorem r_L_law_446 {x0 x1 x2 x3 : Value} {a : Nat} {i : Int32} {st : List Value} {h : AH} : Run M_L_law 446 [x0, x1, x2, x3] (.int i :: .ref a :: st) h = if (gI 0 h a i).isSome = true then Run M_L_law 447 [x0, x1, x2, x3] (.int ((gI 0 h a i).getD 0) :: st) h else none := R_iaload d_L_law_446
theorem d_L_law_447 : decode (mB M_L_law) 447 = .ok (.invokevirtual 52, 3) := by decide +kernel
theorem r_L_law_447 {x0 x1 x2 x3 : Value} {p0 : Int32} {p1 : Int32} {p2 : Int32} {a : Nat} {w0 : Value} {h : AH} : Run M_L_law 447 [x0, x1, x2, x3] (.int p2 :: .int p1 :: .int p0 :: .ref a :: [w0]) h = if refO h 9 (some (.ref a)) = true then (if (Call M_X9_costs h [.ref a, .int p0, .int p1, .int p2]).isSome = true then Run M_L_law 450 [x0, x1, x2, x3] (rL (Call M_X9_costs h [.ref a, .int p0, .int p1, .int p2]) ++ [w0]) (cH (Call M_X9_costs h [.ref a, .int p0, .int p1, .int p2])) else none) else none := R_virt d_L_law_447 rfl rfl rfl rfl rfl (Nat.le_of_ble_eq_true rfl)
theorem d_L_law_450 : decode (mB M_L_law) 450 = .ok (.if_icmp .eq 897, 3) := by decide +kernel
theorem r_L_law_450 {x0 x1 x2 x3 : Value} {x y : Int32} {st : List Value} {h : AH} : Run M_L_law 450 [x0, x1, x2, x3] (.int y :: .int x :: st) h = if x = y then Run M_L_law 1347 [x0, x1, x2, x3] st h else Run M_L_law 453 [x0, x1, x2, x3] st h := R_icmp_eq d_L_law_450 (by decide)
theorem d_L_law_453 : decode (mB M_L_law) 453 = .ok (.iconst 0, 1) := by decide +kernel
theorem r_L_law_453 {x0 x1 x2 x3 : Value} {st : List Value} {h : AH} : Run M_L_law 453 [x0, x1, x2, x3] st h = Run M_L_law 454 [x0, x1, x2, x3] (.int (nI 0) :: st) h := R_iconst d_L_law_453 (by decide)
theorem d_L_law_454 : decode (mB M_L_law) 454 = .ok (.ireturn, 1) := by decide +kernel
theorem r_L_law_454_0 {x0 x1 x2 x3 : Value} {h : AH} : Run M_L_law 454 [x0, x1, x2, x3] [.int (nI 0)] h = some (h, some (.int (nI 0))) := R_ireturn d_L_law_454 rfl (by decide)
theorem r_L_law_454_1 {x0 x1 x2 x3 : Value} {h : AH} : Run M_L_law 454 [x0, x1, x2, x3] [.int (nI 1)] h = some (h, some (.int (nI 1))) := R_ireturn d_L_law_454 rfl (by decide)
theorem r_L_law_454_c {x0 x1 x2 x3 : Value} {c : Prop} [Decidable c] {h : AH} : Run M_L_law 454 [x0, x1, x2, x3] [.int (bI c)] h = some (h, some (.int (bI c))) := R_ireturn d_L_law_454 rfl narrow_bI
theorem d_L_law_455 : decode (mB M_L_law) 455 = .ok (.aload_n 1, 1) := by decide +kernel
theorem r_L_law_455 {x0 x2 x3 : Value} {a : Nat} {st : List Value} {h : AH} : Run M_L_law 455 [x0, .ref a, x2, x3] st h = Run M_L_law 456 [x0, .ref a, x2, x3] (.ref a :: st) h := R_aload_n d_L_law_455 rfl
theorem d_L_law_456 : decode (mB M_L_law) 456 = .ok (.aload_n 0, 1) := by decide +kernel
theorem r_L_law_456 {x1 x2 x3 : Value} {a : Nat} {st : List Value} {h : AH} : Run M_L_law 456 [.ref a, x1, x2, x3] st h = Run M_L_law 457 [.ref a, x1, x2, x3] (.ref a :: st) h := R_aload_n d_L_law_456 rfl
theorem d_L_law_457 : decode (mB M_L_law) 457 = .ok (.iload_n 3, 1) := by decide +kernel
theorem r_L_law_457 {x0 x1 x2 : Value} {a : Int32} {st : List Value} {h : AH} : Run M_L_law 457 [x0, x1, x2, .int a] st h = Run M_L_law 458 [x0, x1, x2, .int a] (.int a :: st) h := R_iload_n d_L_law_457 rfl
theorem d_L_law_458 : decode (mB M_L_law) 458 = .ok (.iconst 1, 1) := by decide +kernel
theorem r_L_law_458 {x0 x1 x2 x3 : Value} {st : List Value} {h : AH} : Run M_L_law 458 [x0, x1, x2, x3] st h = Run M_L_law 459 [x0, x1, x2, x3] (.int (nI 1) :: st) h := R_iconst d_L_law_458 (by decide)
theorem d_L_law_459 : decode (mB M_L_law) 459 = .ok (.iadd, 1) := by decide +kernel
theorem r_L_law_459 {x0 x1 x2 x3 : Value} {x y : Int32} {st : List Value} {h : AH} : Run M_L_law 459 [x0, x1, x2, x3] (.int y :: .int x :: st) h = Run M_L_law 460 [x0, x1, x2, x3] (.int (x + y) :: st) h := R_iadd d_L_law_459
theorem d_L_law_460 : decode (mB M_L_law) 460 = .ok (.iaload, 1) := by decide +kernel
theorem r_L_law_460 {x0 x1 x2 x3 : Value} {a : Nat} {i : Int32} {st : List Value} {h : AH} : Run M_L_law 460 [x0, x1, x2, x3] (.int i :: .ref a :: st) h = if (gI 0 h a i).isSome = true then Run M_L_law 461 [x0, x1, x2, x3] (.int ((gI 0 h a i).getD 0) :: st) h else none := R_iaload d_L_law_460
theorem d_L_law_461 : decode (mB M_L_law) 461 = .ok (.aload_n 0, 1) := by decide +kernel
theorem r_L_law_461 {x1 x2 x3 : Value} {a : Nat} {st : List Value} {h : AH} : Run M_L_law 461 [.ref a, x1, x2, x3] st h = Run M_L_law 462 [.ref a, x1, x2, x3] (.ref a :: st) h := R_aload_n d_L_law_461 rfl
theorem d_L_law_462 : decode (mB M_L_law) 462 = .ok (.iload_n 3, 1) := by decide +kernel
theorem r_L_law_462 {x0 x1 x2 : Value} {a : Int32} {st : List Value} {h : AH} : Run M_L_law 462 [x0, x1, x2, .int a] st h = Run M_L_law 463 [x0, x1, x2, .int a] (.int a :: st) h := R_iload_n d_L_law_462 rfl
theorem d_L_law_463 : decode (mB M_L_law) 463 = .ok (.iconst 2, 1) := by decide +kernel
theorem r_L_law_463 {x0 x1 x2 x3 : Value} {st : List Value} {h : AH} : Run M_L_law 463 [x0, x1, x2, x3] st h = Run M_L_law 464 [x0, x1, x2, x3] (.int (nI 2) :: st) h := R_iconst d_L_law_463 (by decide)
theorem d_L_law_464 : decode (mB M_L_law) 464 = .ok (.iadd, 1) := by decide +kernel
theorem r_L_law_464 {x0 x1 x2 x3 : Value} {x y : Int32} {st : List Value} {h : AH} : Run M_L_law 464 [x0, x1, x2, x3] (.int y :: .int x :: st) h = Run M_L_law 465 [x0, x1, x2, x3] (.int (x + y) :: st) h := R_iadd d_L_law_464
theorem d_L_law_465 : decode (mB M_L_law) 465 = .ok (.iaload, 1) := by decide +kernel
theorem r_L_law_465 {x0 x1 x2 x3 : Value} {a : Nat} {i : Int32} {st : List Value} {h : AH} : Run M_L_law 465 [x0, x1, x2, x3] (.int i :: .ref a :: st) h = if (gI 0 h a i).isSome = true then Run M_L_law 466 [x0, x1, x2, x3] (.int ((gI 0 h a i).getD 0) :: st) h else none := R_iaload d_L_law_465
theorem d_L_law_466 : decode (mB M_L_law) 466 = .ok (.invokevirtual 53, 3) := by decide +kernel
theorem r_L_law_466 {x0 x1 x2 x3 : Value} {p0 : Int32} {p1 : Int32} {a : Nat} {h : AH} : Run M_L_law 466 [x0, x1, x2, x3] (.int p1 :: .int p0 :: .ref a :: []) h = if refO h 8 (some (.ref a)) = true then (if (Call M_X8_sign h [.ref a, .int p0, .int p1]).isSome = true then Run M_L_law 469 [x0, x1, x2, x3] (rL (Call M_X8_sign h [.ref a, .int p0, .int p1]) ++ []) (cH (Call M_X8_sign h [.ref a, .int p0, .int p1])) else none) else none := R_virt d_L_law_466 rfl rfl rfl rfl rfl (Nat.le_of_ble_eq_true rfl)
theorem d_L_law_469 : decode (mB M_L_law) 469 = .ok (.aload_n 2, 1) := by decide +kernel
theorem r_L_law_469 {x0 x1 x3 : Value} {a : Nat} {st : List Value} {h : AH} : Run M_L_law 469 [x0, x1, .ref a, x3] st h = Run M_L_law 470 [x0, x1, .ref a, x3] (.ref a :: st) h := R_aload_n d_L_law_469 rfl
theorem d_L_law_470 : decode (mB M_L_law) 470 = .ok (.aload_n 0, 1) := by decide +kernel
theorem r_L_law_470 {x1 x2 x3 : Value} {a : Nat} {st : List Value} {h : AH} : Run M_L_law 470 [.ref a, x1, x2, x3] st h = Run M_L_law 471 [.ref a, x1, x2, x3] (.ref a :: st) h := R_aload_n d_L_law_470 rfl
theorem d_L_law_471 : decode (mB M_L_law) 471 = .ok (.iload_n 3, 1) := by decide +kernel
theorem r_L_law_471 {x0 x1 x2 : Value} {a : Int32} {st : List Value} {h : AH} : Run M_L_law 471 [x0, x1, x2, .int a] st h = Run M_L_law 472 [x0, x1, x2, .int a] (.int a :: st) h := R_iload_n d_L_law_471 rfl
theorem d_L_law_472 : decode (mB M_L_law) 472 = .ok (.iconst 1, 1) := by decide +kernel
theorem r_L_law_472 {x0 x1 x2 x3 : Value} {st : List Value} {h : AH} : Run M_L_law 472 [x0, x1, x2, x3] st h = Run M_L_law 473 [x0, x1, x2, x3] (.int (nI 1) :: st) h := R_iconst d_L_law_472 (by decide)
theorem d_L_law_473 : decode (mB M_L_law) 473 = .ok (.iadd, 1) := by decide +kernel
theorem r_L_law_473 {x0 x1 x2 x3 : Value} {x y : Int32} {st : List Value} {h : AH} : Run M_L_law 473 [x0, x1, x2, x3] (.int y :: .int x :: st) h = Run M_L_law 474 [x0, x1, x2, x3] (.int (x + y) :: st) h := R_iadd d_L_law_473
theorem d_L_law_474 : decode (mB M_L_law) 474 = .ok (.iaload, 1) := by decide +kernel
theorem r_L_law_474 {x0 x1 x2 x3 : Value} {a : Nat} {i : Int32} {st : List Value} {h : AH} : Run M_L_law 474 [x0, x1, x2, x3] (.int i :: .ref a :: st) h = if (gI 0 h a i).isSome = true then Run M_L_law 475 [x0, x1, x2, x3] (.int ((gI 0 h a i).getD 0) :: st) h else none := R_iaload d_L_law_474
theorem d_L_law_475 : decode (mB M_L_law) 475 = .ok (.aload_n 0, 1) := by decide +kernel
theorem r_L_law_475 {x1 x2 x3 : Value} {a : Nat} {st : List Value} {h : AH} : Run M_L_law 475 [.ref a, x1, x2, x3] st h = Run M_L_law 476 [.ref a, x1, x2, x3] (.ref a :: st) h := R_aload_n d_L_law_475 rfl
theorem d_L_law_476 : decode (mB M_L_law) 476 = .ok (.iload_n 3, 1) := by decide +kernel
theorem r_L_law_476 {x0 x1 x2 : Value} {a : Int32} {st : List Value} {h : AH} : Run M_L_law 476 [x0, x1, x2, .int a] st h = Run M_L_law 477 [x0, x1, x2, .int a] (.int a :: st) h := R_iload_n d_L_law_476 rfl
theorem d_L_law_477 : decode (mB M_L_law) 477 = .ok (.iconst 2, 1) := by decide +kernel
theorem r_L_law_477 {x0 x1 x2 x3 : Value} {st : List Value} {h : AH} : Run M_L_law 477 [x0, x1, x2, x3] st h = Run M_L_law 478 [x0, x1, x2, x3] (.int (nI 2) :: st) h := R_iconst d_L_law_477 (by decide)
theorem d_L_law_478 : decode (mB M_L_law) 478 = .ok (.iadd, 1) := by decide +kernel
theorem r_L_law_478 {x0 x1 x2 x3 : Value} {x y : Int32} {st : List Value} {h : AH} : Run M_L_law 478 [x0, x1, x2, x3] (.int y :: .int x :: st) h = Run M_L_law 479 [x0, x1, x2, x3] (.int (x + y) :: st) h := R_iadd d_L_law_478
theorem d_L_law_479 : decode (mB M_L_law) 479 = .ok (.iaload, 1) := by decide +kernel
theorem r_L_law_479 {x0 x1 x2 x3 : Value} {a : Nat} {i : Int32} {st : List Value} {h : AH} : Run M_L_law 479 [x0, x1, x2, x3] (.int i :: .ref a :: st) h = if (gI 0 h a i).isSome = true then Run M_L_law 480 [x0, x1, x2, x3] (.int ((gI 0 h a i).getD 0) :: st) h else none := R_iaload d_L_law_479
theorem d_L_law_480 : decode (mB M_L_law) 480 = .ok (.invokevirtual 56, 3) := by decide +kernel
theorem r_L_law_480 {x0 x1 x2 x3 : Value} {p0 : Int32} {p1 : Int32} {a : Nat} {w0 : Value} {h : AH} : Run M_L_law 480 [x0, x1, x2, x3] (.int p1 :: .int p0 :: .ref a :: [w0]) h = if refO h 9 (some (.ref a)) = true then (if (Call M_X9_sign h [.ref a, .int p0, .int p1]).isSome = true then Run M_L_law 483 [x0, x1, x2, x3] (rL (Call M_X9_sign h [.ref a, .int p0, .int p1]) ++ [w0]) (cH (Call M_X9_sign h [.ref a, .int p0, .int p1])) else none) else none := R_virt d_L_law_480 rfl rfl rfl rfl rfl (Nat.le_of_ble_eq_true rfl)
theorem d_L_law_483 : decode (mB M_L_law) 483 = .ok (.if_icmp .eq 864, 3) := by decide +kernel
theorem r_L_law_483 {x0 x1 x2 x3 : Value} {x y : Int32} {st : List Value} {h : AH} : Run M_L_law 483 [x0, x1, x2, x3] (.int y :: .int x :: st) h = if x = y then Run M_L_law 1347 [x0, x1, x2, x3] st h else Run M_L_law 486 [x0, x1, x2, x3] st h := R_icmp_eq d_L_law_483 (by decide)
theorem d_L_law_486 : decode (mB M_L_law) 486 = .ok (.iconst 0, 1) := by decide +kernel
theorem r_L_law_486 {x0 x1 x2 x3 : Value} {st : List Value} {h : AH} : Run M_L_law 486 [x0, x1, x2, x3] st h = Run M_L_law 487 [x0, x1, x2, x3] (.int (nI 0) :: st) h := R_iconst d_L_law_486 (by decide)
theorem d_L_law_487 : decode (mB M_L_law) 487 = .ok (.ireturn, 1) := by decide +kernel
theorem r_L_law_487_0 {x0 x1 x2 x3 : Value} {h : AH} : Run M_L_law 487 [x0, x1, x2, x3] [.int (nI 0)] h = some (h, some (.int (nI 0))) := R_ireturn d_L_law_487 rfl (by decide)
theorem r_L_law_487_1 {x0 x1 x2 x3 : Value} {h : AH} : Run M_L_law 487 [x0, x1, x2, x3] [.int (nI 1)] h = some (h, some (.int (nI 1))) := R_ireturn d_L_law_487 rfl (by decide)
theorem r_L_law_487_c {x0 x1 x2 x3 : Value} {c : Prop} [Decidable c] {h : AH} : Run M_L_law 487 [x0, x1, x2, x3] [.int (bI c)] h = some (h, some (.int (bI c))) := R_ireturn d_L_law_487 rfl narrow_bI
theorem d_L_law_488 : decode (mB M_L_law) 488 = .ok (.aload_n 1, 1) := by decide +kernel
theorem r_L_law_488 {x0 x2 x3 : Value} {a : Nat} {st : List Value} {h : AH} : Run M_L_law 488 [x0, .ref a, x2, x3] st h = Run M_L_law 489 [x0, .ref a, x2, x3] (.ref a :: st) h := R_aload_n d_L_law_488 rfl
theorem d_L_law_489 : decode (mB M_L_law) 489 = .ok (.aload_n 0, 1) := by decide +kernel
theorem r_L_law_489 {x1 x2 x3 : Value} {a : Nat} {st : List Value} {h : AH} : Run M_L_law 489 [.ref a, x1, x2, x3] st h = Run M_L_law 490 [.ref a, x1, x2, x3] (.ref a :: st) h := R_aload_n d_L_law_489 rfl
theorem d_L_law_490 : decode (mB M_L_law) 490 = .ok (.iload_n 3, 1) := by decide +kernel
theorem r_L_law_490 {x0 x1 x2 : Value} {a : Int32} {st : List Value} {h : AH} : Run M_L_law 490 [x0, x1, x2, .int a] st h = Run M_L_law 491 [x0, x1, x2, .int a] (.int a :: st) h := R_iload_n d_L_law_490 rfl
theorem d_L_law_491 : decode (mB M_L_law) 491 = .ok (.iconst 1, 1) := by decide +kernel
theorem r_L_law_491 {x0 x1 x2 x3 : Value} {st : List Value} {h : AH} : Run M_L_law 491 [x0, x1, x2, x3] st h = Run M_L_law 492 [x0, x1, x2, x3] (.int (nI 1) :: st) h := R_iconst d_L_law_491 (by decide)
theorem d_L_law_492 : decode (mB M_L_law) 492 = .ok (.iadd, 1) := by decide +kernel
theorem r_L_law_492 {x0 x1 x2 x3 : Value} {x y : Int32} {st : List Value} {h : AH} : Run M_L_law 492 [x0, x1, x2, x3] (.int y :: .int x :: st) h = Run M_L_law 493 [x0, x1, x2, x3] (.int (x + y) :: st) h := R_iadd d_L_law_492
theorem d_L_law_493 : decode (mB M_L_law) 493 = .ok (.iaload, 1) := by decide +kernel
theorem r_L_law_493 {x0 x1 x2 x3 : Value} {a : Nat} {i : Int32} {st : List Value} {h : AH} : Run M_L_law 493 [x0, x1, x2, x3] (.int i :: .ref a :: st) h = if (gI 0 h a i).isSome = true then Run M_L_law 494 [x0, x1, x2, x3] (.int ((gI 0 h a i).getD 0) :: st) h else none := R_iaload d_L_law_493
theorem d_L_law_494 : decode (mB M_L_law) 494 = .ok (.aload_n 0, 1) := by decide +kernel
theorem r_L_law_494 {x1 x2 x3 : Value} {a : Nat} {st : List Value} {h : AH} : Run M_L_law 494 [.ref a, x1, x2, x3] st h = Run M_L_law 495 [.ref a, x1, x2, x3] (.ref a :: st) h := R_aload_n d_L_law_494 rfl
theorem d_L_law_495 : decode (mB M_L_law) 495 = .ok (.iload_n 3, 1) := by decide +kernel
theorem r_L_law_495 {x0 x1 x2 : Value} {a : Int32} {st : List Value} {h : AH} : Run M_L_law 495 [x0, x1, x2, .int a] st h = Run M_L_law 496 [x0, x1, x2, .int a] (.int a :: st) h := R_iload_n d_L_law_495 rfl
theorem d_L_law_496 : decode (mB M_L_law) 496 = .ok (.iconst 2, 1) := by decide +kernel
theorem r_L_law_496 {x0 x1 x2 x3 : Value} {st : List Value} {h : AH} : Run M_L_law 496 [x0, x1, x2, x3] st h = Run M_L_law 497 [x0, x1, x2, x3] (.int (nI 2) :: st) h := R_iconst d_L_law_496 (by decide)
theorem d_L_law_497 : decode (mB M_L_law) 497 = .ok (.iadd, 1) := by decide +kernel
theorem r_L_law_497 {x0 x1 x2 x3 : Value} {x y : Int32} {st : List Value} {h : AH} : Run M_L_law 497 [x0, x1, x2, x3] (.int y :: .int x :: st) h = Run M_L_law 498 [x0, x1, x2, x3] (.int (x + y) :: st) h := R_iadd d_L_law_497
theorem d_L_law_498 : decode (mB M_L_law) 498 = .ok (.iaload, 1) := by decide +kernel
theorem r_L_law_498 {x0 x1 x2 x3 : Value} {a : Nat} {i : Int32} {st : List Value} {h : AH} : Run M_L_law 498 [x0, x1, x2, x3] (.int i :: .ref a :: st) h = if (gI 0 h a i).isSome = true then Run M_L_law 499 [x0, x1, x2, x3] (.int ((gI 0 h a i).getD 0) :: st) h else none := R_iaload d_L_law_498
theorem d_L_law_499 : decode (mB M_L_law) 499 = .ok (.aload_n 0, 1) := by decide +kernel
theorem r_L_law_499 {x1 x2 x3 : Value} {a : Nat} {st : List Value} {h : AH} : Run M_L_law 499 [.ref a, x1, x2, x3] st h = Run M_L_law 500 [.ref a, x1, x2, x3] (.ref a :: st) h := R_aload_n d_L_law_499 rfl
theorem d_L_law_500 : decode (mB M_L_law) 500 = .ok (.iload_n 3, 1) := by decide +kernel
theorem r_L_law_500 {x0 x1 x2 : Value} {a : Int32} {st : List Value} {h : AH} : Run M_L_law 500 [x0, x1, x2, .int a] st h = Run M_L_law 501 [x0, x1, x2, .int a] (.int a :: st) h := R_iload_n d_L_law_500 rfl
theorem d_L_law_501 : decode (mB M_L_law) 501 = .ok (.iconst 3, 1) := by decide +kernel
theorem r_L_law_501 {x0 x1 x2 x3 : Value} {st : List Value} {h : AH} : Run M_L_law 501 [x0, x1, x2, x3] st h = Run M_L_law 502 [x0, x1, x2, x3] (.int (nI 3) :: st) h := R_iconst d_L_law_501 (by decide)
theorem d_L_law_502 : decode (mB M_L_law) 502 = .ok (.iadd, 1) := by decide +kernel
theorem r_L_law_502 {x0 x1 x2 x3 : Value} {x y : Int32} {st : List Value} {h : AH} : Run M_L_law 502 [x0, x1, x2, x3] (.int y :: .int x :: st) h = Run M_L_law 503 [x0, x1, x2, x3] (.int (x + y) :: st) h := R_iadd d_L_law_502
theorem d_L_law_503 : decode (mB M_L_law) 503 = .ok (.iaload, 1) := by decide +kernel
theorem r_L_law_503 {x0 x1 x2 x3 : Value} {a : Nat} {i : Int32} {st : List Value} {h : AH} : Run M_L_law 503 [x0, x1, x2, x3] (.int i :: .ref a :: st) h = if (gI 0 h a i).isSome = true then Run M_L_law 504 [x0, x1, x2, x3] (.int ((gI 0 h a i).getD 0) :: st) h else none := R_iaload d_L_law_503
theorem d_L_law_504 : decode (mB M_L_law) 504 = .ok (.invokevirtual 57, 3) := by decide +kernel
theorem r_L_law_504 {x0 x1 x2 x3 : Value} {p0 : Int32} {p1 : Int32} {p2 : Int32} {a : Nat} {h : AH} : Run M_L_law 504 [x0, x1, x2, x3] (.int p2 :: .int p1 :: .int p0 :: .ref a :: []) h = if refO h 8 (some (.ref a)) = true then (if (Call M_X8_lags h [.ref a, .int p0, .int p1, .int p2]).isSome = true then Run M_L_law 507 [x0, x1, x2, x3] (rL (Call M_X8_lags h [.ref a, .int p0, .int p1, .int p2]) ++ []) (cH (Call M_X8_lags h [.ref a, .int p0, .int p1, .int p2])) else none) else none := R_virt d_L_law_504 rfl rfl rfl rfl rfl (Nat.le_of_ble_eq_true rfl)
theorem d_L_law_507 : decode (mB M_L_law) 507 = .ok (.aload_n 2, 1) := by decide +kernel
theorem r_L_law_507 {x0 x1 x3 : Value} {a : Nat} {st : List Value} {h : AH} : Run M_L_law 507 [x0, x1, .ref a, x3] st h = Run M_L_law 508 [x0, x1, .ref a, x3] (.ref a :: st) h := R_aload_n d_L_law_507 rfl
theorem d_L_law_508 : decode (mB M_L_law) 508 = .ok (.aload_n 0, 1) := by decide +kernel
theorem r_L_law_508 {x1 x2 x3 : Value} {a : Nat} {st : List Value} {h : AH} : Run M_L_law 508 [.ref a, x1, x2, x3] st h = Run M_L_law 509 [.ref a, x1, x2, x3] (.ref a :: st) h := R_aload_n d_L_law_508 rfl
theorem d_L_law_509 : decode (mB M_L_law) 509 = .ok (.iload_n 3, 1) := by decide +kernel
theorem r_L_law_509 {x0 x1 x2 : Value} {a : Int32} {st : List Value} {h : AH} : Run M_L_law 509 [x0, x1, x2, .int a] st h = Run M_L_law 510 [x0, x1, x2, .int a] (.int a :: st) h := R_iload_n d_L_law_509 rfl
theorem d_L_law_510 : decode (mB M_L_law) 510 = .ok (.iconst 1, 1) := by decide +kernel
theorem r_L_law_510 {x0 x1 x2 x3 : Value} {st : List Value} {h : AH} : Run M_L_law 510 [x0, x1, x2, x3] st h = Run M_L_law 511 [x0, x1, x2, x3] (.int (nI 1) :: st) h := R_iconst d_L_law_510 (by decide)
theorem d_L_law_511 : decode (mB M_L_law) 511 = .ok (.iadd, 1) := by decide +kernel
theorem r_L_law_511 {x0 x1 x2 x3 : Value} {x y : Int32} {st : List Value} {h : AH} : Run M_L_law 511 [x0, x1, x2, x3] (.int y :: .int x :: st) h = Run M_L_law 512 [x0, x1, x2, x3] (.int (x + y) :: st) h := R_iadd d_L_law_511
theorem d_L_law_512 : decode (mB M_L_law) 512 = .ok (.iaload, 1) := by decide +kernel
theorem r_L_law_512 {x0 x1 x2 x3 : Value} {a : Nat} {i : Int32} {st : List Value} {h : AH} : Run M_L_law 512 [x0, x1, x2, x3] (.int i :: .ref a :: st) h = if (gI 0 h a i).isSome = true then Run M_L_law 513 [x0, x1, x2, x3] (.int ((gI 0 h a i).getD 0) :: st) h else none := R_iaload d_L_law_512
theorem d_L_law_513 : decode (mB M_L_law) 513 = .ok (.aload_n 0, 1) := by decide +kernel
theorem r_L_law_513 {x1 x2 x3 : Value} {a : Nat} {st : List Value} {h : AH} : Run M_L_law 513 [.ref a, x1, x2, x3] st h = Run M_L_law 514 [.ref a, x1, x2, x3] (.ref a :: st) h := R_aload_n d_L_law_513 rfl
theorem d_L_law_514 : decode (mB M_L_law) 514 = .ok (.iload_n 3, 1) := by decide +kernel
theorem r_L_law_514 {x0 x1 x2 : Value} {a : Int32} {st : List Value} {h : AH} : Run M_L_law 514 [x0, x1, x2, .int a] st h = Run M_L_law 515 [x0, x1, x2, .int a] (.int a :: st) h := R_iload_n d_L_law_514 rfl
theorem d_L_law_515 : decode (mB M_L_law) 515 = .ok (.iconst 2, 1) := by decide +kernel
theorem r_L_law_515 {x0 x1 x2 x3 : Value} {st : List Value} {h : AH} : Run M_L_law 515 [x0, x1, x2, x3] st h = Run M_L_law 516 [x0, x1, x2, x3] (.int (nI 2) :: st) h := R_iconst d_L_law_515 (by decide)
theorem d_L_law_516 : decode (mB M_L_law) 516 = .ok (.iadd, 1) := by decide +kernel
theorem r_L_law_516 {x0 x1 x2 x3 : Value} {x y : Int32} {st : List Value} {h : AH} : Run M_L_law 516 [x0, x1, x2, x3] (.int y :: .int x :: st) h = Run M_L_law 517 [x0, x1, x2, x3] (.int (x + y) :: st) h := R_iadd d_L_law_516
theorem d_L_law_517 : decode (mB M_L_law) 517 = .ok (.iaload, 1) := by decide +kernel
theorem r_L_law_517 {x0 x1 x2 x3 : Value} {a : Nat} {i : Int32} {st : List Value} {h : AH} : Run M_L_law 517 [x0, x1, x2, x3] (.int i :: .ref a :: st) h = if (gI 0 h a i).isSome = true then Run M_L_law 518 [x0, x1, x2, x3] (.int ((gI 0 h a i).getD 0) :: st) h else none := R_iaload d_L_law_517
theorem d_L_law_518 : decode (mB M_L_law) 518 = .ok (.aload_n 0, 1) := by decide +kernel
theorem r_L_law_518 {x1 x2 x3 : Value} {a : Nat} {st : List Value} {h : AH} : Run M_L_law 518 [.ref a, x1, x2, x3] st h = Run M_L_law 519 [.ref a, x1, x2, x3] (.ref a :: st) h := R_aload_n d_L_law_518 rfl
theorem d_L_law_519 : decode (mB M_L_law) 519 = .ok (.iload_n 3, 1) := by decide +kernel
theorem r_L_law_519 {x0 x1 x2 : Value} {a : Int32} {st : List Value} {h : AH} : Run M_L_law 519 [x0, x1, x2, .int a] st h = Run M_L_law 520 [x0, x1, x2, .int a] (.int a :: st) h := R_iload_n d_L_law_519 rfl
theorem d_L_law_520 : decode (mB M_L_law) 520 = .ok (.iconst 3, 1) := by decide +kernel
theorem r_L_law_520 {x0 x1 x2 x3 : Value} {st : List Value} {h : AH} : Run M_L_law 520 [x0, x1, x2, x3] st h = Run M_L_law 521 [x0, x1, x2, x3] (.int (nI 3) :: st) h := R_iconst d_L_law_520 (by decide)
theorem d_L_law_521 : decode (mB M_L_law) 521 = .ok (.iadd, 1) := by decide +kernel
theorem r_L_law_521 {x0 x1 x2 x3 : Value} {x y : Int32} {st : List Value} {h : AH} : Run M_L_law 521 [x0, x1, x2, x3] (.int y :: .int x :: st) h = Run M_L_law 522 [x0, x1, x2, x3] (.int (x + y) :: st) h := R_iadd d_L_law_521
theorem d_L_law_522 : decode (mB M_L_law) 522 = .ok (.iaload, 1) := by decide +kernel
theorem r_L_law_522 {x0 x1 x2 x3 : Value} {a : Nat} {i : Int32} {st : List Value} {h : AH} : Run M_L_law 522 [x0, x1, x2, x3] (.int i :: .ref a :: st) h = if (gI 0 h a i).isSome = true then Run M_L_law 523 [x0, x1, x2, x3] (.int ((gI 0 h a i).getD 0) :: st) h else none := R_iaload d_L_law_522
theorem d_L_law_523 : decode (mB M_L_law) 523 = .ok (.invokevirtual 60, 3) := by decide +kernel
theorem r_L_law_523 {x0 x1 x2 x3 : Value} {p0 : Int32} {p1 : Int32} {p2 : Int32} {a : Nat} {w0 : Value} {h : AH} : Run M_L_law 523 [x0, x1, x2, x3] (.int p2 :: .int p1 :: .int p0 :: .ref a :: [w0]) h = if refO h 9 (some (.ref a)) = true then (if (Call M_X9_lags h [.ref a, .int p0, .int p1, .int p2]).isSome = true then Run M_L_law 526 [x0, x1, x2, x3] (rL (Call M_X9_lags h [.ref a, .int p0, .int p1, .int p2]) ++ [w0]) (cH (Call M_X9_lags h [.ref a, .int p0, .int p1, .int p2])) else none) else none := R_virt d_L_law_523 rfl rfl rfl rfl rfl (Nat.le_of_ble_eq_true rfl)
theorem d_L_law_526 : decode (mB M_L_law) 526 = .ok (.if_icmp .eq 821, 3) := by decide +kernel
theorem r_L_law_526 {x0 x1 x2 x3 : Value} {x y : Int32} {st : List Value} {h : AH} : Run M_L_law 526 [x0, x1, x2, x3] (.int y :: .int x :: st) h = if x = y then Run M_L_law 1347 [x0, x1, x2, x3] st h else Run M_L_law 529 [x0, x1, x2, x3] st h := R_icmp_eq d_L_law_526 (by decide)
theorem d_L_law_529 : decode (mB M_L_law) 529 = .ok (.iconst 0, 1) := by decide +kernel
theorem r_L_law_529 {x0 x1 x2 x3 : Value} {st : List Value} {h : AH} : Run M_L_law 529 [x0, x1, x2, x3] st h = Run M_L_law 530 [x0, x1, x2, x3] (.int (nI 0) :: st) h := R_iconst d_L_law_529 (by decide)
theorem d_L_law_530 : decode (mB M_L_law) 530 = .ok (.ireturn, 1) := by decide +kernel
theorem r_L_law_530_0 {x0 x1 x2 x3 : Value} {h : AH} : Run M_L_law 530 [x0, x1, x2, x3] [.int (nI 0)] h = some (h, some (.int (nI 0))) := R_ireturn d_L_law_530 rfl (by decide)
theorem r_L_law_530_1 {x0 x1 x2 x3 : Value} {h : AH} : Run M_L_law 530 [x0, x1, x2, x3] [.int (nI 1)] h = some (h, some (.int (nI 1))) := R_ireturn d_L_law_530 rfl (by decide)
theorem r_L_law_530_c {x0 x1 x2 x3 : Value} {c : Prop} [Decidable c] {h : AH} : Run M_L_law 530 [x0, x1, x2, x3] [.int (bI c)] h = some (h, some (.int (bI c))) := R_ireturn d_L_law_530 rfl narrow_bI
theorem d_L_law_531 : decode (mB M_L_law) 531 = .ok (.aload_n 1, 1) := by decide +kernel
theorem r_L_law_531 {x0 x2 x3 : Value} {a : Nat} {st : List Value} {h : AH} : Run M_L_law 531 [x0, .ref a, x2, x3] st h = Run M_L_law 532 [x0, .ref a, x2, x3] (.ref a :: st) h := R_aload_n d_L_law_531 rfl
theorem d_L_law_532 : decode (mB M_L_law) 532 = .ok (.aload_n 0, 1) := by decide +kernel
theorem r_L_law_532 {x1 x2 x3 : Value} {a : Nat} {st : List Value} {h : AH} : Run M_L_law 532 [.ref a, x1, x2, x3] st h = Run M_L_law 533 [.ref a, x1, x2, x3] (.ref a :: st) h := R_aload_n d_L_law_532 rfl
theorem d_L_law_533 : decode (mB M_L_law) 533 = .ok (.iload_n 3, 1) := by decide +kernel
theorem r_L_law_533 {x0 x1 x2 : Value} {a : Int32} {st : List Value} {h : AH} : Run M_L_law 533 [x0, x1, x2, .int a] st h = Run M_L_law 534 [x0, x1, x2, .int a] (.int a :: st) h := R_iload_n d_L_law_533 rfl
theorem d_L_law_534 : decode (mB M_L_law) 534 = .ok (.iconst 1, 1) := by decide +kernel
theorem r_L_law_534 {x0 x1 x2 x3 : Value} {st : List Value} {h : AH} : Run M_L_law 534 [x0, x1, x2, x3] st h = Run M_L_law 535 [x0, x1, x2, x3] (.int (nI 1) :: st) h := R_iconst d_L_law_534 (by decide)
theorem d_L_law_535 : decode (mB M_L_law) 535 = .ok (.iadd, 1) := by decide +kernel
theorem r_L_law_535 {x0 x1 x2 x3 : Value} {x y : Int32} {st : List Value} {h : AH} : Run M_L_law 535 [x0, x1, x2, x3] (.int y :: .int x :: st) h = Run M_L_law 536 [x0, x1, x2, x3] (.int (x + y) :: st) h := R_iadd d_L_law_535
theorem d_L_law_536 : decode (mB M_L_law) 536 = .ok (.iaload, 1) := by decide +kernel
theorem r_L_law_536 {x0 x1 x2 x3 : Value} {a : Nat} {i : Int32} {st : List Value} {h : AH} : Run M_L_law 536 [x0, x1, x2, x3] (.int i :: .ref a :: st) h = if (gI 0 h a i).isSome = true then Run M_L_law 537 [x0, x1, x2, x3] (.int ((gI 0 h a i).getD 0) :: st) h else none := R_iaload d_L_law_536
theorem d_L_law_537 : decode (mB M_L_law) 537 = .ok (.invokevirtual 61, 3) := by decide +kernel
theorem r_L_law_537 {x0 x1 x2 x3 : Value} {p0 : Int32} {a : Nat} {h : AH} : Run M_L_law 537 [x0, x1, x2, x3] (.int p0 :: .ref a :: []) h = if refO h 8 (some (.ref a)) = true then (if (Call M_X8_lead h [.ref a, .int p0]).isSome = true then Run M_L_law 540 [x0, x1, x2, x3] (rL (Call M_X8_lead h [.ref a, .int p0]) ++ []) (cH (Call M_X8_lead h [.ref a, .int p0])) else none) else none := R_virt d_L_law_537 rfl rfl rfl rfl rfl (Nat.le_of_ble_eq_true rfl)
theorem d_L_law_540 : decode (mB M_L_law) 540 = .ok (.aload_n 2, 1) := by decide +kernel
theorem r_L_law_540 {x0 x1 x3 : Value} {a : Nat} {st : List Value} {h : AH} : Run M_L_law 540 [x0, x1, .ref a, x3] st h = Run M_L_law 541 [x0, x1, .ref a, x3] (.ref a :: st) h := R_aload_n d_L_law_540 rfl
theorem d_L_law_541 : decode (mB M_L_law) 541 = .ok (.aload_n 0, 1) := by decide +kernel
theorem r_L_law_541 {x1 x2 x3 : Value} {a : Nat} {st : List Value} {h : AH} : Run M_L_law 541 [.ref a, x1, x2, x3] st h = Run M_L_law 542 [.ref a, x1, x2, x3] (.ref a :: st) h := R_aload_n d_L_law_541 rfl
theorem d_L_law_542 : decode (mB M_L_law) 542 = .ok (.iload_n 3, 1) := by decide +kernel
theorem r_L_law_542 {x0 x1 x2 : Value} {a : Int32} {st : List Value} {h : AH} : Run M_L_law 542 [x0, x1, x2, .int a] st h = Run M_L_law 543 [x0, x1, x2, .int a] (.int a :: st) h := R_iload_n d_L_law_542 rfl
theorem d_L_law_543 : decode (mB M_L_law) 543 = .ok (.iconst 1, 1) := by decide +kernel
theorem r_L_law_543 {x0 x1 x2 x3 : Value} {st : List Value} {h : AH} : Run M_L_law 543 [x0, x1, x2, x3] st h = Run M_L_law 544 [x0, x1, x2, x3] (.int (nI 1) :: st) h := R_iconst d_L_law_543 (by decide)
theorem d_L_law_544 : decode (mB M_L_law) 544 = .ok (.iadd, 1) := by decide +kernel
theorem r_L_law_544 {x0 x1 x2 x3 : Value} {x y : Int32} {st : List Value} {h : AH} : Run M_L_law 544 [x0, x1, x2, x3] (.int y :: .int x :: st) h = Run M_L_law 545 [x0, x1, x2, x3] (.int (x + y) :: st) h := R_iadd d_L_law_544
theorem d_L_law_545 : decode (mB M_L_law) 545 = .ok (.iaload, 1) := by decide +kernel
theorem r_L_law_545 {x0 x1 x2 x3 : Value} {a : Nat} {i : Int32} {st : List Value} {h : AH} : Run M_L_law 545 [x0, x1, x2, x3] (.int i :: .ref a :: st) h = if (gI 0 h a i).isSome = true then Run M_L_law 546 [x0, x1, x2, x3] (.int ((gI 0 h a i).getD 0) :: st) h else none := R_iaload d_L_law_545
theorem d_L_law_546 : decode (mB M_L_law) 546 = .ok (.invokevirtual 64, 3) := by decide +kernel
theorem r_L_law_546 {x0 x1 x2 x3 : Value} {p0 : Int32} {a : Nat} {w0 : Value} {h : AH} : Run M_L_law 546 [x0, x1, x2, x3] (.int p0 :: .ref a :: [w0]) h = if refO h 9 (some (.ref a)) = true then (if (Call M_X9_lead h [.ref a, .int p0]).isSome = true then Run M_L_law 549 [x0, x1, x2, x3] (rL (Call M_X9_lead h [.ref a, .int p0]) ++ [w0]) (cH (Call M_X9_lead h [.ref a, .int p0])) else none) else none := R_virt d_L_law_546 rfl rfl rfl rfl rfl (Nat.le_of_ble_eq_true rfl)
theorem d_L_law_549 : decode (mB M_L_law) 549 = .ok (.if_icmp .eq 798, 3) := by decide +kernel
theorem r_L_law_549 {x0 x1 x2 x3 : Value} {x y : Int32} {st : List Value} {h : AH} : Run M_L_law 549 [x0, x1, x2, x3] (.int y :: .int x :: st) h = if x = y then Run M_L_law 1347 [x0, x1, x2, x3] st h else Run M_L_law 552 [x0, x1, x2, x3] st h := R_icmp_eq d_L_law_549 (by decide)
theorem d_L_law_552 : decode (mB M_L_law) 552 = .ok (.iconst 0, 1) := by decide +kernel
theorem r_L_law_552 {x0 x1 x2 x3 : Value} {st : List Value} {h : AH} : Run M_L_law 552 [x0, x1, x2, x3] st h = Run M_L_law 553 [x0, x1, x2, x3] (.int (nI 0) :: st) h := R_iconst d_L_law_552 (by decide)
theorem d_L_law_553 : decode (mB M_L_law) 553 = .ok (.ireturn, 1) := by decide +kernel
theorem r_L_law_553_0 {x0 x1 x2 x3 : Value} {h : AH} : Run M_L_law 553 [x0, x1, x2, x3] [.int (nI 0)] h = some (h, some (.int (nI 0))) := R_ireturn d_L_law_553 rfl (by decide)
theorem r_L_law_553_1 {x0 x1 x2 x3 : Value} {h : AH} : Run M_L_law 553 [x0, x1, x2, x3] [.int (nI 1)] h = some (h, some (.int (nI 1))) := R_ireturn d_L_law_553 rfl (by decide)
theorem r_L_law_553_c {x0 x1 x2 x3 : Value} {c : Prop} [Decidable c] {h : AH} : Run M_L_law 553 [x0, x1, x2, x3] [.int (bI c)] h = some (h, some (.int (bI c))) := R_ireturn d_L_law_553 rfl narrow_bI
theorem d_L_law_554 : decode (mB M_L_law) 554 = .ok (.aload_n 1, 1) := by decide +kernel
theorem r_L_law_554 {x0 x2 x3 : Value} {a : Nat} {st : List Value} {h : AH} : Run M_L_law 554 [x0, .ref a, x2, x3] st h = Run M_L_law 555 [x0, .ref a, x2, x3] (.ref a :: st) h := R_aload_n d_L_law_554 rfl
theorem d_L_law_555 : decode (mB M_L_law) 555 = .ok (.aload_n 0, 1) := by decide +kernel
theorem r_L_law_555 {x1 x2 x3 : Value} {a : Nat} {st : List Value} {h : AH} : Run M_L_law 555 [.ref a, x1, x2, x3] st h = Run M_L_law 556 [.ref a, x1, x2, x3] (.ref a :: st) h := R_aload_n d_L_law_555 rfl
theorem d_L_law_556 : decode (mB M_L_law) 556 = .ok (.iload_n 3, 1) := by decide +kernel
theorem r_L_law_556 {x0 x1 x2 : Value} {a : Int32} {st : List Value} {h : AH} : Run M_L_law 556 [x0, x1, x2, .int a] st h = Run M_L_law 557 [x0, x1, x2, .int a] (.int a :: st) h := R_iload_n d_L_law_556 rfl
theorem d_L_law_557 : decode (mB M_L_law) 557 = .ok (.iconst 1, 1) := by decide +kernel
theorem r_L_law_557 {x0 x1 x2 x3 : Value} {st : List Value} {h : AH} : Run M_L_law 557 [x0, x1, x2, x3] st h = Run M_L_law 558 [x0, x1, x2, x3] (.int (nI 1) :: st) h := R_iconst d_L_law_557 (by decide)
theorem d_L_law_558 : decode (mB M_L_law) 558 = .ok (.iadd, 1) := by decide +kernel
theorem r_L_law_558 {x0 x1 x2 x3 : Value} {x y : Int32} {st : List Value} {h : AH} : Run M_L_law 558 [x0, x1, x2, x3] (.int y :: .int x :: st) h = Run M_L_law 559 [x0, x1, x2, x3] (.int (x + y) :: st) h := R_iadd d_L_law_558
theorem d_L_law_559 : decode (mB M_L_law) 559 = .ok (.iaload, 1) := by decide +kernel
theorem r_L_law_559 {x0 x1 x2 x3 : Value} {a : Nat} {i : Int32} {st : List Value} {h : AH} : Run M_L_law 559 [x0, x1, x2, x3] (.int i :: .ref a :: st) h = if (gI 0 h a i).isSome = true then Run M_L_law 560 [x0, x1, x2, x3] (.int ((gI 0 h a i).getD 0) :: st) h else none := R_iaload d_L_law_559
theorem d_L_law_560 : decode (mB M_L_law) 560 = .ok (.invokevirtual 65, 3) := by decide +kernel
theorem r_L_law_560 {x0 x1 x2 x3 : Value} {p0 : Int32} {a : Nat} {h : AH} : Run M_L_law 560 [x0, x1, x2, x3] (.int p0 :: .ref a :: []) h = if refO h 8 (some (.ref a)) = true then (if (Call M_X8_drift h [.ref a, .int p0]).isSome = true then Run M_L_law 563 [x0, x1, x2, x3] (rL (Call M_X8_drift h [.ref a, .int p0]) ++ []) (cH (Call M_X8_drift h [.ref a, .int p0])) else none) else none := R_virt d_L_law_560 rfl rfl rfl rfl rfl (Nat.le_of_ble_eq_true rfl)
theorem d_L_law_563 : decode (mB M_L_law) 563 = .ok (.aload_n 2, 1) := by decide +kernel
theorem r_L_law_563 {x0 x1 x3 : Value} {a : Nat} {st : List Value} {h : AH} : Run M_L_law 563 [x0, x1, .ref a, x3] st h = Run M_L_law 564 [x0, x1, .ref a, x3] (.ref a :: st) h := R_aload_n d_L_law_563 rfl
theorem d_L_law_564 : decode (mB M_L_law) 564 = .ok (.aload_n 0, 1) := by decide +kernel
theorem r_L_law_564 {x1 x2 x3 : Value} {a : Nat} {st : List Value} {h : AH} : Run M_L_law 564 [.ref a, x1, x2, x3] st h = Run M_L_law 565 [.ref a, x1, x2, x3] (.ref a :: st) h := R_aload_n d_L_law_564 rfl
theorem d_L_law_565 : decode (mB M_L_law) 565 = .ok (.iload_n 3, 1) := by decide +kernel
theorem r_L_law_565 {x0 x1 x2 : Value} {a : Int32} {st : List Value} {h : AH} : Run M_L_law 565 [x0, x1, x2, .int a] st h = Run M_L_law 566 [x0, x1, x2, .int a] (.int a :: st) h := R_iload_n d_L_law_565 rfl
theorem d_L_law_566 : decode (mB M_L_law) 566 = .ok (.iconst 1, 1) := by decide +kernel
theorem r_L_law_566 {x0 x1 x2 x3 : Value} {st : List Value} {h : AH} : Run M_L_law 566 [x0, x1, x2, x3] st h = Run M_L_law 567 [x0, x1, x2, x3] (.int (nI 1) :: st) h := R_iconst d_L_law_566 (by decide)
theorem d_L_law_567 : decode (mB M_L_law) 567 = .ok (.iadd, 1) := by decide +kernel
theorem r_L_law_567 {x0 x1 x2 x3 : Value} {x y : Int32} {st : List Value} {h : AH} : Run M_L_law 567 [x0, x1, x2, x3] (.int y :: .int x :: st) h = Run M_L_law 568 [x0, x1, x2, x3] (.int (x + y) :: st) h := R_iadd d_L_law_567
theorem d_L_law_568 : decode (mB M_L_law) 568 = .ok (.iaload, 1) := by decide +kernel
theorem r_L_law_568 {x0 x1 x2 x3 : Value} {a : Nat} {i : Int32} {st : List Value} {h : AH} : Run M_L_law 568 [x0, x1, x2, x3] (.int i :: .ref a :: st) h = if (gI 0 h a i).isSome = true then Run M_L_law 569 [x0, x1, x2, x3] (.int ((gI 0 h a i).getD 0) :: st) h else none := R_iaload d_L_law_568
theorem d_L_law_569 : decode (mB M_L_law) 569 = .ok (.invokevirtual 68, 3) := by decide +kernel
theorem r_L_law_569 {x0 x1 x2 x3 : Value} {p0 : Int32} {a : Nat} {w0 : Value} {h : AH} : Run M_L_law 569 [x0, x1, x2, x3] (.int p0 :: .ref a :: [w0]) h = if refO h 9 (some (.ref a)) = true then (if (Call M_X9_drift h [.ref a, .int p0]).isSome = true then Run M_L_law 572 [x0, x1, x2, x3] (rL (Call M_X9_drift h [.ref a, .int p0]) ++ [w0]) (cH (Call M_X9_drift h [.ref a, .int p0])) else none) else none := R_virt d_L_law_569 rfl rfl rfl rfl rfl (Nat.le_of_ble_eq_true rfl)
theorem d_L_law_572 : decode (mB M_L_law) 572 = .ok (.if_icmp .eq 775, 3) := by decide +kernel
theorem r_L_law_572 {x0 x1 x2 x3 : Value} {x y : Int32} {st : List Value} {h : AH} : Run M_L_law 572 [x0, x1, x2, x3] (.int y :: .int x :: st) h = if x = y then Run M_L_law 1347 [x0, x1, x2, x3] st h else Run M_L_law 575 [x0, x1, x2, x3] st h := R_icmp_eq d_L_law_572 (by decide)
theorem d_L_law_575 : decode (mB M_L_law) 575 = .ok (.iconst 0, 1) := by decide +kernel
theorem r_L_law_575 {x0 x1 x2 x3 : Value} {st : List Value} {h : AH} : Run M_L_law 575 [x0, x1, x2, x3] st h = Run M_L_law 576 [x0, x1, x2, x3] (.int (nI 0) :: st) h := R_iconst d_L_law_575 (by decide)
theorem d_L_law_576 : decode (mB M_L_law) 576 = .ok (.ireturn, 1) := by decide +kernel
theorem r_L_law_576_0 {x0 x1 x2 x3 : Value} {h : AH} : Run M_L_law 576 [x0, x1, x2, x3] [.int (nI 0)] h = some (h, some (.int (nI 0))) := R_ireturn d_L_law_576 rfl (by decide)
theorem r_L_law_576_1 {x0 x1 x2 x3 : Value} {h : AH} : Run M_L_law 576 [x0, x1, x2, x3] [.int (nI 1)] h = some (h, some (.int (nI 1))) := R_ireturn d_L_law_576 rfl (by decide)
theorem r_L_law_576_c {x0 x1 x2 x3 : Value} {c : Prop} [Decidable c] {h : AH} : Run M_L_law 576 [x0, x1, x2, x3] [.int (bI c)] h = some (h, some (.int (bI c))) := R_ireturn d_L_law_576 rfl narrow_bI
theorem d_L_law_577 : decode (mB M_L_law) 577 = .ok (.aload_n 1, 1) := by decide +kernel
theorem r_L_law_577 {x0 x2 x3 : Value} {a : Nat} {st : List Value} {h : AH} : Run M_L_law 577 [x0, .ref a, x2, x3] st h = Run M_L_law 578 [x0, .ref a, x2, x3] (.ref a :: st) h := R_aload_n d_L_law_577 rfl
theorem d_L_law_578 : decode (mB M_L_law) 578 = .ok (.aload_n 0, 1) := by decide +kernel
theorem r_L_law_578 {x1 x2 x3 : Value} {a : Nat} {st : List Value} {h : AH} : Run M_L_law 578 [.ref a, x1, x2, x3] st h = Run M_L_law 579 [.ref a, x1, x2, x3] (.ref a :: st) h := R_aload_n d_L_law_578 rfl
theorem d_L_law_579 : decode (mB M_L_law) 579 = .ok (.iload_n 3, 1) := by decide +kernel
theorem r_L_law_579 {x0 x1 x2 : Value} {a : Int32} {st : List Value} {h : AH} : Run M_L_law 579 [x0, x1, x2, .int a] st h = Run M_L_law 580 [x0, x1, x2, .int a] (.int a :: st) h := R_iload_n d_L_law_579 rfl
theorem d_L_law_580 : decode (mB M_L_law) 580 = .ok (.iconst 1, 1) := by decide +kernel
theorem r_L_law_580 {x0 x1 x2 x3 : Value} {st : List Value} {h : AH} : Run M_L_law 580 [x0, x1, x2, x3] st h = Run M_L_law 581 [x0, x1, x2, x3] (.int (nI 1) :: st) h := R_iconst d_L_law_580 (by decide)
theorem d_L_law_581 : decode (mB M_L_law) 581 = .ok (.iadd, 1) := by decide +kernel
theorem r_L_law_581 {x0 x1 x2 x3 : Value} {x y : Int32} {st : List Value} {h : AH} : Run M_L_law 581 [x0, x1, x2, x3] (.int y :: .int x :: st) h = Run M_L_law 582 [x0, x1, x2, x3] (.int (x + y) :: st) h := R_iadd d_L_law_581
theorem d_L_law_582 : decode (mB M_L_law) 582 = .ok (.iaload, 1) := by decide +kernel
theorem r_L_law_582 {x0 x1 x2 x3 : Value} {a : Nat} {i : Int32} {st : List Value} {h : AH} : Run M_L_law 582 [x0, x1, x2, x3] (.int i :: .ref a :: st) h = if (gI 0 h a i).isSome = true then Run M_L_law 583 [x0, x1, x2, x3] (.int ((gI 0 h a i).getD 0) :: st) h else none := R_iaload d_L_law_582
theorem d_L_law_583 : decode (mB M_L_law) 583 = .ok (.aload_n 0, 1) := by decide +kernel
theorem r_L_law_583 {x1 x2 x3 : Value} {a : Nat} {st : List Value} {h : AH} : Run M_L_law 583 [.ref a, x1, x2, x3] st h = Run M_L_law 584 [.ref a, x1, x2, x3] (.ref a :: st) h := R_aload_n d_L_law_583 rfl
theorem d_L_law_584 : decode (mB M_L_law) 584 = .ok (.iload_n 3, 1) := by decide +kernel
theorem r_L_law_584 {x0 x1 x2 : Value} {a : Int32} {st : List Value} {h : AH} : Run M_L_law 584 [x0, x1, x2, .int a] st h = Run M_L_law 585 [x0, x1, x2, .int a] (.int a :: st) h := R_iload_n d_L_law_584 rfl
theorem d_L_law_585 : decode (mB M_L_law) 585 = .ok (.iconst 2, 1) := by decide +kernel
theorem r_L_law_585 {x0 x1 x2 x3 : Value} {st : List Value} {h : AH} : Run M_L_law 585 [x0, x1, x2, x3] st h = Run M_L_law 586 [x0, x1, x2, x3] (.int (nI 2) :: st) h := R_iconst d_L_law_585 (by decide)
theorem d_L_law_586 : decode (mB M_L_law) 586 = .ok (.iadd, 1) := by decide +kernel
theorem r_L_law_586 {x0 x1 x2 x3 : Value} {x y : Int32} {st : List Value} {h : AH} : Run M_L_law 586 [x0, x1, x2, x3] (.int y :: .int x :: st) h = Run M_L_law 587 [x0, x1, x2, x3] (.int (x + y) :: st) h := R_iadd d_L_law_586
theorem d_L_law_587 : decode (mB M_L_law) 587 = .ok (.iaload, 1) := by decide +kernel
theorem r_L_law_587 {x0 x1 x2 x3 : Value} {a : Nat} {i : Int32} {st : List Value} {h : AH} : Run M_L_law 587 [x0, x1, x2, x3] (.int i :: .ref a :: st) h = if (gI 0 h a i).isSome = true then Run M_L_law 588 [x0, x1, x2, x3] (.int ((gI 0 h a i).getD 0) :: st) h else none := R_iaload d_L_law_587
theorem d_L_law_588 : decode (mB M_L_law) 588 = .ok (.invokevirtual 69, 3) := by decide +kernel
theorem r_L_law_588 {x0 x1 x2 x3 : Value} {p0 : Int32} {p1 : Int32} {a : Nat} {h : AH} : Run M_L_law 588 [x0, x1, x2, x3] (.int p1 :: .int p0 :: .ref a :: []) h = if refO h 8 (some (.ref a)) = true then (if (Call M_X8_ends h [.ref a, .int p0, .int p1]).isSome = true then Run M_L_law 591 [x0, x1, x2, x3] (rL (Call M_X8_ends h [.ref a, .int p0, .int p1]) ++ []) (cH (Call M_X8_ends h [.ref a, .int p0, .int p1])) else none) else none := R_virt d_L_law_588 rfl rfl rfl rfl rfl (Nat.le_of_ble_eq_true rfl)
theorem d_L_law_591 : decode (mB M_L_law) 591 = .ok (.aload_n 2, 1) := by decide +kernel
theorem r_L_law_591 {x0 x1 x3 : Value} {a : Nat} {st : List Value} {h : AH} : Run M_L_law 591 [x0, x1, .ref a, x3] st h = Run M_L_law 592 [x0, x1, .ref a, x3] (.ref a :: st) h := R_aload_n d_L_law_591 rfl
theorem d_L_law_592 : decode (mB M_L_law) 592 = .ok (.aload_n 0, 1) := by decide +kernel
theorem r_L_law_592 {x1 x2 x3 : Value} {a : Nat} {st : List Value} {h : AH} : Run M_L_law 592 [.ref a, x1, x2, x3] st h = Run M_L_law 593 [.ref a, x1, x2, x3] (.ref a :: st) h := R_aload_n d_L_law_592 rfl
theorem d_L_law_593 : decode (mB M_L_law) 593 = .ok (.iload_n 3, 1) := by decide +kernel
theorem r_L_law_593 {x0 x1 x2 : Value} {a : Int32} {st : List Value} {h : AH} : Run M_L_law 593 [x0, x1, x2, .int a] st h = Run M_L_law 594 [x0, x1, x2, .int a] (.int a :: st) h := R_iload_n d_L_law_593 rfl
theorem d_L_law_594 : decode (mB M_L_law) 594 = .ok (.iconst 1, 1) := by decide +kernel
theorem r_L_law_594 {x0 x1 x2 x3 : Value} {st : List Value} {h : AH} : Run M_L_law 594 [x0, x1, x2, x3] st h = Run M_L_law 595 [x0, x1, x2, x3] (.int (nI 1) :: st) h := R_iconst d_L_law_594 (by decide)
theorem d_L_law_595 : decode (mB M_L_law) 595 = .ok (.iadd, 1) := by decide +kernel
theorem r_L_law_595 {x0 x1 x2 x3 : Value} {x y : Int32} {st : List Value} {h : AH} : Run M_L_law 595 [x0, x1, x2, x3] (.int y :: .int x :: st) h = Run M_L_law 596 [x0, x1, x2, x3] (.int (x + y) :: st) h := R_iadd d_L_law_595
theorem d_L_law_596 : decode (mB M_L_law) 596 = .ok (.iaload, 1) := by decide +kernel
theorem r_L_law_596 {x0 x1 x2 x3 : Value} {a : Nat} {i : Int32} {st : List Value} {h : AH} : Run M_L_law 596 [x0, x1, x2, x3] (.int i :: .ref a :: st) h = if (gI 0 h a i).isSome = true then Run M_L_law 597 [x0, x1, x2, x3] (.int ((gI 0 h a i).getD 0) :: st) h else none := R_iaload d_L_law_596
theorem d_L_law_597 : decode (mB M_L_law) 597 = .ok (.aload_n 0, 1) := by decide +kernel
theorem r_L_law_597 {x1 x2 x3 : Value} {a : Nat} {st : List Value} {h : AH} : Run M_L_law 597 [.ref a, x1, x2, x3] st h = Run M_L_law 598 [.ref a, x1, x2, x3] (.ref a :: st) h := R_aload_n d_L_law_597 rfl
theorem d_L_law_598 : decode (mB M_L_law) 598 = .ok (.iload_n 3, 1) := by decide +kernel
theorem r_L_law_598 {x0 x1 x2 : Value} {a : Int32} {st : List Value} {h : AH} : Run M_L_law 598 [x0, x1, x2, .int a] st h = Run M_L_law 599 [x0, x1, x2, .int a] (.int a :: st) h := R_iload_n d_L_law_598 rfl
theorem d_L_law_599 : decode (mB M_L_law) 599 = .ok (.iconst 2, 1) := by decide +kernel
theorem r_L_law_599 {x0 x1 x2 x3 : Value} {st : List Value} {h : AH} : Run M_L_law 599 [x0, x1, x2, x3] st h = Run M_L_law 600 [x0, x1, x2, x3] (.int (nI 2) :: st) h := R_iconst d_L_law_599 (by decide)
theorem d_L_law_600 : decode (mB M_L_law) 600 = .ok (.iadd, 1) := by decide +kernel
theorem r_L_law_600 {x0 x1 x2 x3 : Value} {x y : Int32} {st : List Value} {h : AH} : Run M_L_law 600 [x0, x1, x2, x3] (.int y :: .int x :: st) h = Run M_L_law 601 [x0, x1, x2, x3] (.int (x + y) :: st) h := R_iadd d_L_law_600
theorem d_L_law_601 : decode (mB M_L_law) 601 = .ok (.iaload, 1) := by decide +kernel
theorem r_L_law_601 {x0 x1 x2 x3 : Value} {a : Nat} {i : Int32} {st : List Value} {h : AH} : Run M_L_law 601 [x0, x1, x2, x3] (.int i :: .ref a :: st) h = if (gI 0 h a i).isSome = true then Run M_L_law 602 [x0, x1, x2, x3] (.int ((gI 0 h a i).getD 0) :: st) h else none := R_iaload d_L_law_601
theorem d_L_law_602 : decode (mB M_L_law) 602 = .ok (.invokevirtual 73, 3) := by decide +kernel
theorem r_L_law_602 {x0 x1 x2 x3 : Value} {p0 : Int32} {p1 : Int32} {a : Nat} {w0 : Value} {h : AH} : Run M_L_law 602 [x0, x1, x2, x3] (.int p1 :: .int p0 :: .ref a :: [w0]) h = if refO h 9 (some (.ref a)) = true then (if (Call M_X9_ends h [.ref a, .int p0, .int p1]).isSome = true then Run M_L_law 605 [x0, x1, x2, x3] (rL (Call M_X9_ends h [.ref a, .int p0, .int p1]) ++ [w0]) (cH (Call M_X9_ends h [.ref a, .int p0, .int p1])) else none) else none := R_virt d_L_law_602 rfl rfl rfl rfl rfl (Nat.le_of_ble_eq_true rfl)
theorem d_L_law_605 : decode (mB M_L_law) 605 = .ok (.lcmp, 1) := by decide +kernel
theorem r_L_law_605 {x0 x1 x2 x3 : Value} {x y : Int64} {st : List Value} {h : AH} : Run M_L_law 605 [x0, x1, x2, x3] (.long y :: .long x :: st) h = Run M_L_law 606 [x0, x1, x2, x3] (.int (lg_cmp x y) :: st) h := R_lcmp d_L_law_605
theorem d_L_law_606 : decode (mB M_L_law) 606 = .ok (.ifCond .eq 741, 3) := by decide +kernel
theorem r_L_law_606 {x0 x1 x2 x3 : Value} {x : Int32} {st : List Value} {h : AH} : Run M_L_law 606 [x0, x1, x2, x3] (.int x :: st) h = if x = nI 0 then Run M_L_law 1347 [x0, x1, x2, x3] st h else Run M_L_law 609 [x0, x1, x2, x3] st h := R_if_eq d_L_law_606 (by decide)
theorem d_L_law_609 : decode (mB M_L_law) 609 = .ok (.iconst 0, 1) := by decide +kernel
theorem r_L_law_609 {x0 x1 x2 x3 : Value} {st : List Value} {h : AH} : Run M_L_law 609 [x0, x1, x2, x3] st h = Run M_L_law 610 [x0, x1, x2, x3] (.int (nI 0) :: st) h := R_iconst d_L_law_609 (by decide)
theorem d_L_law_610 : decode (mB M_L_law) 610 = .ok (.ireturn, 1) := by decide +kernel
theorem r_L_law_610_0 {x0 x1 x2 x3 : Value} {h : AH} : Run M_L_law 610 [x0, x1, x2, x3] [.int (nI 0)] h = some (h, some (.int (nI 0))) := R_ireturn d_L_law_610 rfl (by decide)
theorem r_L_law_610_1 {x0 x1 x2 x3 : Value} {h : AH} : Run M_L_law 610 [x0, x1, x2, x3] [.int (nI 1)] h = some (h, some (.int (nI 1))) := R_ireturn d_L_law_610 rfl (by decide)
theorem r_L_law_610_c {x0 x1 x2 x3 : Value} {c : Prop} [Decidable c] {h : AH} : Run M_L_law 610 [x0, x1, x2, x3] [.int (bI c)] h = some (h, some (.int (bI c))) := R_ireturn d_L_law_610 rfl narrow_bI
theorem d_L_law_611 : decode (mB M_L_law) 611 = .ok (.aload_n 1, 1) := by decide +kernel
theorem r_L_law_611 {x0 x2 x3 : Value} {a : Nat} {st : List Value} {h : AH} : Run M_L_law 611 [x0, .ref a, x2, x3] st h = Run M_L_law 612 [x0, .ref a, x2, x3] (.ref a :: st) h := R_aload_n d_L_law_611 rfl
theorem d_L_law_612 : decode (mB M_L_law) 612 = .ok (.aload_n 0, 1) := by decide +kernel
theorem r_L_law_612 {x1 x2 x3 : Value} {a : Nat} {st : List Value} {h : AH} : Run M_L_law 612 [.ref a, x1, x2, x3] st h = Run M_L_law 613 [.ref a, x1, x2, x3] (.ref a :: st) h := R_aload_n d_L_law_612 rfl
theorem d_L_law_613 : decode (mB M_L_law) 613 = .ok (.iload_n 3, 1) := by decide +kernel
theorem r_L_law_613 {x0 x1 x2 : Value} {a : Int32} {st : List Value} {h : AH} : Run M_L_law 613 [x0, x1, x2, .int a] st h = Run M_L_law 614 [x0, x1, x2, .int a] (.int a :: st) h := R_iload_n d_L_law_613 rfl
theorem d_L_law_614 : decode (mB M_L_law) 614 = .ok (.iconst 1, 1) := by decide +kernel
theorem r_L_law_614 {x0 x1 x2 x3 : Value} {st : List Value} {h : AH} : Run M_L_law 614 [x0, x1, x2, x3] st h = Run M_L_law 615 [x0, x1, x2, x3] (.int (nI 1) :: st) h := R_iconst d_L_law_614 (by decide)
theorem d_L_law_615 : decode (mB M_L_law) 615 = .ok (.iadd, 1) := by decide +kernel
theorem r_L_law_615 {x0 x1 x2 x3 : Value} {x y : Int32} {st : List Value} {h : AH} : Run M_L_law 615 [x0, x1, x2, x3] (.int y :: .int x :: st) h = Run M_L_law 616 [x0, x1, x2, x3] (.int (x + y) :: st) h := R_iadd d_L_law_615
theorem d_L_law_616 : decode (mB M_L_law) 616 = .ok (.iaload, 1) := by decide +kernel
theorem r_L_law_616 {x0 x1 x2 x3 : Value} {a : Nat} {i : Int32} {st : List Value} {h : AH} : Run M_L_law 616 [x0, x1, x2, x3] (.int i :: .ref a :: st) h = if (gI 0 h a i).isSome = true then Run M_L_law 617 [x0, x1, x2, x3] (.int ((gI 0 h a i).getD 0) :: st) h else none := R_iaload d_L_law_616
theorem d_L_law_617 : decode (mB M_L_law) 617 = .ok (.aload_n 0, 1) := by decide +kernel
theorem r_L_law_617 {x1 x2 x3 : Value} {a : Nat} {st : List Value} {h : AH} : Run M_L_law 617 [.ref a, x1, x2, x3] st h = Run M_L_law 618 [.ref a, x1, x2, x3] (.ref a :: st) h := R_aload_n d_L_law_617 rfl
theorem d_L_law_618 : decode (mB M_L_law) 618 = .ok (.iload_n 3, 1) := by decide +kernel
theorem r_L_law_618 {x0 x1 x2 : Value} {a : Int32} {st : List Value} {h : AH} : Run M_L_law 618 [x0, x1, x2, .int a] st h = Run M_L_law 619 [x0, x1, x2, .int a] (.int a :: st) h := R_iload_n d_L_law_618 rfl
theorem d_L_law_619 : decode (mB M_L_law) 619 = .ok (.iconst 2, 1) := by decide +kernel
theorem r_L_law_619 {x0 x1 x2 x3 : Value} {st : List Value} {h : AH} : Run M_L_law 619 [x0, x1, x2, x3] st h = Run M_L_law 620 [x0, x1, x2, x3] (.int (nI 2) :: st) h := R_iconst d_L_law_619 (by decide)
theorem d_L_law_620 : decode (mB M_L_law) 620 = .ok (.iadd, 1) := by decide +kernel
theorem r_L_law_620 {x0 x1 x2 x3 : Value} {x y : Int32} {st : List Value} {h : AH} : Run M_L_law 620 [x0, x1, x2, x3] (.int y :: .int x :: st) h = Run M_L_law 621 [x0, x1, x2, x3] (.int (x + y) :: st) h := R_iadd d_L_law_620
theorem d_L_law_621 : decode (mB M_L_law) 621 = .ok (.iaload, 1) := by decide +kernel
theorem r_L_law_621 {x0 x1 x2 x3 : Value} {a : Nat} {i : Int32} {st : List Value} {h : AH} : Run M_L_law 621 [x0, x1, x2, x3] (.int i :: .ref a :: st) h = if (gI 0 h a i).isSome = true then Run M_L_law 622 [x0, x1, x2, x3] (.int ((gI 0 h a i).getD 0) :: st) h else none := R_iaload d_L_law_621
theorem d_L_law_622 : decode (mB M_L_law) 622 = .ok (.invokevirtual 74, 3) := by decide +kernel
theorem r_L_law_622 {x0 x1 x2 x3 : Value} {p0 : Int32} {p1 : Int32} {a : Nat} {h : AH} : Run M_L_law 622 [x0, x1, x2, x3] (.int p1 :: .int p0 :: .ref a :: []) h = if refO h 8 (some (.ref a)) = true then (if (Call M_X8_by h [.ref a, .int p0, .int p1]).isSome = true then Run M_L_law 625 [x0, x1, x2, x3] (rL (Call M_X8_by h [.ref a, .int p0, .int p1]) ++ []) (cH (Call M_X8_by h [.ref a, .int p0, .int p1])) else none) else none := R_virt d_L_law_622 rfl rfl rfl rfl rfl (Nat.le_of_ble_eq_true rfl)
theorem d_L_law_625 : decode (mB M_L_law) 625 = .ok (.aload_n 2, 1) := by decide +kernel
theorem r_L_law_625 {x0 x1 x3 : Value} {a : Nat} {st : List Value} {h : AH} : Run M_L_law 625 [x0, x1, .ref a, x3] st h = Run M_L_law 626 [x0, x1, .ref a, x3] (.ref a :: st) h := R_aload_n d_L_law_625 rfl
theorem d_L_law_626 : decode (mB M_L_law) 626 = .ok (.aload_n 0, 1) := by decide +kernel
theorem r_L_law_626 {x1 x2 x3 : Value} {a : Nat} {st : List Value} {h : AH} : Run M_L_law 626 [.ref a, x1, x2, x3] st h = Run M_L_law 627 [.ref a, x1, x2, x3] (.ref a :: st) h := R_aload_n d_L_law_626 rfl
theorem d_L_law_627 : decode (mB M_L_law) 627 = .ok (.iload_n 3, 1) := by decide +kernel
theorem r_L_law_627 {x0 x1 x2 : Value} {a : Int32} {st : List Value} {h : AH} : Run M_L_law 627 [x0, x1, x2, .int a] st h = Run M_L_law 628 [x0, x1, x2, .int a] (.int a :: st) h := R_iload_n d_L_law_627 rfl
theorem d_L_law_628 : decode (mB M_L_law) 628 = .ok (.iconst 1, 1) := by decide +kernel
theorem r_L_law_628 {x0 x1 x2 x3 : Value} {st : List Value} {h : AH} : Run M_L_law 628 [x0, x1, x2, x3] st h = Run M_L_law 629 [x0, x1, x2, x3] (.int (nI 1) :: st) h := R_iconst d_L_law_628 (by decide)
theorem d_L_law_629 : decode (mB M_L_law) 629 = .ok (.iadd, 1) := by decide +kernel
theorem r_L_law_629 {x0 x1 x2 x3 : Value} {x y : Int32} {st : List Value} {h : AH} : Run M_L_law 629 [x0, x1, x2, x3] (.int y :: .int x :: st) h = Run M_L_law 630 [x0, x1, x2, x3] (.int (x + y) :: st) h := R_iadd d_L_law_629
theorem d_L_law_630 : decode (mB M_L_law) 630 = .ok (.iaload, 1) := by decide +kernel
theorem r_L_law_630 {x0 x1 x2 x3 : Value} {a : Nat} {i : Int32} {st : List Value} {h : AH} : Run M_L_law 630 [x0, x1, x2, x3] (.int i :: .ref a :: st) h = if (gI 0 h a i).isSome = true then Run M_L_law 631 [x0, x1, x2, x3] (.int ((gI 0 h a i).getD 0) :: st) h else none := R_iaload d_L_law_630
theorem d_L_law_631 : decode (mB M_L_law) 631 = .ok (.aload_n 0, 1) := by decide +kernel
theorem r_L_law_631 {x1 x2 x3 : Value} {a : Nat} {st : List Value} {h : AH} : Run M_L_law 631 [.ref a, x1, x2, x3] st h = Run M_L_law 632 [.ref a, x1, x2, x3] (.ref a :: st) h := R_aload_n d_L_law_631 rfl
theorem d_L_law_632 : decode (mB M_L_law) 632 = .ok (.iload_n 3, 1) := by decide +kernel
theorem r_L_law_632 {x0 x1 x2 : Value} {a : Int32} {st : List Value} {h : AH} : Run M_L_law 632 [x0, x1, x2, .int a] st h = Run M_L_law 633 [x0, x1, x2, .int a] (.int a :: st) h := R_iload_n d_L_law_632 rfl
theorem d_L_law_633 : decode (mB M_L_law) 633 = .ok (.iconst 2, 1) := by decide +kernel
theorem r_L_law_633 {x0 x1 x2 x3 : Value} {st : List Value} {h : AH} : Run M_L_law 633 [x0, x1, x2, x3] st h = Run M_L_law 634 [x0, x1, x2, x3] (.int (nI 2) :: st) h := R_iconst d_L_law_633 (by decide)
theorem d_L_law_634 : decode (mB M_L_law) 634 = .ok (.iadd, 1) := by decide +kernel
theorem r_L_law_634 {x0 x1 x2 x3 : Value} {x y : Int32} {st : List Value} {h : AH} : Run M_L_law 634 [x0, x1, x2, x3] (.int y :: .int x :: st) h = Run M_L_law 635 [x0, x1, x2, x3] (.int (x + y) :: st) h := R_iadd d_L_law_634
theorem d_L_law_635 : decode (mB M_L_law) 635 = .ok (.iaload, 1) := by decide +kernel
theorem r_L_law_635 {x0 x1 x2 x3 : Value} {a : Nat} {i : Int32} {st : List Value} {h : AH} : Run M_L_law 635 [x0, x1, x2, x3] (.int i :: .ref a :: st) h = if (gI 0 h a i).isSome = true then Run M_L_law 636 [x0, x1, x2, x3] (.int ((gI 0 h a i).getD 0) :: st) h else none := R_iaload d_L_law_635
theorem d_L_law_636 : decode (mB M_L_law) 636 = .ok (.invokevirtual 77, 3) := by decide +kernel
theorem r_L_law_636 {x0 x1 x2 x3 : Value} {p0 : Int32} {p1 : Int32} {a : Nat} {w0 : Value} {h : AH} : Run M_L_law 636 [x0, x1, x2, x3] (.int p1 :: .int p0 :: .ref a :: [w0]) h = if refO h 9 (some (.ref a)) = true then (if (Call M_X9_by h [.ref a, .int p0, .int p1]).isSome = true then Run M_L_law 639 [x0, x1, x2, x3] (rL (Call M_X9_by h [.ref a, .int p0, .int p1]) ++ [w0]) (cH (Call M_X9_by h [.ref a, .int p0, .int p1])) else none) else none := R_virt d_L_law_636 rfl rfl rfl rfl rfl (Nat.le_of_ble_eq_true rfl)
theorem d_L_law_639 : decode (mB M_L_law) 639 = .ok (.lcmp, 1) := by decide +kernel
theorem r_L_law_639 {x0 x1 x2 x3 : Value} {x y : Int64} {st : List Value} {h : AH} : Run M_L_law 639 [x0, x1, x2, x3] (.long y :: .long x :: st) h = Run M_L_law 640 [x0, x1, x2, x3] (.int (lg_cmp x y) :: st) h := R_lcmp d_L_law_639
theorem d_L_law_640 : decode (mB M_L_law) 640 = .ok (.ifCond .eq 707, 3) := by decide +kernel
theorem r_L_law_640 {x0 x1 x2 x3 : Value} {x : Int32} {st : List Value} {h : AH} : Run M_L_law 640 [x0, x1, x2, x3] (.int x :: st) h = if x = nI 0 then Run M_L_law 1347 [x0, x1, x2, x3] st h else Run M_L_law 643 [x0, x1, x2, x3] st h := R_if_eq d_L_law_640 (by decide)
theorem d_L_law_643 : decode (mB M_L_law) 643 = .ok (.iconst 0, 1) := by decide +kernel
theorem r_L_law_643 {x0 x1 x2 x3 : Value} {st : List Value} {h : AH} : Run M_L_law 643 [x0, x1, x2, x3] st h = Run M_L_law 644 [x0, x1, x2, x3] (.int (nI 0) :: st) h := R_iconst d_L_law_643 (by decide)
theorem d_L_law_644 : decode (mB M_L_law) 644 = .ok (.ireturn, 1) := by decide +kernel
theorem r_L_law_644_0 {x0 x1 x2 x3 : Value} {h : AH} : Run M_L_law 644 [x0, x1, x2, x3] [.int (nI 0)] h = some (h, some (.int (nI 0))) := R_ireturn d_L_law_644 rfl (by decide)
theorem r_L_law_644_1 {x0 x1 x2 x3 : Value} {h : AH} : Run M_L_law 644 [x0, x1, x2, x3] [.int (nI 1)] h = some (h, some (.int (nI 1))) := R_ireturn d_L_law_644 rfl (by decide)
theorem r_L_law_644_c {x0 x1 x2 x3 : Value} {c : Prop} [Decidable c] {h : AH} : Run M_L_law 644 [x0, x1, x2, x3] [.int (bI c)] h = some (h, some (.int (bI c))) := R_ireturn d_L_law_644 rfl narrow_bI
theorem d_L_law_645 : decode (mB M_L_law) 645 = .ok (.aload_n 1, 1) := by decide +kernel
theorem r_L_law_645 {x0 x2 x3 : Value} {a : Nat} {st : List Value} {h : AH} : Run M_L_law 645 [x0, .ref a, x2, x3] st h = Run M_L_law 646 [x0, .ref a, x2, x3] (.ref a :: st) h := R_aload_n d_L_law_645 rfl
theorem d_L_law_646 : decode (mB M_L_law) 646 = .ok (.aload_n 0, 1) := by decide +kernel
theorem r_L_law_646 {x1 x2 x3 : Value} {a : Nat} {st : List Value} {h : AH} : Run M_L_law 646 [.ref a, x1, x2, x3] st h = Run M_L_law 647 [.ref a, x1, x2, x3] (.ref a :: st) h := R_aload_n d_L_law_646 rfl
theorem d_L_law_647 : decode (mB M_L_law) 647 = .ok (.iload_n 3, 1) := by decide +kernel
theorem r_L_law_647 {x0 x1 x2 : Value} {a : Int32} {st : List Value} {h : AH} : Run M_L_law 647 [x0, x1, x2, .int a] st h = Run M_L_law 648 [x0, x1, x2, .int a] (.int a :: st) h := R_iload_n d_L_law_647 rfl
theorem d_L_law_648 : decode (mB M_L_law) 648 = .ok (.iconst 1, 1) := by decide +kernel
theorem r_L_law_648 {x0 x1 x2 x3 : Value} {st : List Value} {h : AH} : Run M_L_law 648 [x0, x1, x2, x3] st h = Run M_L_law 649 [x0, x1, x2, x3] (.int (nI 1) :: st) h := R_iconst d_L_law_648 (by decide)
theorem d_L_law_649 : decode (mB M_L_law) 649 = .ok (.iadd, 1) := by decide +kernel
theorem r_L_law_649 {x0 x1 x2 x3 : Value} {x y : Int32} {st : List Value} {h : AH} : Run M_L_law 649 [x0, x1, x2, x3] (.int y :: .int x :: st) h = Run M_L_law 650 [x0, x1, x2, x3] (.int (x + y) :: st) h := R_iadd d_L_law_649
theorem d_L_law_650 : decode (mB M_L_law) 650 = .ok (.iaload, 1) := by decide +kernel
theorem r_L_law_650 {x0 x1 x2 x3 : Value} {a : Nat} {i : Int32} {st : List Value} {h : AH} : Run M_L_law 650 [x0, x1, x2, x3] (.int i :: .ref a :: st) h = if (gI 0 h a i).isSome = true then Run M_L_law 651 [x0, x1, x2, x3] (.int ((gI 0 h a i).getD 0) :: st) h else none := R_iaload d_L_law_650
theorem d_L_law_651 : decode (mB M_L_law) 651 = .ok (.invokevirtual 78, 3) := by decide +kernel
theorem r_L_law_651 {x0 x1 x2 x3 : Value} {p0 : Int32} {a : Nat} {h : AH} : Run M_L_law 651 [x0, x1, x2, x3] (.int p0 :: .ref a :: []) h = if refO h 8 (some (.ref a)) = true then (if (Call M_X8_mean h [.ref a, .int p0]).isSome = true then Run M_L_law 654 [x0, x1, x2, x3] (rL (Call M_X8_mean h [.ref a, .int p0]) ++ []) (cH (Call M_X8_mean h [.ref a, .int p0])) else none) else none := R_virt d_L_law_651 rfl rfl rfl rfl rfl (Nat.le_of_ble_eq_true rfl)
theorem d_L_law_654 : decode (mB M_L_law) 654 = .ok (.aload_n 2, 1) := by decide +kernel
theorem r_L_law_654 {x0 x1 x3 : Value} {a : Nat} {st : List Value} {h : AH} : Run M_L_law 654 [x0, x1, .ref a, x3] st h = Run M_L_law 655 [x0, x1, .ref a, x3] (.ref a :: st) h := R_aload_n d_L_law_654 rfl
theorem d_L_law_655 : decode (mB M_L_law) 655 = .ok (.aload_n 0, 1) := by decide +kernel
theorem r_L_law_655 {x1 x2 x3 : Value} {a : Nat} {st : List Value} {h : AH} : Run M_L_law 655 [.ref a, x1, x2, x3] st h = Run M_L_law 656 [.ref a, x1, x2, x3] (.ref a :: st) h := R_aload_n d_L_law_655 rfl
theorem d_L_law_656 : decode (mB M_L_law) 656 = .ok (.iload_n 3, 1) := by decide +kernel
theorem r_L_law_656 {x0 x1 x2 : Value} {a : Int32} {st : List Value} {h : AH} : Run M_L_law 656 [x0, x1, x2, .int a] st h = Run M_L_law 657 [x0, x1, x2, .int a] (.int a :: st) h := R_iload_n d_L_law_656 rfl
theorem d_L_law_657 : decode (mB M_L_law) 657 = .ok (.iconst 1, 1) := by decide +kernel
theorem r_L_law_657 {x0 x1 x2 x3 : Value} {st : List Value} {h : AH} : Run M_L_law 657 [x0, x1, x2, x3] st h = Run M_L_law 658 [x0, x1, x2, x3] (.int (nI 1) :: st) h := R_iconst d_L_law_657 (by decide)
theorem d_L_law_658 : decode (mB M_L_law) 658 = .ok (.iadd, 1) := by decide +kernel
theorem r_L_law_658 {x0 x1 x2 x3 : Value} {x y : Int32} {st : List Value} {h : AH} : Run M_L_law 658 [x0, x1, x2, x3] (.int y :: .int x :: st) h = Run M_L_law 659 [x0, x1, x2, x3] (.int (x + y) :: st) h := R_iadd d_L_law_658
theorem d_L_law_659 : decode (mB M_L_law) 659 = .ok (.iaload, 1) := by decide +kernel
theorem r_L_law_659 {x0 x1 x2 x3 : Value} {a : Nat} {i : Int32} {st : List Value} {h : AH} : Run M_L_law 659 [x0, x1, x2, x3] (.int i :: .ref a :: st) h = if (gI 0 h a i).isSome = true then Run M_L_law 660 [x0, x1, x2, x3] (.int ((gI 0 h a i).getD 0) :: st) h else none := R_iaload d_L_law_659
theorem d_L_law_660 : decode (mB M_L_law) 660 = .ok (.invokevirtual 82, 3) := by decide +kernel
theorem r_L_law_660 {x0 x1 x2 x3 : Value} {p0 : Int32} {a : Nat} {w0 : Value} {h : AH} : Run M_L_law 660 [x0, x1, x2, x3] (.int p0 :: .ref a :: [w0]) h = if refO h 9 (some (.ref a)) = true then (if (Call M_X9_mean h [.ref a, .int p0]).isSome = true then Run M_L_law 663 [x0, x1, x2, x3] (rL (Call M_X9_mean h [.ref a, .int p0]) ++ [w0]) (cH (Call M_X9_mean h [.ref a, .int p0])) else none) else none := R_virt d_L_law_660 rfl rfl rfl rfl rfl (Nat.le_of_ble_eq_true rfl)
theorem d_L_law_663 : decode (mB M_L_law) 663 = .ok (.lcmp, 1) := by decide +kernel
theorem r_L_law_663 {x0 x1 x2 x3 : Value} {x y : Int64} {st : List Value} {h : AH} : Run M_L_law 663 [x0, x1, x2, x3] (.long y :: .long x :: st) h = Run M_L_law 664 [x0, x1, x2, x3] (.int (lg_cmp x y) :: st) h := R_lcmp d_L_law_663
theorem d_L_law_664 : decode (mB M_L_law) 664 = .ok (.ifCond .eq 683, 3) := by decide +kernel
theorem r_L_law_664 {x0 x1 x2 x3 : Value} {x : Int32} {st : List Value} {h : AH} : Run M_L_law 664 [x0, x1, x2, x3] (.int x :: st) h = if x = nI 0 then Run M_L_law 1347 [x0, x1, x2, x3] st h else Run M_L_law 667 [x0, x1, x2, x3] st h := R_if_eq d_L_law_664 (by decide)
theorem d_L_law_667 : decode (mB M_L_law) 667 = .ok (.iconst 0, 1) := by decide +kernel
theorem r_L_law_667 {x0 x1 x2 x3 : Value} {st : List Value} {h : AH} : Run M_L_law 667 [x0, x1, x2, x3] st h = Run M_L_law 668 [x0, x1, x2, x3] (.int (nI 0) :: st) h := R_iconst d_L_law_667 (by decide)
theorem d_L_law_668 : decode (mB M_L_law) 668 = .ok (.ireturn, 1) := by decide +kernel
theorem r_L_law_668_0 {x0 x1 x2 x3 : Value} {h : AH} : Run M_L_law 668 [x0, x1, x2, x3] [.int (nI 0)] h = some (h, some (.int (nI 0))) := R_ireturn d_L_law_668 rfl (by decide)
theorem r_L_law_668_1 {x0 x1 x2 x3 : Value} {h : AH} : Run M_L_law 668 [x0, x1, x2, x3] [.int (nI 1)] h = some (h, some (.int (nI 1))) := R_ireturn d_L_law_668 rfl (by decide)
theorem r_L_law_668_c {x0 x1 x2 x3 : Value} {c : Prop} [Decidable c] {h : AH} : Run M_L_law 668 [x0, x1, x2, x3] [.int (bI c)] h = some (h, some (.int (bI c))) := R_ireturn d_L_law_668 rfl narrow_bI
theorem d_L_law_669 : decode (mB M_L_law) 669 = .ok (.aload_n 1, 1) := by decide +kernel
theorem r_L_law_669 {x0 x2 x3 : Value} {a : Nat} {st : List Value} {h : AH} : Run M_L_law 669 [x0, .ref a, x2, x3] st h = Run M_L_law 670 [x0, .ref a, x2, x3] (.ref a :: st) h := R_aload_n d_L_law_669 rfl
theorem d_L_law_670 : decode (mB M_L_law) 670 = .ok (.aload_n 0, 1) := by decide +kernel
theorem r_L_law_670 {x1 x2 x3 : Value} {a : Nat} {st : List Value} {h : AH} : Run M_L_law 670 [.ref a, x1, x2, x3] st h = Run M_L_law 671 [.ref a, x1, x2, x3] (.ref a :: st) h := R_aload_n d_L_law_670 rfl
theorem d_L_law_671 : decode (mB M_L_law) 671 = .ok (.iload_n 3, 1) := by decide +kernel
theorem r_L_law_671 {x0 x1 x2 : Value} {a : Int32} {st : List Value} {h : AH} : Run M_L_law 671 [x0, x1, x2, .int a] st h = Run M_L_law 672 [x0, x1, x2, .int a] (.int a :: st) h := R_iload_n d_L_law_671 rfl
theorem d_L_law_672 : decode (mB M_L_law) 672 = .ok (.iconst 1, 1) := by decide +kernel
theorem r_L_law_672 {x0 x1 x2 x3 : Value} {st : List Value} {h : AH} : Run M_L_law 672 [x0, x1, x2, x3] st h = Run M_L_law 673 [x0, x1, x2, x3] (.int (nI 1) :: st) h := R_iconst d_L_law_672 (by decide)
theorem d_L_law_673 : decode (mB M_L_law) 673 = .ok (.iadd, 1) := by decide +kernel
theorem r_L_law_673 {x0 x1 x2 x3 : Value} {x y : Int32} {st : List Value} {h : AH} : Run M_L_law 673 [x0, x1, x2, x3] (.int y :: .int x :: st) h = Run M_L_law 674 [x0, x1, x2, x3] (.int (x + y) :: st) h := R_iadd d_L_law_673
theorem d_L_law_674 : decode (mB M_L_law) 674 = .ok (.iaload, 1) := by decide +kernel
theorem r_L_law_674 {x0 x1 x2 x3 : Value} {a : Nat} {i : Int32} {st : List Value} {h : AH} : Run M_L_law 674 [x0, x1, x2, x3] (.int i :: .ref a :: st) h = if (gI 0 h a i).isSome = true then Run M_L_law 675 [x0, x1, x2, x3] (.int ((gI 0 h a i).getD 0) :: st) h else none := R_iaload d_L_law_674
theorem d_L_law_675 : decode (mB M_L_law) 675 = .ok (.invokevirtual 83, 3) := by decide +kernel
theorem r_L_law_675 {x0 x1 x2 x3 : Value} {p0 : Int32} {a : Nat} {h : AH} : Run M_L_law 675 [x0, x1, x2, x3] (.int p0 :: .ref a :: []) h = if refO h 8 (some (.ref a)) = true then (if (Call M_X8_edge h [.ref a, .int p0]).isSome = true then Run M_L_law 678 [x0, x1, x2, x3] (rL (Call M_X8_edge h [.ref a, .int p0]) ++ []) (cH (Call M_X8_edge h [.ref a, .int p0])) else none) else none := R_virt d_L_law_675 rfl rfl rfl rfl rfl (Nat.le_of_ble_eq_true rfl)
theorem d_L_law_678 : decode (mB M_L_law) 678 = .ok (.aload_n 2, 1) := by decide +kernel
theorem r_L_law_678 {x0 x1 x3 : Value} {a : Nat} {st : List Value} {h : AH} : Run M_L_law 678 [x0, x1, .ref a, x3] st h = Run M_L_law 679 [x0, x1, .ref a, x3] (.ref a :: st) h := R_aload_n d_L_law_678 rfl
theorem d_L_law_679 : decode (mB M_L_law) 679 = .ok (.aload_n 0, 1) := by decide +kernel
theorem r_L_law_679 {x1 x2 x3 : Value} {a : Nat} {st : List Value} {h : AH} : Run M_L_law 679 [.ref a, x1, x2, x3] st h = Run M_L_law 680 [.ref a, x1, x2, x3] (.ref a :: st) h := R_aload_n d_L_law_679 rfl
theorem d_L_law_680 : decode (mB M_L_law) 680 = .ok (.iload_n 3, 1) := by decide +kernel
theorem r_L_law_680 {x0 x1 x2 : Value} {a : Int32} {st : List Value} {h : AH} : Run M_L_law 680 [x0, x1, x2, .int a] st h = Run M_L_law 681 [x0, x1, x2, .int a] (.int a :: st) h := R_iload_n d_L_law_680 rfl
theorem d_L_law_681 : decode (mB M_L_law) 681 = .ok (.iconst 1, 1) := by decide +kernel
theorem r_L_law_681 {x0 x1 x2 x3 : Value} {st : List Value} {h : AH} : Run M_L_law 681 [x0, x1, x2, x3] st h = Run M_L_law 682 [x0, x1, x2, x3] (.int (nI 1) :: st) h := R_iconst d_L_law_681 (by decide)
theorem d_L_law_682 : decode (mB M_L_law) 682 = .ok (.iadd, 1) := by decide +kernel
theorem r_L_law_682 {x0 x1 x2 x3 : Value} {x y : Int32} {st : List Value} {h : AH} : Run M_L_law 682 [x0, x1, x2, x3] (.int y :: .int x :: st) h = Run M_L_law 683 [x0, x1, x2, x3] (.int (x + y) :: st) h := R_iadd d_L_law_682
theorem d_L_law_683 : decode (mB M_L_law) 683 = .ok (.iaload, 1) := by decide +kernel
theorem r_L_law_683 {x0 x1 x2 x3 : Value} {a : Nat} {i : Int32} {st : List Value} {h : AH} : Run M_L_law 683 [x0, x1, x2, x3] (.int i :: .ref a :: st) h = if (gI 0 h a i).isSome = true then Run M_L_law 684 [x0, x1, x2, x3] (.int ((gI 0 h a i).getD 0) :: st) h else none := R_iaload d_L_law_683
theorem d_L_law_684 : decode (mB M_L_law) 684 = .ok (.invokevirtual 86, 3) := by decide +kernel
theorem r_L_law_684 {x0 x1 x2 x3 : Value} {p0 : Int32} {a : Nat} {w0 : Value} {h : AH} : Run M_L_law 684 [x0, x1, x2, x3] (.int p0 :: .ref a :: [w0]) h = if refO h 9 (some (.ref a)) = true then (if (Call M_X9_edge h [.ref a, .int p0]).isSome = true then Run M_L_law 687 [x0, x1, x2, x3] (rL (Call M_X9_edge h [.ref a, .int p0]) ++ [w0]) (cH (Call M_X9_edge h [.ref a, .int p0])) else none) else none := R_virt d_L_law_684 rfl rfl rfl rfl rfl (Nat.le_of_ble_eq_true rfl)
theorem d_L_law_687 : decode (mB M_L_law) 687 = .ok (.if_icmp .eq 660, 3) := by decide +kernel
theorem r_L_law_687 {x0 x1 x2 x3 : Value} {x y : Int32} {st : List Value} {h : AH} : Run M_L_law 687 [x0, x1, x2, x3] (.int y :: .int x :: st) h = if x = y then Run M_L_law 1347 [x0, x1, x2, x3] st h else Run M_L_law 690 [x0, x1, x2, x3] st h := R_icmp_eq d_L_law_687 (by decide)
theorem d_L_law_690 : decode (mB M_L_law) 690 = .ok (.iconst 0, 1) := by decide +kernel
theorem r_L_law_690 {x0 x1 x2 x3 : Value} {st : List Value} {h : AH} : Run M_L_law 690 [x0, x1, x2, x3] st h = Run M_L_law 691 [x0, x1, x2, x3] (.int (nI 0) :: st) h := R_iconst d_L_law_690 (by decide)
theorem d_L_law_691 : decode (mB M_L_law) 691 = .ok (.ireturn, 1) := by decide +kernel
theorem r_L_law_691_0 {x0 x1 x2 x3 : Value} {h : AH} : Run M_L_law 691 [x0, x1, x2, x3] [.int (nI 0)] h = some (h, some (.int (nI 0))) := R_ireturn d_L_law_691 rfl (by decide)
theorem r_L_law_691_1 {x0 x1 x2 x3 : Value} {h : AH} : Run M_L_law 691 [x0, x1, x2, x3] [.int (nI 1)] h = some (h, some (.int (nI 1))) := R_ireturn d_L_law_691 rfl (by decide)
theorem r_L_law_691_c {x0 x1 x2 x3 : Value} {c : Prop} [Decidable c] {h : AH} : Run M_L_law 691 [x0, x1, x2, x3] [.int (bI c)] h = some (h, some (.int (bI c))) := R_ireturn d_L_law_691 rfl narrow_bI
theorem d_L_law_692 : decode (mB M_L_law) 692 = .ok (.aload_n 1, 1) := by decide +kernel
theorem r_L_law_692 {x0 x2 x3 : Value} {a : Nat} {st : List Value} {h : AH} : Run M_L_law 692 [x0, .ref a, x2, x3] st h = Run M_L_law 693 [x0, .ref a, x2, x3] (.ref a :: st) h := R_aload_n d_L_law_692 rfl
theorem d_L_law_693 : decode (mB M_L_law) 693 = .ok (.aload_n 0, 1) := by decide +kernel
theorem r_L_law_693 {x1 x2 x3 : Value} {a : Nat} {st : List Value} {h : AH} : Run M_L_law 693 [.ref a, x1, x2, x3] st h = Run M_L_law 694 [.ref a, x1, x2, x3] (.ref a :: st) h := R_aload_n d_L_law_693 rfl
theorem d_L_law_694 : decode (mB M_L_law) 694 = .ok (.iload_n 3, 1) := by decide +kernel
theorem r_L_law_694 {x0 x1 x2 : Value} {a : Int32} {st : List Value} {h : AH} : Run M_L_law 694 [x0, x1, x2, .int a] st h = Run M_L_law 695 [x0, x1, x2, .int a] (.int a :: st) h := R_iload_n d_L_law_694 rfl
theorem d_L_law_695 : decode (mB M_L_law) 695 = .ok (.iconst 1, 1) := by decide +kernel
theorem r_L_law_695 {x0 x1 x2 x3 : Value} {st : List Value} {h : AH} : Run M_L_law 695 [x0, x1, x2, x3] st h = Run M_L_law 696 [x0, x1, x2, x3] (.int (nI 1) :: st) h := R_iconst d_L_law_695 (by decide)
theorem d_L_law_696 : decode (mB M_L_law) 696 = .ok (.iadd, 1) := by decide +kernel
theorem r_L_law_696 {x0 x1 x2 x3 : Value} {x y : Int32} {st : List Value} {h : AH} : Run M_L_law 696 [x0, x1, x2, x3] (.int y :: .int x :: st) h = Run M_L_law 697 [x0, x1, x2, x3] (.int (x + y) :: st) h := R_iadd d_L_law_696
theorem d_L_law_697 : decode (mB M_L_law) 697 = .ok (.iaload, 1) := by decide +kernel
theorem r_L_law_697 {x0 x1 x2 x3 : Value} {a : Nat} {i : Int32} {st : List Value} {h : AH} : Run M_L_law 697 [x0, x1, x2, x3] (.int i :: .ref a :: st) h = if (gI 0 h a i).isSome = true then Run M_L_law 698 [x0, x1, x2, x3] (.int ((gI 0 h a i).getD 0) :: st) h else none := R_iaload d_L_law_697
theorem d_L_law_698 : decode (mB M_L_law) 698 = .ok (.aload_n 0, 1) := by decide +kernel
theorem r_L_law_698 {x1 x2 x3 : Value} {a : Nat} {st : List Value} {h : AH} : Run M_L_law 698 [.ref a, x1, x2, x3] st h = Run M_L_law 699 [.ref a, x1, x2, x3] (.ref a :: st) h := R_aload_n d_L_law_698 rfl
theorem d_L_law_699 : decode (mB M_L_law) 699 = .ok (.iload_n 3, 1) := by decide +kernel
theorem r_L_law_699 {x0 x1 x2 : Value} {a : Int32} {st : List Value} {h : AH} : Run M_L_law 699 [x0, x1, x2, .int a] st h = Run M_L_law 700 [x0, x1, x2, .int a] (.int a :: st) h := R_iload_n d_L_law_699 rfl
theorem d_L_law_700 : decode (mB M_L_law) 700 = .ok (.iconst 2, 1) := by decide +kernel
theorem r_L_law_700 {x0 x1 x2 x3 : Value} {st : List Value} {h : AH} : Run M_L_law 700 [x0, x1, x2, x3] st h = Run M_L_law 701 [x0, x1, x2, x3] (.int (nI 2) :: st) h := R_iconst d_L_law_700 (by decide)
theorem d_L_law_701 : decode (mB M_L_law) 701 = .ok (.iadd, 1) := by decide +kernel
theorem r_L_law_701 {x0 x1 x2 x3 : Value} {x y : Int32} {st : List Value} {h : AH} : Run M_L_law 701 [x0, x1, x2, x3] (.int y :: .int x :: st) h = Run M_L_law 702 [x0, x1, x2, x3] (.int (x + y) :: st) h := R_iadd d_L_law_701
theorem d_L_law_702 : decode (mB M_L_law) 702 = .ok (.iaload, 1) := by decide +kernel
theorem r_L_law_702 {x0 x1 x2 x3 : Value} {a : Nat} {i : Int32} {st : List Value} {h : AH} : Run M_L_law 702 [x0, x1, x2, x3] (.int i :: .ref a :: st) h = if (gI 0 h a i).isSome = true then Run M_L_law 703 [x0, x1, x2, x3] (.int ((gI 0 h a i).getD 0) :: st) h else none := R_iaload d_L_law_702
theorem d_L_law_703 : decode (mB M_L_law) 703 = .ok (.aload_n 0, 1) := by decide +kernel
theorem r_L_law_703 {x1 x2 x3 : Value} {a : Nat} {st : List Value} {h : AH} : Run M_L_law 703 [.ref a, x1, x2, x3] st h = Run M_L_law 704 [.ref a, x1, x2, x3] (.ref a :: st) h := R_aload_n d_L_law_703 rfl
theorem d_L_law_704 : decode (mB M_L_law) 704 = .ok (.iload_n 3, 1) := by decide +kernel
theorem r_L_law_704 {x0 x1 x2 : Value} {a : Int32} {st : List Value} {h : AH} : Run M_L_law 704 [x0, x1, x2, .int a] st h = Run M_L_law 705 [x0, x1, x2, .int a] (.int a :: st) h := R_iload_n d_L_law_704 rfl
theorem d_L_law_705 : decode (mB M_L_law) 705 = .ok (.iconst 3, 1) := by decide +kernel
theorem r_L_law_705 {x0 x1 x2 x3 : Value} {st : List Value} {h : AH} : Run M_L_law 705 [x0, x1, x2, x3] st h = Run M_L_law 706 [x0, x1, x2, x3] (.int (nI 3) :: st) h := R_iconst d_L_law_705 (by decide)
theorem d_L_law_706 : decode (mB M_L_law) 706 = .ok (.iadd, 1) := by decide +kernel
theorem r_L_law_706 {x0 x1 x2 x3 : Value} {x y : Int32} {st : List Value} {h : AH} : Run M_L_law 706 [x0, x1, x2, x3] (.int y :: .int x :: st) h = Run M_L_law 707 [x0, x1, x2, x3] (.int (x + y) :: st) h := R_iadd d_L_law_706
theorem d_L_law_707 : decode (mB M_L_law) 707 = .ok (.iaload, 1) := by decide +kernel
theorem r_L_law_707 {x0 x1 x2 x3 : Value} {a : Nat} {i : Int32} {st : List Value} {h : AH} : Run M_L_law 707 [x0, x1, x2, x3] (.int i :: .ref a :: st) h = if (gI 0 h a i).isSome = true then Run M_L_law 708 [x0, x1, x2, x3] (.int ((gI 0 h a i).getD 0) :: st) h else none := R_iaload d_L_law_707
theorem d_L_law_708 : decode (mB M_L_law) 708 = .ok (.invokevirtual 87, 3) := by decide +kernel
theorem r_L_law_708 {x0 x1 x2 x3 : Value} {p0 : Int32} {p1 : Int32} {p2 : Int32} {a : Nat} {h : AH} : Run M_L_law 708 [x0, x1, x2, x3] (.int p2 :: .int p1 :: .int p0 :: .ref a :: []) h = if refO h 8 (some (.ref a)) = true then (if (Call M_X8_starts h [.ref a, .int p0, .int p1, .int p2]).isSome = true then Run M_L_law 711 [x0, x1, x2, x3] (rL (Call M_X8_starts h [.ref a, .int p0, .int p1, .int p2]) ++ []) (cH (Call M_X8_starts h [.ref a, .int p0, .int p1, .int p2])) else none) else none := R_virt d_L_law_708 rfl rfl rfl rfl rfl (Nat.le_of_ble_eq_true rfl)
theorem d_L_law_711 : decode (mB M_L_law) 711 = .ok (.aload_n 2, 1) := by decide +kernel
theorem r_L_law_711 {x0 x1 x3 : Value} {a : Nat} {st : List Value} {h : AH} : Run M_L_law 711 [x0, x1, .ref a, x3] st h = Run M_L_law 712 [x0, x1, .ref a, x3] (.ref a :: st) h := R_aload_n d_L_law_711 rfl
theorem d_L_law_712 : decode (mB M_L_law) 712 = .ok (.aload_n 0, 1) := by decide +kernel
theorem r_L_law_712 {x1 x2 x3 : Value} {a : Nat} {st : List Value} {h : AH} : Run M_L_law 712 [.ref a, x1, x2, x3] st h = Run M_L_law 713 [.ref a, x1, x2, x3] (.ref a :: st) h := R_aload_n d_L_law_712 rfl
theorem d_L_law_713 : decode (mB M_L_law) 713 = .ok (.iload_n 3, 1) := by decide +kernel
theorem r_L_law_713 {x0 x1 x2 : Value} {a : Int32} {st : List Value} {h : AH} : Run M_L_law 713 [x0, x1, x2, .int a] st h = Run M_L_law 714 [x0, x1, x2, .int a] (.int a :: st) h := R_iload_n d_L_law_713 rfl
theorem d_L_law_714 : decode (mB M_L_law) 714 = .ok (.iconst 1, 1) := by decide +kernel
theorem r_L_law_714 {x0 x1 x2 x3 : Value} {st : List Value} {h : AH} : Run M_L_law 714 [x0, x1, x2, x3] st h = Run M_L_law 715 [x0, x1, x2, x3] (.int (nI 1) :: st) h := R_iconst d_L_law_714 (by decide)
theorem d_L_law_715 : decode (mB M_L_law) 715 = .ok (.iadd, 1) := by decide +kernel
theorem r_L_law_715 {x0 x1 x2 x3 : Value} {x y : Int32} {st : List Value} {h : AH} : Run M_L_law 715 [x0, x1, x2, x3] (.int y :: .int x :: st) h = Run M_L_law 716 [x0, x1, x2, x3] (.int (x + y) :: st) h := R_iadd d_L_law_715
theorem d_L_law_716 : decode (mB M_L_law) 716 = .ok (.iaload, 1) := by decide +kernel
theorem r_L_law_716 {x0 x1 x2 x3 : Value} {a : Nat} {i : Int32} {st : List Value} {h : AH} : Run M_L_law 716 [x0, x1, x2, x3] (.int i :: .ref a :: st) h = if (gI 0 h a i).isSome = true then Run M_L_law 717 [x0, x1, x2, x3] (.int ((gI 0 h a i).getD 0) :: st) h else none := R_iaload d_L_law_716
theorem d_L_law_717 : decode (mB M_L_law) 717 = .ok (.aload_n 0, 1) := by decide +kernel
theorem r_L_law_717 {x1 x2 x3 : Value} {a : Nat} {st : List Value} {h : AH} : Run M_L_law 717 [.ref a, x1, x2, x3] st h = Run M_L_law 718 [.ref a, x1, x2, x3] (.ref a :: st) h := R_aload_n d_L_law_717 rfl
theorem d_L_law_718 : decode (mB M_L_law) 718 = .ok (.iload_n 3, 1) := by decide +kernel
theorem r_L_law_718 {x0 x1 x2 : Value} {a : Int32} {st : List Value} {h : AH} : Run M_L_law 718 [x0, x1, x2, .int a] st h = Run M_L_law 719 [x0, x1, x2, .int a] (.int a :: st) h := R_iload_n d_L_law_718 rfl
theorem d_L_law_719 : decode (mB M_L_law) 719 = .ok (.iconst 2, 1) := by decide +kernel
theorem r_L_law_719 {x0 x1 x2 x3 : Value} {st : List Value} {h : AH} : Run M_L_law 719 [x0, x1, x2, x3] st h = Run M_L_law 720 [x0, x1, x2, x3] (.int (nI 2) :: st) h := R_iconst d_L_law_719 (by decide)
theorem d_L_law_720 : decode (mB M_L_law) 720 = .ok (.iadd, 1) := by decide +kernel
theorem r_L_law_720 {x0 x1 x2 x3 : Value} {x y : Int32} {st : List Value} {h : AH} : Run M_L_law 720 [x0, x1, x2, x3] (.int y :: .int x :: st) h = Run M_L_law 721 [x0, x1, x2, x3] (.int (x + y) :: st) h := R_iadd d_L_law_720
theorem d_L_law_721 : decode (mB M_L_law) 721 = .ok (.iaload, 1) := by decide +kernel
theorem r_L_law_721 {x0 x1 x2 x3 : Value} {a : Nat} {i : Int32} {st : List Value} {h : AH} : Run M_L_law 721 [x0, x1, x2, x3] (.int i :: .ref a :: st) h = if (gI 0 h a i).isSome = true then Run M_L_law 722 [x0, x1, x2, x3] (.int ((gI 0 h a i).getD 0) :: st) h else none := R_iaload d_L_law_721
theorem d_L_law_722 : decode (mB M_L_law) 722 = .ok (.aload_n 0, 1) := by decide +kernel
theorem r_L_law_722 {x1 x2 x3 : Value} {a : Nat} {st : List Value} {h : AH} : Run M_L_law 722 [.ref a, x1, x2, x3] st h = Run M_L_law 723 [.ref a, x1, x2, x3] (.ref a :: st) h := R_aload_n d_L_law_722 rfl
theorem d_L_law_723 : decode (mB M_L_law) 723 = .ok (.iload_n 3, 1) := by decide +kernel
theorem r_L_law_723 {x0 x1 x2 : Value} {a : Int32} {st : List Value} {h : AH} : Run M_L_law 723 [x0, x1, x2, .int a] st h = Run M_L_law 724 [x0, x1, x2, .int a] (.int a :: st) h := R_iload_n d_L_law_723 rfl
theorem d_L_law_724 : decode (mB M_L_law) 724 = .ok (.iconst 3, 1) := by decide +kernel
theorem r_L_law_724 {x0 x1 x2 x3 : Value} {st : List Value} {h : AH} : Run M_L_law 724 [x0, x1, x2, x3] st h = Run M_L_law 725 [x0, x1, x2, x3] (.int (nI 3) :: st) h := R_iconst d_L_law_724 (by decide)
theorem d_L_law_725 : decode (mB M_L_law) 725 = .ok (.iadd, 1) := by decide +kernel
theorem r_L_law_725 {x0 x1 x2 x3 : Value} {x y : Int32} {st : List Value} {h : AH} : Run M_L_law 725 [x0, x1, x2, x3] (.int y :: .int x :: st) h = Run M_L_law 726 [x0, x1, x2, x3] (.int (x + y) :: st) h := R_iadd d_L_law_725
theorem d_L_law_726 : decode (mB M_L_law) 726 = .ok (.iaload, 1) := by decide +kernel
theorem r_L_law_726 {x0 x1 x2 x3 : Value} {a : Nat} {i : Int32} {st : List Value} {h : AH} : Run M_L_law 726 [x0, x1, x2, x3] (.int i :: .ref a :: st) h = if (gI 0 h a i).isSome = true then Run M_L_law 727 [x0, x1, x2, x3] (.int ((gI 0 h a i).getD 0) :: st) h else none := R_iaload d_L_law_726
theorem d_L_law_727 : decode (mB M_L_law) 727 = .ok (.invokevirtual 91, 3) := by decide +kernel
theorem r_L_law_727 {x0 x1 x2 x3 : Value} {p0 : Int32} {p1 : Int32} {p2 : Int32} {a : Nat} {w0 : Value} {h : AH} : Run M_L_law 727 [x0, x1, x2, x3] (.int p2 :: .int p1 :: .int p0 :: .ref a :: [w0]) h = if refO h 9 (some (.ref a)) = true then (if (Call M_X9_starts h [.ref a, .int p0, .int p1, .int p2]).isSome = true then Run M_L_law 730 [x0, x1, x2, x3] (rL (Call M_X9_starts h [.ref a, .int p0, .int p1, .int p2]) ++ [w0]) (cH (Call M_X9_starts h [.ref a, .int p0, .int p1, .int p2])) else none) else none := R_virt d_L_law_727 rfl rfl rfl rfl rfl (Nat.le_of_ble_eq_true rfl)
theorem d_L_law_730 : decode (mB M_L_law) 730 = .ok (.lcmp, 1) := by decide +kernel
theorem r_L_law_730 {x0 x1 x2 x3 : Value} {x y : Int64} {st : List Value} {h : AH} : Run M_L_law 730 [x0, x1, x2, x3] (.long y :: .long x :: st) h = Run M_L_law 731 [x0, x1, x2, x3] (.int (lg_cmp x y) :: st) h := R_lcmp d_L_law_730
theorem d_L_law_731 : decode (mB M_L_law) 731 = .ok (.ifCond .eq 616, 3) := by decide +kernel
theorem r_L_law_731 {x0 x1 x2 x3 : Value} {x : Int32} {st : List Value} {h : AH} : Run M_L_law 731 [x0, x1, x2, x3] (.int x :: st) h = if x = nI 0 then Run M_L_law 1347 [x0, x1, x2, x3] st h else Run M_L_law 734 [x0, x1, x2, x3] st h := R_if_eq d_L_law_731 (by decide)
theorem d_L_law_734 : decode (mB M_L_law) 734 = .ok (.iconst 0, 1) := by decide +kernel
theorem r_L_law_734 {x0 x1 x2 x3 : Value} {st : List Value} {h : AH} : Run M_L_law 734 [x0, x1, x2, x3] st h = Run M_L_law 735 [x0, x1, x2, x3] (.int (nI 0) :: st) h := R_iconst d_L_law_734 (by decide)
theorem d_L_law_735 : decode (mB M_L_law) 735 = .ok (.ireturn, 1) := by decide +kernel
theorem r_L_law_735_0 {x0 x1 x2 x3 : Value} {h : AH} : Run M_L_law 735 [x0, x1, x2, x3] [.int (nI 0)] h = some (h, some (.int (nI 0))) := R_ireturn d_L_law_735 rfl (by decide)
theorem r_L_law_735_1 {x0 x1 x2 x3 : Value} {h : AH} : Run M_L_law 735 [x0, x1, x2, x3] [.int (nI 1)] h = some (h, some (.int (nI 1))) := R_ireturn d_L_law_735 rfl (by decide)
theorem r_L_law_735_c {x0 x1 x2 x3 : Value} {c : Prop} [Decidable c] {h : AH} : Run M_L_law 735 [x0, x1, x2, x3] [.int (bI c)] h = some (h, some (.int (bI c))) := R_ireturn d_L_law_735 rfl narrow_bI
theorem d_L_law_736 : decode (mB M_L_law) 736 = .ok (.aload_n 1, 1) := by decide +kernel
theorem r_L_law_736 {x0 x2 x3 : Value} {a : Nat} {st : List Value} {h : AH} : Run M_L_law 736 [x0, .ref a, x2, x3] st h = Run M_L_law 737 [x0, .ref a, x2, x3] (.ref a :: st) h := R_aload_n d_L_law_736 rfl
theorem d_L_law_737 : decode (mB M_L_law) 737 = .ok (.aload_n 0, 1) := by decide +kernel
theorem r_L_law_737 {x1 x2 x3 : Value} {a : Nat} {st : List Value} {h : AH} : Run M_L_law 737 [.ref a, x1, x2, x3] st h = Run M_L_law 738 [.ref a, x1, x2, x3] (.ref a :: st) h := R_aload_n d_L_law_737 rfl
theorem d_L_law_738 : decode (mB M_L_law) 738 = .ok (.iload_n 3, 1) := by decide +kernel
theorem r_L_law_738 {x0 x1 x2 : Value} {a : Int32} {st : List Value} {h : AH} : Run M_L_law 738 [x0, x1, x2, .int a] st h = Run M_L_law 739 [x0, x1, x2, .int a] (.int a :: st) h := R_iload_n d_L_law_738 rfl
theorem d_L_law_739 : decode (mB M_L_law) 739 = .ok (.iconst 1, 1) := by decide +kernel
theorem r_L_law_739 {x0 x1 x2 x3 : Value} {st : List Value} {h : AH} : Run M_L_law 739 [x0, x1, x2, x3] st h = Run M_L_law 740 [x0, x1, x2, x3] (.int (nI 1) :: st) h := R_iconst d_L_law_739 (by decide)
theorem d_L_law_740 : decode (mB M_L_law) 740 = .ok (.iadd, 1) := by decide +kernel
theorem r_L_law_740 {x0 x1 x2 x3 : Value} {x y : Int32} {st : List Value} {h : AH} : Run M_L_law 740 [x0, x1, x2, x3] (.int y :: .int x :: st) h = Run M_L_law 741 [x0, x1, x2, x3] (.int (x + y) :: st) h := R_iadd d_L_law_740
theorem d_L_law_741 : decode (mB M_L_law) 741 = .ok (.iaload, 1) := by decide +kernel
theorem r_L_law_741 {x0 x1 x2 x3 : Value} {a : Nat} {i : Int32} {st : List Value} {h : AH} : Run M_L_law 741 [x0, x1, x2, x3] (.int i :: .ref a :: st) h = if (gI 0 h a i).isSome = true then Run M_L_law 742 [x0, x1, x2, x3] (.int ((gI 0 h a i).getD 0) :: st) h else none := R_iaload d_L_law_741
theorem d_L_law_742 : decode (mB M_L_law) 742 = .ok (.aload_n 0, 1) := by decide +kernel
theorem r_L_law_742 {x1 x2 x3 : Value} {a : Nat} {st : List Value} {h : AH} : Run M_L_law 742 [.ref a, x1, x2, x3] st h = Run M_L_law 743 [.ref a, x1, x2, x3] (.ref a :: st) h := R_aload_n d_L_law_742 rfl
theorem d_L_law_743 : decode (mB M_L_law) 743 = .ok (.iload_n 3, 1) := by decide +kernel
theorem r_L_law_743 {x0 x1 x2 : Value} {a : Int32} {st : List Value} {h : AH} : Run M_L_law 743 [x0, x1, x2, .int a] st h = Run M_L_law 744 [x0, x1, x2, .int a] (.int a :: st) h := R_iload_n d_L_law_743 rfl
theorem d_L_law_744 : decode (mB M_L_law) 744 = .ok (.iconst 2, 1) := by decide +kernel
theorem r_L_law_744 {x0 x1 x2 x3 : Value} {st : List Value} {h : AH} : Run M_L_law 744 [x0, x1, x2, x3] st h = Run M_L_law 745 [x0, x1, x2, x3] (.int (nI 2) :: st) h := R_iconst d_L_law_744 (by decide)
theorem d_L_law_745 : decode (mB M_L_law) 745 = .ok (.iadd, 1) := by decide +kernel
theorem r_L_law_745 {x0 x1 x2 x3 : Value} {x y : Int32} {st : List Value} {h : AH} : Run M_L_law 745 [x0, x1, x2, x3] (.int y :: .int x :: st) h = Run M_L_law 746 [x0, x1, x2, x3] (.int (x + y) :: st) h := R_iadd d_L_law_745
theorem d_L_law_746 : decode (mB M_L_law) 746 = .ok (.iaload, 1) := by decide +kernel
theorem r_L_law_746 {x0 x1 x2 x3 : Value} {a : Nat} {i : Int32} {st : List Value} {h : AH} : Run M_L_law 746 [x0, x1, x2, x3] (.int i :: .ref a :: st) h = if (gI 0 h a i).isSome = true then Run M_L_law 747 [x0, x1, x2, x3] (.int ((gI 0 h a i).getD 0) :: st) h else none := R_iaload d_L_law_746
theorem d_L_law_747 : decode (mB M_L_law) 747 = .ok (.aload_n 0, 1) := by decide +kernel
theorem r_L_law_747 {x1 x2 x3 : Value} {a : Nat} {st : List Value} {h : AH} : Run M_L_law 747 [.ref a, x1, x2, x3] st h = Run M_L_law 748 [.ref a, x1, x2, x3] (.ref a :: st) h := R_aload_n d_L_law_747 rfl
theorem d_L_law_748 : decode (mB M_L_law) 748 = .ok (.iload_n 3, 1) := by decide +kernel
theorem r_L_law_748 {x0 x1 x2 : Value} {a : Int32} {st : List Value} {h : AH} : Run M_L_law 748 [x0, x1, x2, .int a] st h = Run M_L_law 749 [x0, x1, x2, .int a] (.int a :: st) h := R_iload_n d_L_law_748 rfl
theorem d_L_law_749 : decode (mB M_L_law) 749 = .ok (.iconst 3, 1) := by decide +kernel
theorem r_L_law_749 {x0 x1 x2 x3 : Value} {st : List Value} {h : AH} : Run M_L_law 749 [x0, x1, x2, x3] st h = Run M_L_law 750 [x0, x1, x2, x3] (.int (nI 3) :: st) h := R_iconst d_L_law_749 (by decide)
theorem d_L_law_750 : decode (mB M_L_law) 750 = .ok (.iadd, 1) := by decide +kernel
theorem r_L_law_750 {x0 x1 x2 x3 : Value} {x y : Int32} {st : List Value} {h : AH} : Run M_L_law 750 [x0, x1, x2, x3] (.int y :: .int x :: st) h = Run M_L_law 751 [x0, x1, x2, x3] (.int (x + y) :: st) h := R_iadd d_L_law_750
theorem d_L_law_751 : decode (mB M_L_law) 751 = .ok (.iaload, 1) := by decide +kernel
theorem r_L_law_751 {x0 x1 x2 x3 : Value} {a : Nat} {i : Int32} {st : List Value} {h : AH} : Run M_L_law 751 [x0, x1, x2, x3] (.int i :: .ref a :: st) h = if (gI 0 h a i).isSome = true then Run M_L_law 752 [x0, x1, x2, x3] (.int ((gI 0 h a i).getD 0) :: st) h else none := R_iaload d_L_law_751
theorem d_L_law_752 : decode (mB M_L_law) 752 = .ok (.aload_n 0, 1) := by decide +kernel
theorem r_L_law_752 {x1 x2 x3 : Value} {a : Nat} {st : List Value} {h : AH} : Run M_L_law 752 [.ref a, x1, x2, x3] st h = Run M_L_law 753 [.ref a, x1, x2, x3] (.ref a :: st) h := R_aload_n d_L_law_752 rfl
theorem d_L_law_753 : decode (mB M_L_law) 753 = .ok (.iload_n 3, 1) := by decide +kernel
theorem r_L_law_753 {x0 x1 x2 : Value} {a : Int32} {st : List Value} {h : AH} : Run M_L_law 753 [x0, x1, x2, .int a] st h = Run M_L_law 754 [x0, x1, x2, .int a] (.int a :: st) h := R_iload_n d_L_law_753 rfl
theorem d_L_law_754 : decode (mB M_L_law) 754 = .ok (.iconst 4, 1) := by decide +kernel
theorem r_L_law_754 {x0 x1 x2 x3 : Value} {st : List Value} {h : AH} : Run M_L_law 754 [x0, x1, x2, x3] st h = Run M_L_law 755 [x0, x1, x2, x3] (.int (nI 4) :: st) h := R_iconst d_L_law_754 (by decide)
theorem d_L_law_755 : decode (mB M_L_law) 755 = .ok (.iadd, 1) := by decide +kernel
theorem r_L_law_755 {x0 x1 x2 x3 : Value} {x y : Int32} {st : List Value} {h : AH} : Run M_L_law 755 [x0, x1, x2, x3] (.int y :: .int x :: st) h = Run M_L_law 756 [x0, x1, x2, x3] (.int (x + y) :: st) h := R_iadd d_L_law_755
theorem d_L_law_756 : decode (mB M_L_law) 756 = .ok (.iaload, 1) := by decide +kernel
theorem r_L_law_756 {x0 x1 x2 x3 : Value} {a : Nat} {i : Int32} {st : List Value} {h : AH} : Run M_L_law 756 [x0, x1, x2, x3] (.int i :: .ref a :: st) h = if (gI 0 h a i).isSome = true then Run M_L_law 757 [x0, x1, x2, x3] (.int ((gI 0 h a i).getD 0) :: st) h else none := R_iaload d_L_law_756
theorem d_L_law_757 : decode (mB M_L_law) 757 = .ok (.invokevirtual 92, 3) := by decide +kernel
theorem r_L_law_757 {x0 x1 x2 x3 : Value} {p0 : Int32} {p1 : Int32} {p2 : Int32} {p3 : Int32} {a : Nat} {h : AH} : Run M_L_law 757 [x0, x1, x2, x3] (.int p3 :: .int p2 :: .int p1 :: .int p0 :: .ref a :: []) h = if refO h 8 (some (.ref a)) = true then (if (Call M_X8_isIt h [.ref a, .int p0, .int p1, .int p2, .int p3]).isSome = true then Run M_L_law 760 [x0, x1, x2, x3] (rL (Call M_X8_isIt h [.ref a, .int p0, .int p1, .int p2, .int p3]) ++ []) (cH (Call M_X8_isIt h [.ref a, .int p0, .int p1, .int p2, .int p3])) else none) else none := R_virt d_L_law_757 rfl rfl rfl rfl rfl (Nat.le_of_ble_eq_true rfl)
theorem d_L_law_760 : decode (mB M_L_law) 760 = .ok (.aload_n 2, 1) := by decide +kernel
theorem r_L_law_760 {x0 x1 x3 : Value} {a : Nat} {st : List Value} {h : AH} : Run M_L_law 760 [x0, x1, .ref a, x3] st h = Run M_L_law 761 [x0, x1, .ref a, x3] (.ref a :: st) h := R_aload_n d_L_law_760 rfl
theorem d_L_law_761 : decode (mB M_L_law) 761 = .ok (.aload_n 0, 1) := by decide +kernel
theorem r_L_law_761 {x1 x2 x3 : Value} {a : Nat} {st : List Value} {h : AH} : Run M_L_law 761 [.ref a, x1, x2, x3] st h = Run M_L_law 762 [.ref a, x1, x2, x3] (.ref a :: st) h := R_aload_n d_L_law_761 rfl
theorem d_L_law_762 : decode (mB M_L_law) 762 = .ok (.iload_n 3, 1) := by decide +kernel
theorem r_L_law_762 {x0 x1 x2 : Value} {a : Int32} {st : List Value} {h : AH} : Run M_L_law 762 [x0, x1, x2, .int a] st h = Run M_L_law 763 [x0, x1, x2, .int a] (.int a :: st) h := R_iload_n d_L_law_762 rfl
theorem d_L_law_763 : decode (mB M_L_law) 763 = .ok (.iconst 1, 1) := by decide +kernel
theorem r_L_law_763 {x0 x1 x2 x3 : Value} {st : List Value} {h : AH} : Run M_L_law 763 [x0, x1, x2, x3] st h = Run M_L_law 764 [x0, x1, x2, x3] (.int (nI 1) :: st) h := R_iconst d_L_law_763 (by decide)
theorem d_L_law_764 : decode (mB M_L_law) 764 = .ok (.iadd, 1) := by decide +kernel
theorem r_L_law_764 {x0 x1 x2 x3 : Value} {x y : Int32} {st : List Value} {h : AH} : Run M_L_law 764 [x0, x1, x2, x3] (.int y :: .int x :: st) h = Run M_L_law 765 [x0, x1, x2, x3] (.int (x + y) :: st) h := R_iadd d_L_law_764
theorem d_L_law_765 : decode (mB M_L_law) 765 = .ok (.iaload, 1) := by decide +kernel
theorem r_L_law_765 {x0 x1 x2 x3 : Value} {a : Nat} {i : Int32} {st : List Value} {h : AH} : Run M_L_law 765 [x0, x1, x2, x3] (.int i :: .ref a :: st) h = if (gI 0 h a i).isSome = true then Run M_L_law 766 [x0, x1, x2, x3] (.int ((gI 0 h a i).getD 0) :: st) h else none := R_iaload d_L_law_765
theorem d_L_law_766 : decode (mB M_L_law) 766 = .ok (.aload_n 0, 1) := by decide +kernel
theorem r_L_law_766 {x1 x2 x3 : Value} {a : Nat} {st : List Value} {h : AH} : Run M_L_law 766 [.ref a, x1, x2, x3] st h = Run M_L_law 767 [.ref a, x1, x2, x3] (.ref a :: st) h := R_aload_n d_L_law_766 rfl
theorem d_L_law_767 : decode (mB M_L_law) 767 = .ok (.iload_n 3, 1) := by decide +kernel
theorem r_L_law_767 {x0 x1 x2 : Value} {a : Int32} {st : List Value} {h : AH} : Run M_L_law 767 [x0, x1, x2, .int a] st h = Run M_L_law 768 [x0, x1, x2, .int a] (.int a :: st) h := R_iload_n d_L_law_767 rfl
theorem d_L_law_768 : decode (mB M_L_law) 768 = .ok (.iconst 2, 1) := by decide +kernel
theorem r_L_law_768 {x0 x1 x2 x3 : Value} {st : List Value} {h : AH} : Run M_L_law 768 [x0, x1, x2, x3] st h = Run M_L_law 769 [x0, x1, x2, x3] (.int (nI 2) :: st) h := R_iconst d_L_law_768 (by decide)
theorem d_L_law_769 : decode (mB M_L_law) 769 = .ok (.iadd, 1) := by decide +kernel
theorem r_L_law_769 {x0 x1 x2 x3 : Value} {x y : Int32} {st : List Value} {h : AH} : Run M_L_law 769 [x0, x1, x2, x3] (.int y :: .int x :: st) h = Run M_L_law 770 [x0, x1, x2, x3] (.int (x + y) :: st) h := R_iadd d_L_law_769
theorem d_L_law_770 : decode (mB M_L_law) 770 = .ok (.iaload, 1) := by decide +kernel
theorem r_L_law_770 {x0 x1 x2 x3 : Value} {a : Nat} {i : Int32} {st : List Value} {h : AH} : Run M_L_law 770 [x0, x1, x2, x3] (.int i :: .ref a :: st) h = if (gI 0 h a i).isSome = true then Run M_L_law 771 [x0, x1, x2, x3] (.int ((gI 0 h a i).getD 0) :: st) h else none := R_iaload d_L_law_770
theorem d_L_law_771 : decode (mB M_L_law) 771 = .ok (.aload_n 0, 1) := by decide +kernel
theorem r_L_law_771 {x1 x2 x3 : Value} {a : Nat} {st : List Value} {h : AH} : Run M_L_law 771 [.ref a, x1, x2, x3] st h = Run M_L_law 772 [.ref a, x1, x2, x3] (.ref a :: st) h := R_aload_n d_L_law_771 rfl
theorem d_L_law_772 : decode (mB M_L_law) 772 = .ok (.iload_n 3, 1) := by decide +kernel
theorem r_L_law_772 {x0 x1 x2 : Value} {a : Int32} {st : List Value} {h : AH} : Run M_L_law 772 [x0, x1, x2, .int a] st h = Run M_L_law 773 [x0, x1, x2, .int a] (.int a :: st) h := R_iload_n d_L_law_772 rfl
theorem d_L_law_773 : decode (mB M_L_law) 773 = .ok (.iconst 3, 1) := by decide +kernel
theorem r_L_law_773 {x0 x1 x2 x3 : Value} {st : List Value} {h : AH} : Run M_L_law 773 [x0, x1, x2, x3] st h = Run M_L_law 774 [x0, x1, x2, x3] (.int (nI 3) :: st) h := R_iconst d_L_law_773 (by decide)
theorem d_L_law_774 : decode (mB M_L_law) 774 = .ok (.iadd, 1) := by decide +kernel
theorem r_L_law_774 {x0 x1 x2 x3 : Value} {x y : Int32} {st : List Value} {h : AH} : Run M_L_law 774 [x0, x1, x2, x3] (.int y :: .int x :: st) h = Run M_L_law 775 [x0, x1, x2, x3] (.int (x + y) :: st) h := R_iadd d_L_law_774
theorem d_L_law_775 : decode (mB M_L_law) 775 = .ok (.iaload, 1) := by decide +kernel
theorem r_L_law_775 {x0 x1 x2 x3 : Value} {a : Nat} {i : Int32} {st : List Value} {h : AH} : Run M_L_law 775 [x0, x1, x2, x3] (.int i :: .ref a :: st) h = if (gI 0 h a i).isSome = true then Run M_L_law 776 [x0, x1, x2, x3] (.int ((gI 0 h a i).getD 0) :: st) h else none := R_iaload d_L_law_775
theorem d_L_law_776 : decode (mB M_L_law) 776 = .ok (.aload_n 0, 1) := by decide +kernel
theorem r_L_law_776 {x1 x2 x3 : Value} {a : Nat} {st : List Value} {h : AH} : Run M_L_law 776 [.ref a, x1, x2, x3] st h = Run M_L_law 777 [.ref a, x1, x2, x3] (.ref a :: st) h := R_aload_n d_L_law_776 rfl
theorem d_L_law_777 : decode (mB M_L_law) 777 = .ok (.iload_n 3, 1) := by decide +kernel
theorem r_L_law_777 {x0 x1 x2 : Value} {a : Int32} {st : List Value} {h : AH} : Run M_L_law 777 [x0, x1, x2, .int a] st h = Run M_L_law 778 [x0, x1, x2, .int a] (.int a :: st) h := R_iload_n d_L_law_777 rfl
theorem d_L_law_778 : decode (mB M_L_law) 778 = .ok (.iconst 4, 1) := by decide +kernel
theorem r_L_law_778 {x0 x1 x2 x3 : Value} {st : List Value} {h : AH} : Run M_L_law 778 [x0, x1, x2, x3] st h = Run M_L_law 779 [x0, x1, x2, x3] (.int (nI 4) :: st) h := R_iconst d_L_law_778 (by decide)
theorem d_L_law_779 : decode (mB M_L_law) 779 = .ok (.iadd, 1) := by decide +kernel
theorem r_L_law_779 {x0 x1 x2 x3 : Value} {x y : Int32} {st : List Value} {h : AH} : Run M_L_law 779 [x0, x1, x2, x3] (.int y :: .int x :: st) h = Run M_L_law 780 [x0, x1, x2, x3] (.int (x + y) :: st) h := R_iadd d_L_law_779
theorem d_L_law_780 : decode (mB M_L_law) 780 = .ok (.iaload, 1) := by decide +kernel
theorem r_L_law_780 {x0 x1 x2 x3 : Value} {a : Nat} {i : Int32} {st : List Value} {h : AH} : Run M_L_law 780 [x0, x1, x2, x3] (.int i :: .ref a :: st) h = if (gI 0 h a i).isSome = true then Run M_L_law 781 [x0, x1, x2, x3] (.int ((gI 0 h a i).getD 0) :: st) h else none := R_iaload d_L_law_780
theorem d_L_law_781 : decode (mB M_L_law) 781 = .ok (.invokevirtual 96, 3) := by decide +kernel
theorem r_L_law_781 {x0 x1 x2 x3 : Value} {p0 : Int32} {p1 : Int32} {p2 : Int32} {p3 : Int32} {a : Nat} {w0 : Value} {h : AH} : Run M_L_law 781 [x0, x1, x2, x3] (.int p3 :: .int p2 :: .int p1 :: .int p0 :: .ref a :: [w0]) h = if refO h 9 (some (.ref a)) = true then (if (Call M_X9_isIt h [.ref a, .int p0, .int p1, .int p2, .int p3]).isSome = true then Run M_L_law 784 [x0, x1, x2, x3] (rL (Call M_X9_isIt h [.ref a, .int p0, .int p1, .int p2, .int p3]) ++ [w0]) (cH (Call M_X9_isIt h [.ref a, .int p0, .int p1, .int p2, .int p3])) else none) else none := R_virt d_L_law_781 rfl rfl rfl rfl rfl (Nat.le_of_ble_eq_true rfl)
theorem d_L_law_784 : decode (mB M_L_law) 784 = .ok (.lcmp, 1) := by decide +kernel
theorem r_L_law_784 {x0 x1 x2 x3 : Value} {x y : Int64} {st : List Value} {h : AH} : Run M_L_law 784 [x0, x1, x2, x3] (.long y :: .long x :: st) h = Run M_L_law 785 [x0, x1, x2, x3] (.int (lg_cmp x y) :: st) h := R_lcmp d_L_law_784
theorem d_L_law_785 : decode (mB M_L_law) 785 = .ok (.ifCond .eq 562, 3) := by decide +kernel
theorem r_L_law_785 {x0 x1 x2 x3 : Value} {x : Int32} {st : List Value} {h : AH} : Run M_L_law 785 [x0, x1, x2, x3] (.int x :: st) h = if x = nI 0 then Run M_L_law 1347 [x0, x1, x2, x3] st h else Run M_L_law 788 [x0, x1, x2, x3] st h := R_if_eq d_L_law_785 (by decide)
theorem d_L_law_788 : decode (mB M_L_law) 788 = .ok (.iconst 0, 1) := by decide +kernel
theorem r_L_law_788 {x0 x1 x2 x3 : Value} {st : List Value} {h : AH} : Run M_L_law 788 [x0, x1, x2, x3] st h = Run M_L_law 789 [x0, x1, x2, x3] (.int (nI 0) :: st) h := R_iconst d_L_law_788 (by decide)
theorem d_L_law_789 : decode (mB M_L_law) 789 = .ok (.ireturn, 1) := by decide +kernel
theorem r_L_law_789_0 {x0 x1 x2 x3 : Value} {h : AH} : Run M_L_law 789 [x0, x1, x2, x3] [.int (nI 0)] h = some (h, some (.int (nI 0))) := R_ireturn d_L_law_789 rfl (by decide)
theorem r_L_law_789_1 {x0 x1 x2 x3 : Value} {h : AH} : Run M_L_law 789 [x0, x1, x2, x3] [.int (nI 1)] h = some (h, some (.int (nI 1))) := R_ireturn d_L_law_789 rfl (by decide)
theorem r_L_law_789_c {x0 x1 x2 x3 : Value} {c : Prop} [Decidable c] {h : AH} : Run M_L_law 789 [x0, x1, x2, x3] [.int (bI c)] h = some (h, some (.int (bI c))) := R_ireturn d_L_law_789 rfl narrow_bI
theorem d_L_law_790 : decode (mB M_L_law) 790 = .ok (.aload_n 1, 1) := by decide +kernel
theorem r_L_law_790 {x0 x2 x3 : Value} {a : Nat} {st : List Value} {h : AH} : Run M_L_law 790 [x0, .ref a, x2, x3] st h = Run M_L_law 791 [x0, .ref a, x2, x3] (.ref a :: st) h := R_aload_n d_L_law_790 rfl
theorem d_L_law_791 : decode (mB M_L_law) 791 = .ok (.aload_n 0, 1) := by decide +kernel
theorem r_L_law_791 {x1 x2 x3 : Value} {a : Nat} {st : List Value} {h : AH} : Run M_L_law 791 [.ref a, x1, x2, x3] st h = Run M_L_law 792 [.ref a, x1, x2, x3] (.ref a :: st) h := R_aload_n d_L_law_791 rfl
theorem d_L_law_792 : decode (mB M_L_law) 792 = .ok (.iload_n 3, 1) := by decide +kernel
theorem r_L_law_792 {x0 x1 x2 : Value} {a : Int32} {st : List Value} {h : AH} : Run M_L_law 792 [x0, x1, x2, .int a] st h = Run M_L_law 793 [x0, x1, x2, .int a] (.int a :: st) h := R_iload_n d_L_law_792 rfl
theorem d_L_law_793 : decode (mB M_L_law) 793 = .ok (.iconst 1, 1) := by decide +kernel
theorem r_L_law_793 {x0 x1 x2 x3 : Value} {st : List Value} {h : AH} : Run M_L_law 793 [x0, x1, x2, x3] st h = Run M_L_law 794 [x0, x1, x2, x3] (.int (nI 1) :: st) h := R_iconst d_L_law_793 (by decide)
theorem d_L_law_794 : decode (mB M_L_law) 794 = .ok (.iadd, 1) := by decide +kernel
theorem r_L_law_794 {x0 x1 x2 x3 : Value} {x y : Int32} {st : List Value} {h : AH} : Run M_L_law 794 [x0, x1, x2, x3] (.int y :: .int x :: st) h = Run M_L_law 795 [x0, x1, x2, x3] (.int (x + y) :: st) h := R_iadd d_L_law_794
theorem d_L_law_795 : decode (mB M_L_law) 795 = .ok (.iaload, 1) := by decide +kernel
theorem r_L_law_795 {x0 x1 x2 x3 : Value} {a : Nat} {i : Int32} {st : List Value} {h : AH} : Run M_L_law 795 [x0, x1, x2, x3] (.int i :: .ref a :: st) h = if (gI 0 h a i).isSome = true then Run M_L_law 796 [x0, x1, x2, x3] (.int ((gI 0 h a i).getD 0) :: st) h else none := R_iaload d_L_law_795
theorem d_L_law_796 : decode (mB M_L_law) 796 = .ok (.aload_n 0, 1) := by decide +kernel
theorem r_L_law_796 {x1 x2 x3 : Value} {a : Nat} {st : List Value} {h : AH} : Run M_L_law 796 [.ref a, x1, x2, x3] st h = Run M_L_law 797 [.ref a, x1, x2, x3] (.ref a :: st) h := R_aload_n d_L_law_796 rfl
theorem d_L_law_797 : decode (mB M_L_law) 797 = .ok (.iload_n 3, 1) := by decide +kernel
theorem r_L_law_797 {x0 x1 x2 : Value} {a : Int32} {st : List Value} {h : AH} : Run M_L_law 797 [x0, x1, x2, .int a] st h = Run M_L_law 798 [x0, x1, x2, .int a] (.int a :: st) h := R_iload_n d_L_law_797 rfl
theorem d_L_law_798 : decode (mB M_L_law) 798 = .ok (.iconst 2, 1) := by decide +kernel
theorem r_L_law_798 {x0 x1 x2 x3 : Value} {st : List Value} {h : AH} : Run M_L_law 798 [x0, x1, x2, x3] st h = Run M_L_law 799 [x0, x1, x2, x3] (.int (nI 2) :: st) h := R_iconst d_L_law_798 (by decide)
theorem d_L_law_799 : decode (mB M_L_law) 799 = .ok (.iadd, 1) := by decide +kernel
theorem r_L_law_799 {x0 x1 x2 x3 : Value} {x y : Int32} {st : List Value} {h : AH} : Run M_L_law 799 [x0, x1, x2, x3] (.int y :: .int x :: st) h = Run M_L_law 800 [x0, x1, x2, x3] (.int (x + y) :: st) h := R_iadd d_L_law_799
theorem d_L_law_800 : decode (mB M_L_law) 800 = .ok (.iaload, 1) := by decide +kernel
theorem r_L_law_800 {x0 x1 x2 x3 : Value} {a : Nat} {i : Int32} {st : List Value} {h : AH} : Run M_L_law 800 [x0, x1, x2, x3] (.int i :: .ref a :: st) h = if (gI 0 h a i).isSome = true then Run M_L_law 801 [x0, x1, x2, x3] (.int ((gI 0 h a i).getD 0) :: st) h else none := R_iaload d_L_law_800
theorem d_L_law_801 : decode (mB M_L_law) 801 = .ok (.invokevirtual 97, 3) := by decide +kernel
theorem r_L_law_801 {x0 x1 x2 x3 : Value} {p0 : Int32} {p1 : Int32} {a : Nat} {h : AH} : Run M_L_law 801 [x0, x1, x2, x3] (.int p1 :: .int p0 :: .ref a :: []) h = if refO h 8 (some (.ref a)) = true then (if (Call M_X8_go h [.ref a, .int p0, .int p1]).isSome = true then Run M_L_law 804 [x0, x1, x2, x3] (rL (Call M_X8_go h [.ref a, .int p0, .int p1]) ++ []) (cH (Call M_X8_go h [.ref a, .int p0, .int p1])) else none) else none := R_virt d_L_law_801 rfl rfl rfl rfl rfl (Nat.le_of_ble_eq_true rfl)
theorem d_L_law_804 : decode (mB M_L_law) 804 = .ok (.aload_n 2, 1) := by decide +kernel
theorem r_L_law_804 {x0 x1 x3 : Value} {a : Nat} {st : List Value} {h : AH} : Run M_L_law 804 [x0, x1, .ref a, x3] st h = Run M_L_law 805 [x0, x1, .ref a, x3] (.ref a :: st) h := R_aload_n d_L_law_804 rfl
theorem d_L_law_805 : decode (mB M_L_law) 805 = .ok (.aload_n 0, 1) := by decide +kernel
theorem r_L_law_805 {x1 x2 x3 : Value} {a : Nat} {st : List Value} {h : AH} : Run M_L_law 805 [.ref a, x1, x2, x3] st h = Run M_L_law 806 [.ref a, x1, x2, x3] (.ref a :: st) h := R_aload_n d_L_law_805 rfl
theorem d_L_law_806 : decode (mB M_L_law) 806 = .ok (.iload_n 3, 1) := by decide +kernel
theorem r_L_law_806 {x0 x1 x2 : Value} {a : Int32} {st : List Value} {h : AH} : Run M_L_law 806 [x0, x1, x2, .int a] st h = Run M_L_law 807 [x0, x1, x2, .int a] (.int a :: st) h := R_iload_n d_L_law_806 rfl
theorem d_L_law_807 : decode (mB M_L_law) 807 = .ok (.iconst 1, 1) := by decide +kernel
theorem r_L_law_807 {x0 x1 x2 x3 : Value} {st : List Value} {h : AH} : Run M_L_law 807 [x0, x1, x2, x3] st h = Run M_L_law 808 [x0, x1, x2, x3] (.int (nI 1) :: st) h := R_iconst d_L_law_807 (by decide)
theorem d_L_law_808 : decode (mB M_L_law) 808 = .ok (.iadd, 1) := by decide +kernel
theorem r_L_law_808 {x0 x1 x2 x3 : Value} {x y : Int32} {st : List Value} {h : AH} : Run M_L_law 808 [x0, x1, x2, x3] (.int y :: .int x :: st) h = Run M_L_law 809 [x0, x1, x2, x3] (.int (x + y) :: st) h := R_iadd d_L_law_808
theorem d_L_law_809 : decode (mB M_L_law) 809 = .ok (.iaload, 1) := by decide +kernel
theorem r_L_law_809 {x0 x1 x2 x3 : Value} {a : Nat} {i : Int32} {st : List Value} {h : AH} : Run M_L_law 809 [x0, x1, x2, x3] (.int i :: .ref a :: st) h = if (gI 0 h a i).isSome = true then Run M_L_law 810 [x0, x1, x2, x3] (.int ((gI 0 h a i).getD 0) :: st) h else none := R_iaload d_L_law_809
theorem d_L_law_810 : decode (mB M_L_law) 810 = .ok (.aload_n 0, 1) := by decide +kernel
theorem r_L_law_810 {x1 x2 x3 : Value} {a : Nat} {st : List Value} {h : AH} : Run M_L_law 810 [.ref a, x1, x2, x3] st h = Run M_L_law 811 [.ref a, x1, x2, x3] (.ref a :: st) h := R_aload_n d_L_law_810 rfl
theorem d_L_law_811 : decode (mB M_L_law) 811 = .ok (.iload_n 3, 1) := by decide +kernel
theorem r_L_law_811 {x0 x1 x2 : Value} {a : Int32} {st : List Value} {h : AH} : Run M_L_law 811 [x0, x1, x2, .int a] st h = Run M_L_law 812 [x0, x1, x2, .int a] (.int a :: st) h := R_iload_n d_L_law_811 rfl
theorem d_L_law_812 : decode (mB M_L_law) 812 = .ok (.iconst 2, 1) := by decide +kernel
theorem r_L_law_812 {x0 x1 x2 x3 : Value} {st : List Value} {h : AH} : Run M_L_law 812 [x0, x1, x2, x3] st h = Run M_L_law 813 [x0, x1, x2, x3] (.int (nI 2) :: st) h := R_iconst d_L_law_812 (by decide)
theorem d_L_law_813 : decode (mB M_L_law) 813 = .ok (.iadd, 1) := by decide +kernel
theorem r_L_law_813 {x0 x1 x2 x3 : Value} {x y : Int32} {st : List Value} {h : AH} : Run M_L_law 813 [x0, x1, x2, x3] (.int y :: .int x :: st) h = Run M_L_law 814 [x0, x1, x2, x3] (.int (x + y) :: st) h := R_iadd d_L_law_813
theorem d_L_law_814 : decode (mB M_L_law) 814 = .ok (.iaload, 1) := by decide +kernel
theorem r_L_law_814 {x0 x1 x2 x3 : Value} {a : Nat} {i : Int32} {st : List Value} {h : AH} : Run M_L_law 814 [x0, x1, x2, x3] (.int i :: .ref a :: st) h = if (gI 0 h a i).isSome = true then Run M_L_law 815 [x0, x1, x2, x3] (.int ((gI 0 h a i).getD 0) :: st) h else none := R_iaload d_L_law_814
theorem d_L_law_815 : decode (mB M_L_law) 815 = .ok (.invokevirtual 100, 3) := by decide +kernel
theorem r_L_law_815 {x0 x1 x2 x3 : Value} {p0 : Int32} {p1 : Int32} {a : Nat} {w0 : Value} {h : AH} : Run M_L_law 815 [x0, x1, x2, x3] (.int p1 :: .int p0 :: .ref a :: [w0]) h = if refO h 9 (some (.ref a)) = true then (if (Call M_X9_go h [.ref a, .int p0, .int p1]).isSome = true then Run M_L_law 818 [x0, x1, x2, x3] (rL (Call M_X9_go h [.ref a, .int p0, .int p1]) ++ [w0]) (cH (Call M_X9_go h [.ref a, .int p0, .int p1])) else none) else none := R_virt d_L_law_815 rfl rfl rfl rfl rfl (Nat.le_of_ble_eq_true rfl)
theorem d_L_law_818 : decode (mB M_L_law) 818 = .ok (.lcmp, 1) := by decide +kernel
theorem r_L_law_818 {x0 x1 x2 x3 : Value} {x y : Int64} {st : List Value} {h : AH} : Run M_L_law 818 [x0, x1, x2, x3] (.long y :: .long x :: st) h = Run M_L_law 819 [x0, x1, x2, x3] (.int (lg_cmp x y) :: st) h := R_lcmp d_L_law_818
theorem d_L_law_819 : decode (mB M_L_law) 819 = .ok (.ifCond .eq 528, 3) := by decide +kernel
theorem r_L_law_819 {x0 x1 x2 x3 : Value} {x : Int32} {st : List Value} {h : AH} : Run M_L_law 819 [x0, x1, x2, x3] (.int x :: st) h = if x = nI 0 then Run M_L_law 1347 [x0, x1, x2, x3] st h else Run M_L_law 822 [x0, x1, x2, x3] st h := R_if_eq d_L_law_819 (by decide)
theorem d_L_law_822 : decode (mB M_L_law) 822 = .ok (.iconst 0, 1) := by decide +kernel
theorem r_L_law_822 {x0 x1 x2 x3 : Value} {st : List Value} {h : AH} : Run M_L_law 822 [x0, x1, x2, x3] st h = Run M_L_law 823 [x0, x1, x2, x3] (.int (nI 0) :: st) h := R_iconst d_L_law_822 (by decide)
theorem d_L_law_823 : decode (mB M_L_law) 823 = .ok (.ireturn, 1) := by decide +kernel
theorem r_L_law_823_0 {x0 x1 x2 x3 : Value} {h : AH} : Run M_L_law 823 [x0, x1, x2, x3] [.int (nI 0)] h = some (h, some (.int (nI 0))) := R_ireturn d_L_law_823 rfl (by decide)
theorem r_L_law_823_1 {x0 x1 x2 x3 : Value} {h : AH} : Run M_L_law 823 [x0, x1, x2, x3] [.int (nI 1)] h = some (h, some (.int (nI 1))) := R_ireturn d_L_law_823 rfl (by decide)
theorem r_L_law_823_c {x0 x1 x2 x3 : Value} {c : Prop} [Decidable c] {h : AH} : Run M_L_law 823 [x0, x1, x2, x3] [.int (bI c)] h = some (h, some (.int (bI c))) := R_ireturn d_L_law_823 rfl narrow_bI
theorem d_L_law_824 : decode (mB M_L_law) 824 = .ok (.aload_n 1, 1) := by decide +kernel
theorem r_L_law_824 {x0 x2 x3 : Value} {a : Nat} {st : List Value} {h : AH} : Run M_L_law 824 [x0, .ref a, x2, x3] st h = Run M_L_law 825 [x0, .ref a, x2, x3] (.ref a :: st) h := R_aload_n d_L_law_824 rfl
theorem d_L_law_825 : decode (mB M_L_law) 825 = .ok (.invokevirtual 101, 3) := by decide +kernel
theorem r_L_law_825 {x0 x1 x2 x3 : Value} {a : Nat} {h : AH} : Run M_L_law 825 [x0, x1, x2, x3] (.ref a :: []) h = if refO h 8 (some (.ref a)) = true then (if (Call M_X8_bestGo h [.ref a]).isSome = true then Run M_L_law 828 [x0, x1, x2, x3] (rL (Call M_X8_bestGo h [.ref a]) ++ []) (cH (Call M_X8_bestGo h [.ref a])) else none) else none := R_virt d_L_law_825 rfl rfl rfl rfl rfl (Nat.le_of_ble_eq_true rfl)
theorem d_L_law_828 : decode (mB M_L_law) 828 = .ok (.aload_n 2, 1) := by decide +kernel
theorem r_L_law_828 {x0 x1 x3 : Value} {a : Nat} {st : List Value} {h : AH} : Run M_L_law 828 [x0, x1, .ref a, x3] st h = Run M_L_law 829 [x0, x1, .ref a, x3] (.ref a :: st) h := R_aload_n d_L_law_828 rfl
theorem d_L_law_829 : decode (mB M_L_law) 829 = .ok (.invokevirtual 104, 3) := by decide +kernel
theorem r_L_law_829 {x0 x1 x2 x3 : Value} {a : Nat} {w0 : Value} {h : AH} : Run M_L_law 829 [x0, x1, x2, x3] (.ref a :: [w0]) h = if refO h 9 (some (.ref a)) = true then (if (Call M_X9_bestGo h [.ref a]).isSome = true then Run M_L_law 832 [x0, x1, x2, x3] (rL (Call M_X9_bestGo h [.ref a]) ++ [w0]) (cH (Call M_X9_bestGo h [.ref a])) else none) else none := R_virt d_L_law_829 rfl rfl rfl rfl rfl (Nat.le_of_ble_eq_true rfl)
theorem d_L_law_832 : decode (mB M_L_law) 832 = .ok (.if_icmp .eq 515, 3) := by decide +kernel
theorem r_L_law_832 {x0 x1 x2 x3 : Value} {x y : Int32} {st : List Value} {h : AH} : Run M_L_law 832 [x0, x1, x2, x3] (.int y :: .int x :: st) h = if x = y then Run M_L_law 1347 [x0, x1, x2, x3] st h else Run M_L_law 835 [x0, x1, x2, x3] st h := R_icmp_eq d_L_law_832 (by decide)
theorem d_L_law_835 : decode (mB M_L_law) 835 = .ok (.iconst 0, 1) := by decide +kernel
theorem r_L_law_835 {x0 x1 x2 x3 : Value} {st : List Value} {h : AH} : Run M_L_law 835 [x0, x1, x2, x3] st h = Run M_L_law 836 [x0, x1, x2, x3] (.int (nI 0) :: st) h := R_iconst d_L_law_835 (by decide)
theorem d_L_law_836 : decode (mB M_L_law) 836 = .ok (.ireturn, 1) := by decide +kernel
theorem r_L_law_836_0 {x0 x1 x2 x3 : Value} {h : AH} : Run M_L_law 836 [x0, x1, x2, x3] [.int (nI 0)] h = some (h, some (.int (nI 0))) := R_ireturn d_L_law_836 rfl (by decide)
theorem r_L_law_836_1 {x0 x1 x2 x3 : Value} {h : AH} : Run M_L_law 836 [x0, x1, x2, x3] [.int (nI 1)] h = some (h, some (.int (nI 1))) := R_ireturn d_L_law_836 rfl (by decide)
theorem r_L_law_836_c {x0 x1 x2 x3 : Value} {c : Prop} [Decidable c] {h : AH} : Run M_L_law 836 [x0, x1, x2, x3] [.int (bI c)] h = some (h, some (.int (bI c))) := R_ireturn d_L_law_836 rfl narrow_bI
theorem d_L_law_837 : decode (mB M_L_law) 837 = .ok (.aload_n 1, 1) := by decide +kernel
theorem r_L_law_837 {x0 x2 x3 : Value} {a : Nat} {st : List Value} {h : AH} : Run M_L_law 837 [x0, .ref a, x2, x3] st h = Run M_L_law 838 [x0, .ref a, x2, x3] (.ref a :: st) h := R_aload_n d_L_law_837 rfl
theorem d_L_law_838 : decode (mB M_L_law) 838 = .ok (.aload_n 0, 1) := by decide +kernel
theorem r_L_law_838 {x1 x2 x3 : Value} {a : Nat} {st : List Value} {h : AH} : Run M_L_law 838 [.ref a, x1, x2, x3] st h = Run M_L_law 839 [.ref a, x1, x2, x3] (.ref a :: st) h := R_aload_n d_L_law_838 rfl
theorem d_L_law_839 : decode (mB M_L_law) 839 = .ok (.iload_n 3, 1) := by decide +kernel
theorem r_L_law_839 {x0 x1 x2 : Value} {a : Int32} {st : List Value} {h : AH} : Run M_L_law 839 [x0, x1, x2, .int a] st h = Run M_L_law 840 [x0, x1, x2, .int a] (.int a :: st) h := R_iload_n d_L_law_839 rfl
theorem d_L_law_840 : decode (mB M_L_law) 840 = .ok (.iconst 1, 1) := by decide +kernel
theorem r_L_law_840 {x0 x1 x2 x3 : Value} {st : List Value} {h : AH} : Run M_L_law 840 [x0, x1, x2, x3] st h = Run M_L_law 841 [x0, x1, x2, x3] (.int (nI 1) :: st) h := R_iconst d_L_law_840 (by decide)
theorem d_L_law_841 : decode (mB M_L_law) 841 = .ok (.iadd, 1) := by decide +kernel
theorem r_L_law_841 {x0 x1 x2 x3 : Value} {x y : Int32} {st : List Value} {h : AH} : Run M_L_law 841 [x0, x1, x2, x3] (.int y :: .int x :: st) h = Run M_L_law 842 [x0, x1, x2, x3] (.int (x + y) :: st) h := R_iadd d_L_law_841
theorem d_L_law_842 : decode (mB M_L_law) 842 = .ok (.iaload, 1) := by decide +kernel
theorem r_L_law_842 {x0 x1 x2 x3 : Value} {a : Nat} {i : Int32} {st : List Value} {h : AH} : Run M_L_law 842 [x0, x1, x2, x3] (.int i :: .ref a :: st) h = if (gI 0 h a i).isSome = true then Run M_L_law 843 [x0, x1, x2, x3] (.int ((gI 0 h a i).getD 0) :: st) h else none := R_iaload d_L_law_842
theorem d_L_law_843 : decode (mB M_L_law) 843 = .ok (.aload_n 0, 1) := by decide +kernel
theorem r_L_law_843 {x1 x2 x3 : Value} {a : Nat} {st : List Value} {h : AH} : Run M_L_law 843 [.ref a, x1, x2, x3] st h = Run M_L_law 844 [.ref a, x1, x2, x3] (.ref a :: st) h := R_aload_n d_L_law_843 rfl
theorem d_L_law_844 : decode (mB M_L_law) 844 = .ok (.iload_n 3, 1) := by decide +kernel
theorem r_L_law_844 {x0 x1 x2 : Value} {a : Int32} {st : List Value} {h : AH} : Run M_L_law 844 [x0, x1, x2, .int a] st h = Run M_L_law 845 [x0, x1, x2, .int a] (.int a :: st) h := R_iload_n d_L_law_844 rfl
theorem d_L_law_845 : decode (mB M_L_law) 845 = .ok (.iconst 2, 1) := by decide +kernel
theorem r_L_law_845 {x0 x1 x2 x3 : Value} {st : List Value} {h : AH} : Run M_L_law 845 [x0, x1, x2, x3] st h = Run M_L_law 846 [x0, x1, x2, x3] (.int (nI 2) :: st) h := R_iconst d_L_law_845 (by decide)
theorem d_L_law_846 : decode (mB M_L_law) 846 = .ok (.iadd, 1) := by decide +kernel
theorem r_L_law_846 {x0 x1 x2 x3 : Value} {x y : Int32} {st : List Value} {h : AH} : Run M_L_law 846 [x0, x1, x2, x3] (.int y :: .int x :: st) h = Run M_L_law 847 [x0, x1, x2, x3] (.int (x + y) :: st) h := R_iadd d_L_law_846
theorem d_L_law_847 : decode (mB M_L_law) 847 = .ok (.iaload, 1) := by decide +kernel
theorem r_L_law_847 {x0 x1 x2 x3 : Value} {a : Nat} {i : Int32} {st : List Value} {h : AH} : Run M_L_law 847 [x0, x1, x2, x3] (.int i :: .ref a :: st) h = if (gI 0 h a i).isSome = true then Run M_L_law 848 [x0, x1, x2, x3] (.int ((gI 0 h a i).getD 0) :: st) h else none := R_iaload d_L_law_847
theorem d_L_law_848 : decode (mB M_L_law) 848 = .ok (.aload_n 0, 1) := by decide +kernel
theorem r_L_law_848 {x1 x2 x3 : Value} {a : Nat} {st : List Value} {h : AH} : Run M_L_law 848 [.ref a, x1, x2, x3] st h = Run M_L_law 849 [.ref a, x1, x2, x3] (.ref a :: st) h := R_aload_n d_L_law_848 rfl
theorem d_L_law_849 : decode (mB M_L_law) 849 = .ok (.iload_n 3, 1) := by decide +kernel
theorem r_L_law_849 {x0 x1 x2 : Value} {a : Int32} {st : List Value} {h : AH} : Run M_L_law 849 [x0, x1, x2, .int a] st h = Run M_L_law 850 [x0, x1, x2, .int a] (.int a :: st) h := R_iload_n d_L_law_849 rfl
theorem d_L_law_850 : decode (mB M_L_law) 850 = .ok (.iconst 3, 1) := by decide +kernel
theorem r_L_law_850 {x0 x1 x2 x3 : Value} {st : List Value} {h : AH} : Run M_L_law 850 [x0, x1, x2, x3] st h = Run M_L_law 851 [x0, x1, x2, x3] (.int (nI 3) :: st) h := R_iconst d_L_law_850 (by decide)
theorem d_L_law_851 : decode (mB M_L_law) 851 = .ok (.iadd, 1) := by decide +kernel
theorem r_L_law_851 {x0 x1 x2 x3 : Value} {x y : Int32} {st : List Value} {h : AH} : Run M_L_law 851 [x0, x1, x2, x3] (.int y :: .int x :: st) h = Run M_L_law 852 [x0, x1, x2, x3] (.int (x + y) :: st) h := R_iadd d_L_law_851
theorem d_L_law_852 : decode (mB M_L_law) 852 = .ok (.iaload, 1) := by decide +kernel
theorem r_L_law_852 {x0 x1 x2 x3 : Value} {a : Nat} {i : Int32} {st : List Value} {h : AH} : Run M_L_law 852 [x0, x1, x2, x3] (.int i :: .ref a :: st) h = if (gI 0 h a i).isSome = true then Run M_L_law 853 [x0, x1, x2, x3] (.int ((gI 0 h a i).getD 0) :: st) h else none := R_iaload d_L_law_852
theorem d_L_law_853 : decode (mB M_L_law) 853 = .ok (.invokevirtual 105, 3) := by decide +kernel
theorem r_L_law_853 {x0 x1 x2 x3 : Value} {p0 : Int32} {p1 : Int32} {p2 : Int32} {a : Nat} {h : AH} : Run M_L_law 853 [x0, x1, x2, x3] (.int p2 :: .int p1 :: .int p0 :: .ref a :: []) h = if refO h 8 (some (.ref a)) = true then (if (Call M_X8_lift h [.ref a, .int p0, .int p1, .int p2]).isSome = true then Run M_L_law 856 [x0, x1, x2, x3] (rL (Call M_X8_lift h [.ref a, .int p0, .int p1, .int p2]) ++ []) (cH (Call M_X8_lift h [.ref a, .int p0, .int p1, .int p2])) else none) else none := R_virt d_L_law_853 rfl rfl rfl rfl rfl (Nat.le_of_ble_eq_true rfl)
theorem d_L_law_856 : decode (mB M_L_law) 856 = .ok (.aload_n 2, 1) := by decide +kernel
theorem r_L_law_856 {x0 x1 x3 : Value} {a : Nat} {st : List Value} {h : AH} : Run M_L_law 856 [x0, x1, .ref a, x3] st h = Run M_L_law 857 [x0, x1, .ref a, x3] (.ref a :: st) h := R_aload_n d_L_law_856 rfl
theorem d_L_law_857 : decode (mB M_L_law) 857 = .ok (.aload_n 0, 1) := by decide +kernel
theorem r_L_law_857 {x1 x2 x3 : Value} {a : Nat} {st : List Value} {h : AH} : Run M_L_law 857 [.ref a, x1, x2, x3] st h = Run M_L_law 858 [.ref a, x1, x2, x3] (.ref a :: st) h := R_aload_n d_L_law_857 rfl
theorem d_L_law_858 : decode (mB M_L_law) 858 = .ok (.iload_n 3, 1) := by decide +kernel
theorem r_L_law_858 {x0 x1 x2 : Value} {a : Int32} {st : List Value} {h : AH} : Run M_L_law 858 [x0, x1, x2, .int a] st h = Run M_L_law 859 [x0, x1, x2, .int a] (.int a :: st) h := R_iload_n d_L_law_858 rfl
theorem d_L_law_859 : decode (mB M_L_law) 859 = .ok (.iconst 1, 1) := by decide +kernel
theorem r_L_law_859 {x0 x1 x2 x3 : Value} {st : List Value} {h : AH} : Run M_L_law 859 [x0, x1, x2, x3] st h = Run M_L_law 860 [x0, x1, x2, x3] (.int (nI 1) :: st) h := R_iconst d_L_law_859 (by decide)
theorem d_L_law_860 : decode (mB M_L_law) 860 = .ok (.iadd, 1) := by decide +kernel
theorem r_L_law_860 {x0 x1 x2 x3 : Value} {x y : Int32} {st : List Value} {h : AH} : Run M_L_law 860 [x0, x1, x2, x3] (.int y :: .int x :: st) h = Run M_L_law 861 [x0, x1, x2, x3] (.int (x + y) :: st) h := R_iadd d_L_law_860
theorem d_L_law_861 : decode (mB M_L_law) 861 = .ok (.iaload, 1) := by decide +kernel
theorem r_L_law_861 {x0 x1 x2 x3 : Value} {a : Nat} {i : Int32} {st : List Value} {h : AH} : Run M_L_law 861 [x0, x1, x2, x3] (.int i :: .ref a :: st) h = if (gI 0 h a i).isSome = true then Run M_L_law 862 [x0, x1, x2, x3] (.int ((gI 0 h a i).getD 0) :: st) h else none := R_iaload d_L_law_861
theorem d_L_law_862 : decode (mB M_L_law) 862 = .ok (.aload_n 0, 1) := by decide +kernel
theorem r_L_law_862 {x1 x2 x3 : Value} {a : Nat} {st : List Value} {h : AH} : Run M_L_law 862 [.ref a, x1, x2, x3] st h = Run M_L_law 863 [.ref a, x1, x2, x3] (.ref a :: st) h := R_aload_n d_L_law_862 rfl
theorem d_L_law_863 : decode (mB M_L_law) 863 = .ok (.iload_n 3, 1) := by decide +kernel
theorem r_L_law_863 {x0 x1 x2 : Value} {a : Int32} {st : List Value} {h : AH} : Run M_L_law 863 [x0, x1, x2, .int a] st h = Run M_L_law 864 [x0, x1, x2, .int a] (.int a :: st) h := R_iload_n d_L_law_863 rfl
theorem d_L_law_864 : decode (mB M_L_law) 864 = .ok (.iconst 2, 1) := by decide +kernel
theorem r_L_law_864 {x0 x1 x2 x3 : Value} {st : List Value} {h : AH} : Run M_L_law 864 [x0, x1, x2, x3] st h = Run M_L_law 865 [x0, x1, x2, x3] (.int (nI 2) :: st) h := R_iconst d_L_law_864 (by decide)
theorem d_L_law_865 : decode (mB M_L_law) 865 = .ok (.iadd, 1) := by decide +kernel
theorem r_L_law_865 {x0 x1 x2 x3 : Value} {x y : Int32} {st : List Value} {h : AH} : Run M_L_law 865 [x0, x1, x2, x3] (.int y :: .int x :: st) h = Run M_L_law 866 [x0, x1, x2, x3] (.int (x + y) :: st) h := R_iadd d_L_law_865
theorem d_L_law_866 : decode (mB M_L_law) 866 = .ok (.iaload, 1) := by decide +kernel
theorem r_L_law_866 {x0 x1 x2 x3 : Value} {a : Nat} {i : Int32} {st : List Value} {h : AH} : Run M_L_law 866 [x0, x1, x2, x3] (.int i :: .ref a :: st) h = if (gI 0 h a i).isSome = true then Run M_L_law 867 [x0, x1, x2, x3] (.int ((gI 0 h a i).getD 0) :: st) h else none := R_iaload d_L_law_866
theorem d_L_law_867 : decode (mB M_L_law) 867 = .ok (.aload_n 0, 1) := by decide +kernel
theorem r_L_law_867 {x1 x2 x3 : Value} {a : Nat} {st : List Value} {h : AH} : Run M_L_law 867 [.ref a, x1, x2, x3] st h = Run M_L_law 868 [.ref a, x1, x2, x3] (.ref a :: st) h := R_aload_n d_L_law_867 rfl
theorem d_L_law_868 : decode (mB M_L_law) 868 = .ok (.iload_n 3, 1) := by decide +kernel
theorem r_L_law_868 {x0 x1 x2 : Value} {a : Int32} {st : List Value} {h : AH} : Run M_L_law 868 [x0, x1, x2, .int a] st h = Run M_L_law 869 [x0, x1, x2, .int a] (.int a :: st) h := R_iload_n d_L_law_868 rfl
theorem d_L_law_869 : decode (mB M_L_law) 869 = .ok (.iconst 3, 1) := by decide +kernel
theorem r_L_law_869 {x0 x1 x2 x3 : Value} {st : List Value} {h : AH} : Run M_L_law 869 [x0, x1, x2, x3] st h = Run M_L_law 870 [x0, x1, x2, x3] (.int (nI 3) :: st) h := R_iconst d_L_law_869 (by decide)
theorem d_L_law_870 : decode (mB M_L_law) 870 = .ok (.iadd, 1) := by decide +kernel
theorem r_L_law_870 {x0 x1 x2 x3 : Value} {x y : Int32} {st : List Value} {h : AH} : Run M_L_law 870 [x0, x1, x2, x3] (.int y :: .int x :: st) h = Run M_L_law 871 [x0, x1, x2, x3] (.int (x + y) :: st) h := R_iadd d_L_law_870
theorem d_L_law_871 : decode (mB M_L_law) 871 = .ok (.iaload, 1) := by decide +kernel
theorem r_L_law_871 {x0 x1 x2 x3 : Value} {a : Nat} {i : Int32} {st : List Value} {h : AH} : Run M_L_law 871 [x0, x1, x2, x3] (.int i :: .ref a :: st) h = if (gI 0 h a i).isSome = true then Run M_L_law 872 [x0, x1, x2, x3] (.int ((gI 0 h a i).getD 0) :: st) h else none := R_iaload d_L_law_871
theorem d_L_law_872 : decode (mB M_L_law) 872 = .ok (.invokevirtual 108, 3) := by decide +kernel
theorem r_L_law_872 {x0 x1 x2 x3 : Value} {p0 : Int32} {p1 : Int32} {p2 : Int32} {a : Nat} {w0 : Value} {h : AH} : Run M_L_law 872 [x0, x1, x2, x3] (.int p2 :: .int p1 :: .int p0 :: .ref a :: [w0]) h = if refO h 9 (some (.ref a)) = true then (if (Call M_X9_lift h [.ref a, .int p0, .int p1, .int p2]).isSome = true then Run M_L_law 875 [x0, x1, x2, x3] (rL (Call M_X9_lift h [.ref a, .int p0, .int p1, .int p2]) ++ [w0]) (cH (Call M_X9_lift h [.ref a, .int p0, .int p1, .int p2])) else none) else none := R_virt d_L_law_872 rfl rfl rfl rfl rfl (Nat.le_of_ble_eq_true rfl)
theorem d_L_law_875 : decode (mB M_L_law) 875 = .ok (.lcmp, 1) := by decide +kernel
theorem r_L_law_875 {x0 x1 x2 x3 : Value} {x y : Int64} {st : List Value} {h : AH} : Run M_L_law 875 [x0, x1, x2, x3] (.long y :: .long x :: st) h = Run M_L_law 876 [x0, x1, x2, x3] (.int (lg_cmp x y) :: st) h := R_lcmp d_L_law_875
theorem d_L_law_876 : decode (mB M_L_law) 876 = .ok (.ifCond .eq 471, 3) := by decide +kernel
theorem r_L_law_876 {x0 x1 x2 x3 : Value} {x : Int32} {st : List Value} {h : AH} : Run M_L_law 876 [x0, x1, x2, x3] (.int x :: st) h = if x = nI 0 then Run M_L_law 1347 [x0, x1, x2, x3] st h else Run M_L_law 879 [x0, x1, x2, x3] st h := R_if_eq d_L_law_876 (by decide)
theorem d_L_law_879 : decode (mB M_L_law) 879 = .ok (.iconst 0, 1) := by decide +kernel
theorem r_L_law_879 {x0 x1 x2 x3 : Value} {st : List Value} {h : AH} : Run M_L_law 879 [x0, x1, x2, x3] st h = Run M_L_law 880 [x0, x1, x2, x3] (.int (nI 0) :: st) h := R_iconst d_L_law_879 (by decide)
theorem d_L_law_880 : decode (mB M_L_law) 880 = .ok (.ireturn, 1) := by decide +kernel
theorem r_L_law_880_0 {x0 x1 x2 x3 : Value} {h : AH} : Run M_L_law 880 [x0, x1, x2, x3] [.int (nI 0)] h = some (h, some (.int (nI 0))) := R_ireturn d_L_law_880 rfl (by decide)
theorem r_L_law_880_1 {x0 x1 x2 x3 : Value} {h : AH} : Run M_L_law 880 [x0, x1, x2, x3] [.int (nI 1)] h = some (h, some (.int (nI 1))) := R_ireturn d_L_law_880 rfl (by decide)
theorem r_L_law_880_c {x0 x1 x2 x3 : Value} {c : Prop} [Decidable c] {h : AH} : Run M_L_law 880 [x0, x1, x2, x3] [.int (bI c)] h = some (h, some (.int (bI c))) := R_ireturn d_L_law_880 rfl narrow_bI
theorem d_L_law_881 : decode (mB M_L_law) 881 = .ok (.aload_n 1, 1) := by decide +kernel
theorem r_L_law_881 {x0 x2 x3 : Value} {a : Nat} {st : List Value} {h : AH} : Run M_L_law 881 [x0, .ref a, x2, x3] st h = Run M_L_law 882 [x0, .ref a, x2, x3] (.ref a :: st) h := R_aload_n d_L_law_881 rfl
theorem d_L_law_882 : decode (mB M_L_law) 882 = .ok (.aload_n 0, 1) := by decide +kernel
theorem r_L_law_882 {x1 x2 x3 : Value} {a : Nat} {st : List Value} {h : AH} : Run M_L_law 882 [.ref a, x1, x2, x3] st h = Run M_L_law 883 [.ref a, x1, x2, x3] (.ref a :: st) h := R_aload_n d_L_law_882 rfl
theorem d_L_law_883 : decode (mB M_L_law) 883 = .ok (.iload_n 3, 1) := by decide +kernel
theorem r_L_law_883 {x0 x1 x2 : Value} {a : Int32} {st : List Value} {h : AH} : Run M_L_law 883 [x0, x1, x2, .int a] st h = Run M_L_law 884 [x0, x1, x2, .int a] (.int a :: st) h := R_iload_n d_L_law_883 rfl
theorem d_L_law_884 : decode (mB M_L_law) 884 = .ok (.iconst 1, 1) := by decide +kernel
theorem r_L_law_884 {x0 x1 x2 x3 : Value} {st : List Value} {h : AH} : Run M_L_law 884 [x0, x1, x2, x3] st h = Run M_L_law 885 [x0, x1, x2, x3] (.int (nI 1) :: st) h := R_iconst d_L_law_884 (by decide)
theorem d_L_law_885 : decode (mB M_L_law) 885 = .ok (.iadd, 1) := by decide +kernel
theorem r_L_law_885 {x0 x1 x2 x3 : Value} {x y : Int32} {st : List Value} {h : AH} : Run M_L_law 885 [x0, x1, x2, x3] (.int y :: .int x :: st) h = Run M_L_law 886 [x0, x1, x2, x3] (.int (x + y) :: st) h := R_iadd d_L_law_885
theorem d_L_law_886 : decode (mB M_L_law) 886 = .ok (.iaload, 1) := by decide +kernel
theorem r_L_law_886 {x0 x1 x2 x3 : Value} {a : Nat} {i : Int32} {st : List Value} {h : AH} : Run M_L_law 886 [x0, x1, x2, x3] (.int i :: .ref a :: st) h = if (gI 0 h a i).isSome = true then Run M_L_law 887 [x0, x1, x2, x3] (.int ((gI 0 h a i).getD 0) :: st) h else none := R_iaload d_L_law_886
theorem d_L_law_887 : decode (mB M_L_law) 887 = .ok (.invokevirtual 109, 3) := by decide +kernel
theorem r_L_law_887 {x0 x1 x2 x3 : Value} {p0 : Int32} {a : Nat} {h : AH} : Run M_L_law 887 [x0, x1, x2, x3] (.int p0 :: .ref a :: []) h = if refO h 8 (some (.ref a)) = true then (if (Call M_X8_bestLift h [.ref a, .int p0]).isSome = true then Run M_L_law 890 [x0, x1, x2, x3] (rL (Call M_X8_bestLift h [.ref a, .int p0]) ++ []) (cH (Call M_X8_bestLift h [.ref a, .int p0])) else none) else none := R_virt d_L_law_887 rfl rfl rfl rfl rfl (Nat.le_of_ble_eq_true rfl)
theorem d_L_law_890 : decode (mB M_L_law) 890 = .ok (.aload_n 2, 1) := by decide +kernel
theorem r_L_law_890 {x0 x1 x3 : Value} {a : Nat} {st : List Value} {h : AH} : Run M_L_law 890 [x0, x1, .ref a, x3] st h = Run M_L_law 891 [x0, x1, .ref a, x3] (.ref a :: st) h := R_aload_n d_L_law_890 rfl
theorem d_L_law_891 : decode (mB M_L_law) 891 = .ok (.aload_n 0, 1) := by decide +kernel
theorem r_L_law_891 {x1 x2 x3 : Value} {a : Nat} {st : List Value} {h : AH} : Run M_L_law 891 [.ref a, x1, x2, x3] st h = Run M_L_law 892 [.ref a, x1, x2, x3] (.ref a :: st) h := R_aload_n d_L_law_891 rfl
theorem d_L_law_892 : decode (mB M_L_law) 892 = .ok (.iload_n 3, 1) := by decide +kernel
theorem r_L_law_892 {x0 x1 x2 : Value} {a : Int32} {st : List Value} {h : AH} : Run M_L_law 892 [x0, x1, x2, .int a] st h = Run M_L_law 893 [x0, x1, x2, .int a] (.int a :: st) h := R_iload_n d_L_law_892 rfl
theorem d_L_law_893 : decode (mB M_L_law) 893 = .ok (.iconst 1, 1) := by decide +kernel
theorem r_L_law_893 {x0 x1 x2 x3 : Value} {st : List Value} {h : AH} : Run M_L_law 893 [x0, x1, x2, x3] st h = Run M_L_law 894 [x0, x1, x2, x3] (.int (nI 1) :: st) h := R_iconst d_L_law_893 (by decide)
theorem d_L_law_894 : decode (mB M_L_law) 894 = .ok (.iadd, 1) := by decide +kernel
theorem r_L_law_894 {x0 x1 x2 x3 : Value} {x y : Int32} {st : List Value} {h : AH} : Run M_L_law 894 [x0, x1, x2, x3] (.int y :: .int x :: st) h = Run M_L_law 895 [x0, x1, x2, x3] (.int (x + y) :: st) h := R_iadd d_L_law_894
theorem d_L_law_895 : decode (mB M_L_law) 895 = .ok (.iaload, 1) := by decide +kernel
theorem r_L_law_895 {x0 x1 x2 x3 : Value} {a : Nat} {i : Int32} {st : List Value} {h : AH} : Run M_L_law 895 [x0, x1, x2, x3] (.int i :: .ref a :: st) h = if (gI 0 h a i).isSome = true then Run M_L_law 896 [x0, x1, x2, x3] (.int ((gI 0 h a i).getD 0) :: st) h else none := R_iaload d_L_law_895
theorem d_L_law_896 : decode (mB M_L_law) 896 = .ok (.invokevirtual 112, 3) := by decide +kernel
theorem r_L_law_896 {x0 x1 x2 x3 : Value} {p0 : Int32} {a : Nat} {w0 : Value} {h : AH} : Run M_L_law 896 [x0, x1, x2, x3] (.int p0 :: .ref a :: [w0]) h = if refO h 9 (some (.ref a)) = true then (if (Call M_X9_bestLift h [.ref a, .int p0]).isSome = true then Run M_L_law 899 [x0, x1, x2, x3] (rL (Call M_X9_bestLift h [.ref a, .int p0]) ++ [w0]) (cH (Call M_X9_bestLift h [.ref a, .int p0])) else none) else none := R_virt d_L_law_896 rfl rfl rfl rfl rfl (Nat.le_of_ble_eq_true rfl)
theorem d_L_law_899 : decode (mB M_L_law) 899 = .ok (.if_icmp .eq 448, 3) := by decide +kernel
theorem r_L_law_899 {x0 x1 x2 x3 : Value} {x y : Int32} {st : List Value} {h : AH} : Run M_L_law 899 [x0, x1, x2, x3] (.int y :: .int x :: st) h = if x = y then Run M_L_law 1347 [x0, x1, x2, x3] st h else Run M_L_law 902 [x0, x1, x2, x3] st h := R_icmp_eq d_L_law_899 (by decide)
theorem d_L_law_902 : decode (mB M_L_law) 902 = .ok (.iconst 0, 1) := by decide +kernel
theorem r_L_law_902 {x0 x1 x2 x3 : Value} {st : List Value} {h : AH} : Run M_L_law 902 [x0, x1, x2, x3] st h = Run M_L_law 903 [x0, x1, x2, x3] (.int (nI 0) :: st) h := R_iconst d_L_law_902 (by decide)
theorem d_L_law_903 : decode (mB M_L_law) 903 = .ok (.ireturn, 1) := by decide +kernel
theorem r_L_law_903_0 {x0 x1 x2 x3 : Value} {h : AH} : Run M_L_law 903 [x0, x1, x2, x3] [.int (nI 0)] h = some (h, some (.int (nI 0))) := R_ireturn d_L_law_903 rfl (by decide)
theorem r_L_law_903_1 {x0 x1 x2 x3 : Value} {h : AH} : Run M_L_law 903 [x0, x1, x2, x3] [.int (nI 1)] h = some (h, some (.int (nI 1))) := R_ireturn d_L_law_903 rfl (by decide)
theorem r_L_law_903_c {x0 x1 x2 x3 : Value} {c : Prop} [Decidable c] {h : AH} : Run M_L_law 903 [x0, x1, x2, x3] [.int (bI c)] h = some (h, some (.int (bI c))) := R_ireturn d_L_law_903 rfl narrow_bI
theorem d_L_law_904 : decode (mB M_L_law) 904 = .ok (.aload_n 1, 1) := by decide +kernel
theorem r_L_law_904 {x0 x2 x3 : Value} {a : Nat} {st : List Value} {h : AH} : Run M_L_law 904 [x0, .ref a, x2, x3] st h = Run M_L_law 905 [x0, .ref a, x2, x3] (.ref a :: st) h := R_aload_n d_L_law_904 rfl
theorem d_L_law_905 : decode (mB M_L_law) 905 = .ok (.aload_n 0, 1) := by decide +kernel
theorem r_L_law_905 {x1 x2 x3 : Value} {a : Nat} {st : List Value} {h : AH} : Run M_L_law 905 [.ref a, x1, x2, x3] st h = Run M_L_law 906 [.ref a, x1, x2, x3] (.ref a :: st) h := R_aload_n d_L_law_905 rfl
theorem d_L_law_906 : decode (mB M_L_law) 906 = .ok (.iload_n 3, 1) := by decide +kernel
theorem r_L_law_906 {x0 x1 x2 : Value} {a : Int32} {st : List Value} {h : AH} : Run M_L_law 906 [x0, x1, x2, .int a] st h = Run M_L_law 907 [x0, x1, x2, .int a] (.int a :: st) h := R_iload_n d_L_law_906 rfl
theorem d_L_law_907 : decode (mB M_L_law) 907 = .ok (.iconst 1, 1) := by decide +kernel
theorem r_L_law_907 {x0 x1 x2 x3 : Value} {st : List Value} {h : AH} : Run M_L_law 907 [x0, x1, x2, x3] st h = Run M_L_law 908 [x0, x1, x2, x3] (.int (nI 1) :: st) h := R_iconst d_L_law_907 (by decide)
theorem d_L_law_908 : decode (mB M_L_law) 908 = .ok (.iadd, 1) := by decide +kernel
theorem r_L_law_908 {x0 x1 x2 x3 : Value} {x y : Int32} {st : List Value} {h : AH} : Run M_L_law 908 [x0, x1, x2, x3] (.int y :: .int x :: st) h = Run M_L_law 909 [x0, x1, x2, x3] (.int (x + y) :: st) h := R_iadd d_L_law_908
theorem d_L_law_909 : decode (mB M_L_law) 909 = .ok (.iaload, 1) := by decide +kernel
theorem r_L_law_909 {x0 x1 x2 x3 : Value} {a : Nat} {i : Int32} {st : List Value} {h : AH} : Run M_L_law 909 [x0, x1, x2, x3] (.int i :: .ref a :: st) h = if (gI 0 h a i).isSome = true then Run M_L_law 910 [x0, x1, x2, x3] (.int ((gI 0 h a i).getD 0) :: st) h else none := R_iaload d_L_law_909
theorem d_L_law_910 : decode (mB M_L_law) 910 = .ok (.aload_n 0, 1) := by decide +kernel
theorem r_L_law_910 {x1 x2 x3 : Value} {a : Nat} {st : List Value} {h : AH} : Run M_L_law 910 [.ref a, x1, x2, x3] st h = Run M_L_law 911 [.ref a, x1, x2, x3] (.ref a :: st) h := R_aload_n d_L_law_910 rfl
theorem d_L_law_911 : decode (mB M_L_law) 911 = .ok (.iload_n 3, 1) := by decide +kernel
theorem r_L_law_911 {x0 x1 x2 : Value} {a : Int32} {st : List Value} {h : AH} : Run M_L_law 911 [x0, x1, x2, .int a] st h = Run M_L_law 912 [x0, x1, x2, .int a] (.int a :: st) h := R_iload_n d_L_law_911 rfl
theorem d_L_law_912 : decode (mB M_L_law) 912 = .ok (.iconst 2, 1) := by decide +kernel
theorem r_L_law_912 {x0 x1 x2 x3 : Value} {st : List Value} {h : AH} : Run M_L_law 912 [x0, x1, x2, x3] st h = Run M_L_law 913 [x0, x1, x2, x3] (.int (nI 2) :: st) h := R_iconst d_L_law_912 (by decide)
theorem d_L_law_913 : decode (mB M_L_law) 913 = .ok (.iadd, 1) := by decide +kernel
theorem r_L_law_913 {x0 x1 x2 x3 : Value} {x y : Int32} {st : List Value} {h : AH} : Run M_L_law 913 [x0, x1, x2, x3] (.int y :: .int x :: st) h = Run M_L_law 914 [x0, x1, x2, x3] (.int (x + y) :: st) h := R_iadd d_L_law_913
theorem d_L_law_914 : decode (mB M_L_law) 914 = .ok (.iaload, 1) := by decide +kernel
theorem r_L_law_914 {x0 x1 x2 x3 : Value} {a : Nat} {i : Int32} {st : List Value} {h : AH} : Run M_L_law 914 [x0, x1, x2, x3] (.int i :: .ref a :: st) h = if (gI 0 h a i).isSome = true then Run M_L_law 915 [x0, x1, x2, x3] (.int ((gI 0 h a i).getD 0) :: st) h else none := R_iaload d_L_law_914
theorem d_L_law_915 : decode (mB M_L_law) 915 = .ok (.invokevirtual 113, 3) := by decide +kernel
theorem r_L_law_915 {x0 x1 x2 x3 : Value} {p0 : Int32} {p1 : Int32} {a : Nat} {h : AH} : Run M_L_law 915 [x0, x1, x2, x3] (.int p1 :: .int p0 :: .ref a :: []) h = if refO h 8 (some (.ref a)) = true then (if (Call M_X8_saved h [.ref a, .int p0, .int p1]).isSome = true then Run M_L_law 918 [x0, x1, x2, x3] (rL (Call M_X8_saved h [.ref a, .int p0, .int p1]) ++ []) (cH (Call M_X8_saved h [.ref a, .int p0, .int p1])) else none) else none := R_virt d_L_law_915 rfl rfl rfl rfl rfl (Nat.le_of_ble_eq_true rfl)
theorem d_L_law_918 : decode (mB M_L_law) 918 = .ok (.aload_n 2, 1) := by decide +kernel
theorem r_L_law_918 {x0 x1 x3 : Value} {a : Nat} {st : List Value} {h : AH} : Run M_L_law 918 [x0, x1, .ref a, x3] st h = Run M_L_law 919 [x0, x1, .ref a, x3] (.ref a :: st) h := R_aload_n d_L_law_918 rfl
theorem d_L_law_919 : decode (mB M_L_law) 919 = .ok (.aload_n 0, 1) := by decide +kernel
theorem r_L_law_919 {x1 x2 x3 : Value} {a : Nat} {st : List Value} {h : AH} : Run M_L_law 919 [.ref a, x1, x2, x3] st h = Run M_L_law 920 [.ref a, x1, x2, x3] (.ref a :: st) h := R_aload_n d_L_law_919 rfl
theorem d_L_law_920 : decode (mB M_L_law) 920 = .ok (.iload_n 3, 1) := by decide +kernel
theorem r_L_law_920 {x0 x1 x2 : Value} {a : Int32} {st : List Value} {h : AH} : Run M_L_law 920 [x0, x1, x2, .int a] st h = Run M_L_law 921 [x0, x1, x2, .int a] (.int a :: st) h := R_iload_n d_L_law_920 rfl
theorem d_L_law_921 : decode (mB M_L_law) 921 = .ok (.iconst 1, 1) := by decide +kernel
theorem r_L_law_921 {x0 x1 x2 x3 : Value} {st : List Value} {h : AH} : Run M_L_law 921 [x0, x1, x2, x3] st h = Run M_L_law 922 [x0, x1, x2, x3] (.int (nI 1) :: st) h := R_iconst d_L_law_921 (by decide)
theorem d_L_law_922 : decode (mB M_L_law) 922 = .ok (.iadd, 1) := by decide +kernel
theorem r_L_law_922 {x0 x1 x2 x3 : Value} {x y : Int32} {st : List Value} {h : AH} : Run M_L_law 922 [x0, x1, x2, x3] (.int y :: .int x :: st) h = Run M_L_law 923 [x0, x1, x2, x3] (.int (x + y) :: st) h := R_iadd d_L_law_922
theorem d_L_law_923 : decode (mB M_L_law) 923 = .ok (.iaload, 1) := by decide +kernel
theorem r_L_law_923 {x0 x1 x2 x3 : Value} {a : Nat} {i : Int32} {st : List Value} {h : AH} : Run M_L_law 923 [x0, x1, x2, x3] (.int i :: .ref a :: st) h = if (gI 0 h a i).isSome = true then Run M_L_law 924 [x0, x1, x2, x3] (.int ((gI 0 h a i).getD 0) :: st) h else none := R_iaload d_L_law_923
theorem d_L_law_924 : decode (mB M_L_law) 924 = .ok (.aload_n 0, 1) := by decide +kernel
theorem r_L_law_924 {x1 x2 x3 : Value} {a : Nat} {st : List Value} {h : AH} : Run M_L_law 924 [.ref a, x1, x2, x3] st h = Run M_L_law 925 [.ref a, x1, x2, x3] (.ref a :: st) h := R_aload_n d_L_law_924 rfl
theorem d_L_law_925 : decode (mB M_L_law) 925 = .ok (.iload_n 3, 1) := by decide +kernel
theorem r_L_law_925 {x0 x1 x2 : Value} {a : Int32} {st : List Value} {h : AH} : Run M_L_law 925 [x0, x1, x2, .int a] st h = Run M_L_law 926 [x0, x1, x2, .int a] (.int a :: st) h := R_iload_n d_L_law_925 rfl
theorem d_L_law_926 : decode (mB M_L_law) 926 = .ok (.iconst 2, 1) := by decide +kernel
theorem r_L_law_926 {x0 x1 x2 x3 : Value} {st : List Value} {h : AH} : Run M_L_law 926 [x0, x1, x2, x3] st h = Run M_L_law 927 [x0, x1, x2, x3] (.int (nI 2) :: st) h := R_iconst d_L_law_926 (by decide)
theorem d_L_law_927 : decode (mB M_L_law) 927 = .ok (.iadd, 1) := by decide +kernel
theorem r_L_law_927 {x0 x1 x2 x3 : Value} {x y : Int32} {st : List Value} {h : AH} : Run M_L_law 927 [x0, x1, x2, x3] (.int y :: .int x :: st) h = Run M_L_law 928 [x0, x1, x2, x3] (.int (x + y) :: st) h := R_iadd d_L_law_927
theorem d_L_law_928 : decode (mB M_L_law) 928 = .ok (.iaload, 1) := by decide +kernel
theorem r_L_law_928 {x0 x1 x2 x3 : Value} {a : Nat} {i : Int32} {st : List Value} {h : AH} : Run M_L_law 928 [x0, x1, x2, x3] (.int i :: .ref a :: st) h = if (gI 0 h a i).isSome = true then Run M_L_law 929 [x0, x1, x2, x3] (.int ((gI 0 h a i).getD 0) :: st) h else none := R_iaload d_L_law_928
theorem d_L_law_929 : decode (mB M_L_law) 929 = .ok (.invokevirtual 116, 3) := by decide +kernel
theorem r_L_law_929 {x0 x1 x2 x3 : Value} {p0 : Int32} {p1 : Int32} {a : Nat} {w0 : Value} {h : AH} : Run M_L_law 929 [x0, x1, x2, x3] (.int p1 :: .int p0 :: .ref a :: [w0]) h = if refO h 9 (some (.ref a)) = true then (if (Call M_X9_saved h [.ref a, .int p0, .int p1]).isSome = true then Run M_L_law 932 [x0, x1, x2, x3] (rL (Call M_X9_saved h [.ref a, .int p0, .int p1]) ++ [w0]) (cH (Call M_X9_saved h [.ref a, .int p0, .int p1])) else none) else none := R_virt d_L_law_929 rfl rfl rfl rfl rfl (Nat.le_of_ble_eq_true rfl)
theorem d_L_law_932 : decode (mB M_L_law) 932 = .ok (.lcmp, 1) := by decide +kernel
theorem r_L_law_932 {x0 x1 x2 x3 : Value} {x y : Int64} {st : List Value} {h : AH} : Run M_L_law 932 [x0, x1, x2, x3] (.long y :: .long x :: st) h = Run M_L_law 933 [x0, x1, x2, x3] (.int (lg_cmp x y) :: st) h := R_lcmp d_L_law_932
theorem d_L_law_933 : decode (mB M_L_law) 933 = .ok (.ifCond .eq 414, 3) := by decide +kernel
theorem r_L_law_933 {x0 x1 x2 x3 : Value} {x : Int32} {st : List Value} {h : AH} : Run M_L_law 933 [x0, x1, x2, x3] (.int x :: st) h = if x = nI 0 then Run M_L_law 1347 [x0, x1, x2, x3] st h else Run M_L_law 936 [x0, x1, x2, x3] st h := R_if_eq d_L_law_933 (by decide)
theorem d_L_law_936 : decode (mB M_L_law) 936 = .ok (.iconst 0, 1) := by decide +kernel
theorem r_L_law_936 {x0 x1 x2 x3 : Value} {st : List Value} {h : AH} : Run M_L_law 936 [x0, x1, x2, x3] st h = Run M_L_law 937 [x0, x1, x2, x3] (.int (nI 0) :: st) h := R_iconst d_L_law_936 (by decide)
theorem d_L_law_937 : decode (mB M_L_law) 937 = .ok (.ireturn, 1) := by decide +kernel
theorem r_L_law_937_0 {x0 x1 x2 x3 : Value} {h : AH} : Run M_L_law 937 [x0, x1, x2, x3] [.int (nI 0)] h = some (h, some (.int (nI 0))) := R_ireturn d_L_law_937 rfl (by decide)
theorem r_L_law_937_1 {x0 x1 x2 x3 : Value} {h : AH} : Run M_L_law 937 [x0, x1, x2, x3] [.int (nI 1)] h = some (h, some (.int (nI 1))) := R_ireturn d_L_law_937 rfl (by decide)
theorem r_L_law_937_c {x0 x1 x2 x3 : Value} {c : Prop} [Decidable c] {h : AH} : Run M_L_law 937 [x0, x1, x2, x3] [.int (bI c)] h = some (h, some (.int (bI c))) := R_ireturn d_L_law_937 rfl narrow_bI
theorem d_L_law_938 : decode (mB M_L_law) 938 = .ok (.aload_n 1, 1) := by decide +kernel
theorem r_L_law_938 {x0 x2 x3 : Value} {a : Nat} {st : List Value} {h : AH} : Run M_L_law 938 [x0, .ref a, x2, x3] st h = Run M_L_law 939 [x0, .ref a, x2, x3] (.ref a :: st) h := R_aload_n d_L_law_938 rfl
theorem d_L_law_939 : decode (mB M_L_law) 939 = .ok (.invokevirtual 117, 3) := by decide +kernel
theorem r_L_law_939 {x0 x1 x2 x3 : Value} {a : Nat} {h : AH} : Run M_L_law 939 [x0, x1, x2, x3] (.ref a :: []) h = if refO h 8 (some (.ref a)) = true then (if (Call M_X8_apart h [.ref a]).isSome = true then Run M_L_law 942 [x0, x1, x2, x3] (rL (Call M_X8_apart h [.ref a]) ++ []) (cH (Call M_X8_apart h [.ref a])) else none) else none := R_virt d_L_law_939 rfl rfl rfl rfl rfl (Nat.le_of_ble_eq_true rfl)
theorem d_L_law_942 : decode (mB M_L_law) 942 = .ok (.aload_n 2, 1) := by decide +kernel
theorem r_L_law_942 {x0 x1 x3 : Value} {a : Nat} {st : List Value} {h : AH} : Run M_L_law 942 [x0, x1, .ref a, x3] st h = Run M_L_law 943 [x0, x1, .ref a, x3] (.ref a :: st) h := R_aload_n d_L_law_942 rfl
theorem d_L_law_943 : decode (mB M_L_law) 943 = .ok (.invokevirtual 120, 3) := by decide +kernel
theorem r_L_law_943 {x0 x1 x2 x3 : Value} {a : Nat} {w0 : Value} {h : AH} : Run M_L_law 943 [x0, x1, x2, x3] (.ref a :: [w0]) h = if refO h 9 (some (.ref a)) = true then (if (Call M_X9_apart h [.ref a]).isSome = true then Run M_L_law 946 [x0, x1, x2, x3] (rL (Call M_X9_apart h [.ref a]) ++ [w0]) (cH (Call M_X9_apart h [.ref a])) else none) else none := R_virt d_L_law_943 rfl rfl rfl rfl rfl (Nat.le_of_ble_eq_true rfl)
theorem d_L_law_946 : decode (mB M_L_law) 946 = .ok (.if_icmp .eq 401, 3) := by decide +kernel
theorem r_L_law_946 {x0 x1 x2 x3 : Value} {x y : Int32} {st : List Value} {h : AH} : Run M_L_law 946 [x0, x1, x2, x3] (.int y :: .int x :: st) h = if x = y then Run M_L_law 1347 [x0, x1, x2, x3] st h else Run M_L_law 949 [x0, x1, x2, x3] st h := R_icmp_eq d_L_law_946 (by decide)
theorem d_L_law_949 : decode (mB M_L_law) 949 = .ok (.iconst 0, 1) := by decide +kernel
theorem r_L_law_949 {x0 x1 x2 x3 : Value} {st : List Value} {h : AH} : Run M_L_law 949 [x0, x1, x2, x3] st h = Run M_L_law 950 [x0, x1, x2, x3] (.int (nI 0) :: st) h := R_iconst d_L_law_949 (by decide)
theorem d_L_law_950 : decode (mB M_L_law) 950 = .ok (.ireturn, 1) := by decide +kernel
theorem r_L_law_950_0 {x0 x1 x2 x3 : Value} {h : AH} : Run M_L_law 950 [x0, x1, x2, x3] [.int (nI 0)] h = some (h, some (.int (nI 0))) := R_ireturn d_L_law_950 rfl (by decide)
theorem r_L_law_950_1 {x0 x1 x2 x3 : Value} {h : AH} : Run M_L_law 950 [x0, x1, x2, x3] [.int (nI 1)] h = some (h, some (.int (nI 1))) := R_ireturn d_L_law_950 rfl (by decide)
theorem r_L_law_950_c {x0 x1 x2 x3 : Value} {c : Prop} [Decidable c] {h : AH} : Run M_L_law 950 [x0, x1, x2, x3] [.int (bI c)] h = some (h, some (.int (bI c))) := R_ireturn d_L_law_950 rfl narrow_bI
theorem d_L_law_951 : decode (mB M_L_law) 951 = .ok (.aload_n 1, 1) := by decide +kernel
theorem r_L_law_951 {x0 x2 x3 : Value} {a : Nat} {st : List Value} {h : AH} : Run M_L_law 951 [x0, .ref a, x2, x3] st h = Run M_L_law 952 [x0, .ref a, x2, x3] (.ref a :: st) h := R_aload_n d_L_law_951 rfl
theorem d_L_law_952 : decode (mB M_L_law) 952 = .ok (.aload_n 0, 1) := by decide +kernel
theorem r_L_law_952 {x1 x2 x3 : Value} {a : Nat} {st : List Value} {h : AH} : Run M_L_law 952 [.ref a, x1, x2, x3] st h = Run M_L_law 953 [.ref a, x1, x2, x3] (.ref a :: st) h := R_aload_n d_L_law_952 rfl
theorem d_L_law_953 : decode (mB M_L_law) 953 = .ok (.iload_n 3, 1) := by decide +kernel
theorem r_L_law_953 {x0 x1 x2 : Value} {a : Int32} {st : List Value} {h : AH} : Run M_L_law 953 [x0, x1, x2, .int a] st h = Run M_L_law 954 [x0, x1, x2, .int a] (.int a :: st) h := R_iload_n d_L_law_953 rfl
theorem d_L_law_954 : decode (mB M_L_law) 954 = .ok (.iconst 1, 1) := by decide +kernel
theorem r_L_law_954 {x0 x1 x2 x3 : Value} {st : List Value} {h : AH} : Run M_L_law 954 [x0, x1, x2, x3] st h = Run M_L_law 955 [x0, x1, x2, x3] (.int (nI 1) :: st) h := R_iconst d_L_law_954 (by decide)
theorem d_L_law_955 : decode (mB M_L_law) 955 = .ok (.iadd, 1) := by decide +kernel
theorem r_L_law_955 {x0 x1 x2 x3 : Value} {x y : Int32} {st : List Value} {h : AH} : Run M_L_law 955 [x0, x1, x2, x3] (.int y :: .int x :: st) h = Run M_L_law 956 [x0, x1, x2, x3] (.int (x + y) :: st) h := R_iadd d_L_law_955
theorem d_L_law_956 : decode (mB M_L_law) 956 = .ok (.iaload, 1) := by decide +kernel
theorem r_L_law_956 {x0 x1 x2 x3 : Value} {a : Nat} {i : Int32} {st : List Value} {h : AH} : Run M_L_law 956 [x0, x1, x2, x3] (.int i :: .ref a :: st) h = if (gI 0 h a i).isSome = true then Run M_L_law 957 [x0, x1, x2, x3] (.int ((gI 0 h a i).getD 0) :: st) h else none := R_iaload d_L_law_956
theorem d_L_law_957 : decode (mB M_L_law) 957 = .ok (.invokevirtual 121, 3) := by decide +kernel
theorem r_L_law_957 {x0 x1 x2 x3 : Value} {p0 : Int32} {a : Nat} {h : AH} : Run M_L_law 957 [x0, x1, x2, x3] (.int p0 :: .ref a :: []) h = if refO h 8 (some (.ref a)) = true then (if (Call M_X8_bestWay h [.ref a, .int p0]).isSome = true then Run M_L_law 960 [x0, x1, x2, x3] (rL (Call M_X8_bestWay h [.ref a, .int p0]) ++ []) (cH (Call M_X8_bestWay h [.ref a, .int p0])) else none) else none := R_virt d_L_law_957 rfl rfl rfl rfl rfl (Nat.le_of_ble_eq_true rfl)
theorem d_L_law_960 : decode (mB M_L_law) 960 = .ok (.aload_n 2, 1) := by decide +kernel
theorem r_L_law_960 {x0 x1 x3 : Value} {a : Nat} {st : List Value} {h : AH} : Run M_L_law 960 [x0, x1, .ref a, x3] st h = Run M_L_law 961 [x0, x1, .ref a, x3] (.ref a :: st) h := R_aload_n d_L_law_960 rfl
theorem d_L_law_961 : decode (mB M_L_law) 961 = .ok (.aload_n 0, 1) := by decide +kernel
theorem r_L_law_961 {x1 x2 x3 : Value} {a : Nat} {st : List Value} {h : AH} : Run M_L_law 961 [.ref a, x1, x2, x3] st h = Run M_L_law 962 [.ref a, x1, x2, x3] (.ref a :: st) h := R_aload_n d_L_law_961 rfl
theorem d_L_law_962 : decode (mB M_L_law) 962 = .ok (.iload_n 3, 1) := by decide +kernel
theorem r_L_law_962 {x0 x1 x2 : Value} {a : Int32} {st : List Value} {h : AH} : Run M_L_law 962 [x0, x1, x2, .int a] st h = Run M_L_law 963 [x0, x1, x2, .int a] (.int a :: st) h := R_iload_n d_L_law_962 rfl
theorem d_L_law_963 : decode (mB M_L_law) 963 = .ok (.iconst 1, 1) := by decide +kernel
theorem r_L_law_963 {x0 x1 x2 x3 : Value} {st : List Value} {h : AH} : Run M_L_law 963 [x0, x1, x2, x3] st h = Run M_L_law 964 [x0, x1, x2, x3] (.int (nI 1) :: st) h := R_iconst d_L_law_963 (by decide)
theorem d_L_law_964 : decode (mB M_L_law) 964 = .ok (.iadd, 1) := by decide +kernel
theorem r_L_law_964 {x0 x1 x2 x3 : Value} {x y : Int32} {st : List Value} {h : AH} : Run M_L_law 964 [x0, x1, x2, x3] (.int y :: .int x :: st) h = Run M_L_law 965 [x0, x1, x2, x3] (.int (x + y) :: st) h := R_iadd d_L_law_964
theorem d_L_law_965 : decode (mB M_L_law) 965 = .ok (.iaload, 1) := by decide +kernel
theorem r_L_law_965 {x0 x1 x2 x3 : Value} {a : Nat} {i : Int32} {st : List Value} {h : AH} : Run M_L_law 965 [x0, x1, x2, x3] (.int i :: .ref a :: st) h = if (gI 0 h a i).isSome = true then Run M_L_law 966 [x0, x1, x2, x3] (.int ((gI 0 h a i).getD 0) :: st) h else none := R_iaload d_L_law_965
theorem d_L_law_966 : decode (mB M_L_law) 966 = .ok (.invokevirtual 124, 3) := by decide +kernel
theorem r_L_law_966 {x0 x1 x2 x3 : Value} {p0 : Int32} {a : Nat} {w0 : Value} {h : AH} : Run M_L_law 966 [x0, x1, x2, x3] (.int p0 :: .ref a :: [w0]) h = if refO h 9 (some (.ref a)) = true then (if (Call M_X9_bestWay h [.ref a, .int p0]).isSome = true then Run M_L_law 969 [x0, x1, x2, x3] (rL (Call M_X9_bestWay h [.ref a, .int p0]) ++ [w0]) (cH (Call M_X9_bestWay h [.ref a, .int p0])) else none) else none := R_virt d_L_law_966 rfl rfl rfl rfl rfl (Nat.le_of_ble_eq_true rfl)
theorem d_L_law_969 : decode (mB M_L_law) 969 = .ok (.if_icmp .eq 378, 3) := by decide +kernel
theorem r_L_law_969 {x0 x1 x2 x3 : Value} {x y : Int32} {st : List Value} {h : AH} : Run M_L_law 969 [x0, x1, x2, x3] (.int y :: .int x :: st) h = if x = y then Run M_L_law 1347 [x0, x1, x2, x3] st h else Run M_L_law 972 [x0, x1, x2, x3] st h := R_icmp_eq d_L_law_969 (by decide)
theorem d_L_law_972 : decode (mB M_L_law) 972 = .ok (.iconst 0, 1) := by decide +kernel
theorem r_L_law_972 {x0 x1 x2 x3 : Value} {st : List Value} {h : AH} : Run M_L_law 972 [x0, x1, x2, x3] st h = Run M_L_law 973 [x0, x1, x2, x3] (.int (nI 0) :: st) h := R_iconst d_L_law_972 (by decide)
theorem d_L_law_973 : decode (mB M_L_law) 973 = .ok (.ireturn, 1) := by decide +kernel
theorem r_L_law_973_0 {x0 x1 x2 x3 : Value} {h : AH} : Run M_L_law 973 [x0, x1, x2, x3] [.int (nI 0)] h = some (h, some (.int (nI 0))) := R_ireturn d_L_law_973 rfl (by decide)
theorem r_L_law_973_1 {x0 x1 x2 x3 : Value} {h : AH} : Run M_L_law 973 [x0, x1, x2, x3] [.int (nI 1)] h = some (h, some (.int (nI 1))) := R_ireturn d_L_law_973 rfl (by decide)
theorem r_L_law_973_c {x0 x1 x2 x3 : Value} {c : Prop} [Decidable c] {h : AH} : Run M_L_law 973 [x0, x1, x2, x3] [.int (bI c)] h = some (h, some (.int (bI c))) := R_ireturn d_L_law_973 rfl narrow_bI
theorem d_L_law_974 : decode (mB M_L_law) 974 = .ok (.aload_n 1, 1) := by decide +kernel
theorem r_L_law_974 {x0 x2 x3 : Value} {a : Nat} {st : List Value} {h : AH} : Run M_L_law 974 [x0, .ref a, x2, x3] st h = Run M_L_law 975 [x0, .ref a, x2, x3] (.ref a :: st) h := R_aload_n d_L_law_974 rfl
theorem d_L_law_975 : decode (mB M_L_law) 975 = .ok (.aload_n 0, 1) := by decide +kernel
theorem r_L_law_975 {x1 x2 x3 : Value} {a : Nat} {st : List Value} {h : AH} : Run M_L_law 975 [.ref a, x1, x2, x3] st h = Run M_L_law 976 [.ref a, x1, x2, x3] (.ref a :: st) h := R_aload_n d_L_law_975 rfl
theorem d_L_law_976 : decode (mB M_L_law) 976 = .ok (.iload_n 3, 1) := by decide +kernel
theorem r_L_law_976 {x0 x1 x2 : Value} {a : Int32} {st : List Value} {h : AH} : Run M_L_law 976 [x0, x1, x2, .int a] st h = Run M_L_law 977 [x0, x1, x2, .int a] (.int a :: st) h := R_iload_n d_L_law_976 rfl
theorem d_L_law_977 : decode (mB M_L_law) 977 = .ok (.iconst 1, 1) := by decide +kernel
theorem r_L_law_977 {x0 x1 x2 x3 : Value} {st : List Value} {h : AH} : Run M_L_law 977 [x0, x1, x2, x3] st h = Run M_L_law 978 [x0, x1, x2, x3] (.int (nI 1) :: st) h := R_iconst d_L_law_977 (by decide)
theorem d_L_law_978 : decode (mB M_L_law) 978 = .ok (.iadd, 1) := by decide +kernel
theorem r_L_law_978 {x0 x1 x2 x3 : Value} {x y : Int32} {st : List Value} {h : AH} : Run M_L_law 978 [x0, x1, x2, x3] (.int y :: .int x :: st) h = Run M_L_law 979 [x0, x1, x2, x3] (.int (x + y) :: st) h := R_iadd d_L_law_978
theorem d_L_law_979 : decode (mB M_L_law) 979 = .ok (.iaload, 1) := by decide +kernel
theorem r_L_law_979 {x0 x1 x2 x3 : Value} {a : Nat} {i : Int32} {st : List Value} {h : AH} : Run M_L_law 979 [x0, x1, x2, x3] (.int i :: .ref a :: st) h = if (gI 0 h a i).isSome = true then Run M_L_law 980 [x0, x1, x2, x3] (.int ((gI 0 h a i).getD 0) :: st) h else none := R_iaload d_L_law_979
theorem d_L_law_980 : decode (mB M_L_law) 980 = .ok (.aload_n 0, 1) := by decide +kernel
theorem r_L_law_980 {x1 x2 x3 : Value} {a : Nat} {st : List Value} {h : AH} : Run M_L_law 980 [.ref a, x1, x2, x3] st h = Run M_L_law 981 [.ref a, x1, x2, x3] (.ref a :: st) h := R_aload_n d_L_law_980 rfl
theorem d_L_law_981 : decode (mB M_L_law) 981 = .ok (.iload_n 3, 1) := by decide +kernel
theorem r_L_law_981 {x0 x1 x2 : Value} {a : Int32} {st : List Value} {h : AH} : Run M_L_law 981 [x0, x1, x2, .int a] st h = Run M_L_law 982 [x0, x1, x2, .int a] (.int a :: st) h := R_iload_n d_L_law_981 rfl
theorem d_L_law_982 : decode (mB M_L_law) 982 = .ok (.iconst 2, 1) := by decide +kernel
theorem r_L_law_982 {x0 x1 x2 x3 : Value} {st : List Value} {h : AH} : Run M_L_law 982 [x0, x1, x2, x3] st h = Run M_L_law 983 [x0, x1, x2, x3] (.int (nI 2) :: st) h := R_iconst d_L_law_982 (by decide)
theorem d_L_law_983 : decode (mB M_L_law) 983 = .ok (.iadd, 1) := by decide +kernel
theorem r_L_law_983 {x0 x1 x2 x3 : Value} {x y : Int32} {st : List Value} {h : AH} : Run M_L_law 983 [x0, x1, x2, x3] (.int y :: .int x :: st) h = Run M_L_law 984 [x0, x1, x2, x3] (.int (x + y) :: st) h := R_iadd d_L_law_983
theorem d_L_law_984 : decode (mB M_L_law) 984 = .ok (.iaload, 1) := by decide +kernel
theorem r_L_law_984 {x0 x1 x2 x3 : Value} {a : Nat} {i : Int32} {st : List Value} {h : AH} : Run M_L_law 984 [x0, x1, x2, x3] (.int i :: .ref a :: st) h = if (gI 0 h a i).isSome = true then Run M_L_law 985 [x0, x1, x2, x3] (.int ((gI 0 h a i).getD 0) :: st) h else none := R_iaload d_L_law_984
theorem d_L_law_985 : decode (mB M_L_law) 985 = .ok (.invokevirtual 125, 3) := by decide +kernel
theorem r_L_law_985 {x0 x1 x2 x3 : Value} {p0 : Int32} {p1 : Int32} {a : Nat} {h : AH} : Run M_L_law 985 [x0, x1, x2, x3] (.int p1 :: .int p0 :: .ref a :: []) h = if refO h 8 (some (.ref a)) = true then (if (Call M_X8_lookers h [.ref a, .int p0, .int p1]).isSome = true then Run M_L_law 988 [x0, x1, x2, x3] (rL (Call M_X8_lookers h [.ref a, .int p0, .int p1]) ++ []) (cH (Call M_X8_lookers h [.ref a, .int p0, .int p1])) else none) else none := R_virt d_L_law_985 rfl rfl rfl rfl rfl (Nat.le_of_ble_eq_true rfl)
theorem d_L_law_988 : decode (mB M_L_law) 988 = .ok (.aload_n 2, 1) := by decide +kernel
theorem r_L_law_988 {x0 x1 x3 : Value} {a : Nat} {st : List Value} {h : AH} : Run M_L_law 988 [x0, x1, .ref a, x3] st h = Run M_L_law 989 [x0, x1, .ref a, x3] (.ref a :: st) h := R_aload_n d_L_law_988 rfl
theorem d_L_law_989 : decode (mB M_L_law) 989 = .ok (.aload_n 0, 1) := by decide +kernel
theorem r_L_law_989 {x1 x2 x3 : Value} {a : Nat} {st : List Value} {h : AH} : Run M_L_law 989 [.ref a, x1, x2, x3] st h = Run M_L_law 990 [.ref a, x1, x2, x3] (.ref a :: st) h := R_aload_n d_L_law_989 rfl
theorem d_L_law_990 : decode (mB M_L_law) 990 = .ok (.iload_n 3, 1) := by decide +kernel
theorem r_L_law_990 {x0 x1 x2 : Value} {a : Int32} {st : List Value} {h : AH} : Run M_L_law 990 [x0, x1, x2, .int a] st h = Run M_L_law 991 [x0, x1, x2, .int a] (.int a :: st) h := R_iload_n d_L_law_990 rfl
theorem d_L_law_991 : decode (mB M_L_law) 991 = .ok (.iconst 1, 1) := by decide +kernel
theorem r_L_law_991 {x0 x1 x2 x3 : Value} {st : List Value} {h : AH} : Run M_L_law 991 [x0, x1, x2, x3] st h = Run M_L_law 992 [x0, x1, x2, x3] (.int (nI 1) :: st) h := R_iconst d_L_law_991 (by decide)
theorem d_L_law_992 : decode (mB M_L_law) 992 = .ok (.iadd, 1) := by decide +kernel
theorem r_L_law_992 {x0 x1 x2 x3 : Value} {x y : Int32} {st : List Value} {h : AH} : Run M_L_law 992 [x0, x1, x2, x3] (.int y :: .int x :: st) h = Run M_L_law 993 [x0, x1, x2, x3] (.int (x + y) :: st) h := R_iadd d_L_law_992
theorem d_L_law_993 : decode (mB M_L_law) 993 = .ok (.iaload, 1) := by decide +kernel
theorem r_L_law_993 {x0 x1 x2 x3 : Value} {a : Nat} {i : Int32} {st : List Value} {h : AH} : Run M_L_law 993 [x0, x1, x2, x3] (.int i :: .ref a :: st) h = if (gI 0 h a i).isSome = true then Run M_L_law 994 [x0, x1, x2, x3] (.int ((gI 0 h a i).getD 0) :: st) h else none := R_iaload d_L_law_993
theorem d_L_law_994 : decode (mB M_L_law) 994 = .ok (.aload_n 0, 1) := by decide +kernel
theorem r_L_law_994 {x1 x2 x3 : Value} {a : Nat} {st : List Value} {h : AH} : Run M_L_law 994 [.ref a, x1, x2, x3] st h = Run M_L_law 995 [.ref a, x1, x2, x3] (.ref a :: st) h := R_aload_n d_L_law_994 rfl
theorem d_L_law_995 : decode (mB M_L_law) 995 = .ok (.iload_n 3, 1) := by decide +kernel
theorem r_L_law_995 {x0 x1 x2 : Value} {a : Int32} {st : List Value} {h : AH} : Run M_L_law 995 [x0, x1, x2, .int a] st h = Run M_L_law 996 [x0, x1, x2, .int a] (.int a :: st) h := R_iload_n d_L_law_995 rfl
theorem d_L_law_996 : decode (mB M_L_law) 996 = .ok (.iconst 2, 1) := by decide +kernel
theorem r_L_law_996 {x0 x1 x2 x3 : Value} {st : List Value} {h : AH} : Run M_L_law 996 [x0, x1, x2, x3] st h = Run M_L_law 997 [x0, x1, x2, x3] (.int (nI 2) :: st) h := R_iconst d_L_law_996 (by decide)
theorem d_L_law_997 : decode (mB M_L_law) 997 = .ok (.iadd, 1) := by decide +kernel
theorem r_L_law_997 {x0 x1 x2 x3 : Value} {x y : Int32} {st : List Value} {h : AH} : Run M_L_law 997 [x0, x1, x2, x3] (.int y :: .int x :: st) h = Run M_L_law 998 [x0, x1, x2, x3] (.int (x + y) :: st) h := R_iadd d_L_law_997
theorem d_L_law_998 : decode (mB M_L_law) 998 = .ok (.iaload, 1) := by decide +kernel
theorem r_L_law_998 {x0 x1 x2 x3 : Value} {a : Nat} {i : Int32} {st : List Value} {h : AH} : Run M_L_law 998 [x0, x1, x2, x3] (.int i :: .ref a :: st) h = if (gI 0 h a i).isSome = true then Run M_L_law 999 [x0, x1, x2, x3] (.int ((gI 0 h a i).getD 0) :: st) h else none := R_iaload d_L_law_998
theorem d_L_law_999 : decode (mB M_L_law) 999 = .ok (.invokevirtual 128, 3) := by decide +kernel
theorem r_L_law_999 {x0 x1 x2 x3 : Value} {p0 : Int32} {p1 : Int32} {a : Nat} {w0 : Value} {h : AH} : Run M_L_law 999 [x0, x1, x2, x3] (.int p1 :: .int p0 :: .ref a :: [w0]) h = if refO h 9 (some (.ref a)) = true then (if (Call M_X9_lookers h [.ref a, .int p0, .int p1]).isSome = true then Run M_L_law 1002 [x0, x1, x2, x3] (rL (Call M_X9_lookers h [.ref a, .int p0, .int p1]) ++ [w0]) (cH (Call M_X9_lookers h [.ref a, .int p0, .int p1])) else none) else none := R_virt d_L_law_999 rfl rfl rfl rfl rfl (Nat.le_of_ble_eq_true rfl)
theorem d_L_law_1002 : decode (mB M_L_law) 1002 = .ok (.if_icmp .eq 345, 3) := by decide +kernel
theorem r_L_law_1002 {x0 x1 x2 x3 : Value} {x y : Int32} {st : List Value} {h : AH} : Run M_L_law 1002 [x0, x1, x2, x3] (.int y :: .int x :: st) h = if x = y then Run M_L_law 1347 [x0, x1, x2, x3] st h else Run M_L_law 1005 [x0, x1, x2, x3] st h := R_icmp_eq d_L_law_1002 (by decide)
theorem d_L_law_1005 : decode (mB M_L_law) 1005 = .ok (.iconst 0, 1) := by decide +kernel
theorem r_L_law_1005 {x0 x1 x2 x3 : Value} {st : List Value} {h : AH} : Run M_L_law 1005 [x0, x1, x2, x3] st h = Run M_L_law 1006 [x0, x1, x2, x3] (.int (nI 0) :: st) h := R_iconst d_L_law_1005 (by decide)
theorem d_L_law_1006 : decode (mB M_L_law) 1006 = .ok (.ireturn, 1) := by decide +kernel
theorem r_L_law_1006_0 {x0 x1 x2 x3 : Value} {h : AH} : Run M_L_law 1006 [x0, x1, x2, x3] [.int (nI 0)] h = some (h, some (.int (nI 0))) := R_ireturn d_L_law_1006 rfl (by decide)
theorem r_L_law_1006_1 {x0 x1 x2 x3 : Value} {h : AH} : Run M_L_law 1006 [x0, x1, x2, x3] [.int (nI 1)] h = some (h, some (.int (nI 1))) := R_ireturn d_L_law_1006 rfl (by decide)
theorem r_L_law_1006_c {x0 x1 x2 x3 : Value} {c : Prop} [Decidable c] {h : AH} : Run M_L_law 1006 [x0, x1, x2, x3] [.int (bI c)] h = some (h, some (.int (bI c))) := R_ireturn d_L_law_1006 rfl narrow_bI
theorem d_L_law_1007 : decode (mB M_L_law) 1007 = .ok (.aload_n 1, 1) := by decide +kernel
theorem r_L_law_1007 {x0 x2 x3 : Value} {a : Nat} {st : List Value} {h : AH} : Run M_L_law 1007 [x0, .ref a, x2, x3] st h = Run M_L_law 1008 [x0, .ref a, x2, x3] (.ref a :: st) h := R_aload_n d_L_law_1007 rfl
theorem d_L_law_1008 : decode (mB M_L_law) 1008 = .ok (.aload_n 0, 1) := by decide +kernel
theorem r_L_law_1008 {x1 x2 x3 : Value} {a : Nat} {st : List Value} {h : AH} : Run M_L_law 1008 [.ref a, x1, x2, x3] st h = Run M_L_law 1009 [.ref a, x1, x2, x3] (.ref a :: st) h := R_aload_n d_L_law_1008 rfl
theorem d_L_law_1009 : decode (mB M_L_law) 1009 = .ok (.iload_n 3, 1) := by decide +kernel
theorem r_L_law_1009 {x0 x1 x2 : Value} {a : Int32} {st : List Value} {h : AH} : Run M_L_law 1009 [x0, x1, x2, .int a] st h = Run M_L_law 1010 [x0, x1, x2, .int a] (.int a :: st) h := R_iload_n d_L_law_1009 rfl
theorem d_L_law_1010 : decode (mB M_L_law) 1010 = .ok (.iconst 1, 1) := by decide +kernel
theorem r_L_law_1010 {x0 x1 x2 x3 : Value} {st : List Value} {h : AH} : Run M_L_law 1010 [x0, x1, x2, x3] st h = Run M_L_law 1011 [x0, x1, x2, x3] (.int (nI 1) :: st) h := R_iconst d_L_law_1010 (by decide)
theorem d_L_law_1011 : decode (mB M_L_law) 1011 = .ok (.iadd, 1) := by decide +kernel
theorem r_L_law_1011 {x0 x1 x2 x3 : Value} {x y : Int32} {st : List Value} {h : AH} : Run M_L_law 1011 [x0, x1, x2, x3] (.int y :: .int x :: st) h = Run M_L_law 1012 [x0, x1, x2, x3] (.int (x + y) :: st) h := R_iadd d_L_law_1011
theorem d_L_law_1012 : decode (mB M_L_law) 1012 = .ok (.iaload, 1) := by decide +kernel
theorem r_L_law_1012 {x0 x1 x2 x3 : Value} {a : Nat} {i : Int32} {st : List Value} {h : AH} : Run M_L_law 1012 [x0, x1, x2, x3] (.int i :: .ref a :: st) h = if (gI 0 h a i).isSome = true then Run M_L_law 1013 [x0, x1, x2, x3] (.int ((gI 0 h a i).getD 0) :: st) h else none := R_iaload d_L_law_1012
theorem d_L_law_1013 : decode (mB M_L_law) 1013 = .ok (.aload_n 0, 1) := by decide +kernel
theorem r_L_law_1013 {x1 x2 x3 : Value} {a : Nat} {st : List Value} {h : AH} : Run M_L_law 1013 [.ref a, x1, x2, x3] st h = Run M_L_law 1014 [.ref a, x1, x2, x3] (.ref a :: st) h := R_aload_n d_L_law_1013 rfl
theorem d_L_law_1014 : decode (mB M_L_law) 1014 = .ok (.iload_n 3, 1) := by decide +kernel
theorem r_L_law_1014 {x0 x1 x2 : Value} {a : Int32} {st : List Value} {h : AH} : Run M_L_law 1014 [x0, x1, x2, .int a] st h = Run M_L_law 1015 [x0, x1, x2, .int a] (.int a :: st) h := R_iload_n d_L_law_1014 rfl
theorem d_L_law_1015 : decode (mB M_L_law) 1015 = .ok (.iconst 2, 1) := by decide +kernel
theorem r_L_law_1015 {x0 x1 x2 x3 : Value} {st : List Value} {h : AH} : Run M_L_law 1015 [x0, x1, x2, x3] st h = Run M_L_law 1016 [x0, x1, x2, x3] (.int (nI 2) :: st) h := R_iconst d_L_law_1015 (by decide)
theorem d_L_law_1016 : decode (mB M_L_law) 1016 = .ok (.iadd, 1) := by decide +kernel
theorem r_L_law_1016 {x0 x1 x2 x3 : Value} {x y : Int32} {st : List Value} {h : AH} : Run M_L_law 1016 [x0, x1, x2, x3] (.int y :: .int x :: st) h = Run M_L_law 1017 [x0, x1, x2, x3] (.int (x + y) :: st) h := R_iadd d_L_law_1016
theorem d_L_law_1017 : decode (mB M_L_law) 1017 = .ok (.iaload, 1) := by decide +kernel
theorem r_L_law_1017 {x0 x1 x2 x3 : Value} {a : Nat} {i : Int32} {st : List Value} {h : AH} : Run M_L_law 1017 [x0, x1, x2, x3] (.int i :: .ref a :: st) h = if (gI 0 h a i).isSome = true then Run M_L_law 1018 [x0, x1, x2, x3] (.int ((gI 0 h a i).getD 0) :: st) h else none := R_iaload d_L_law_1017
theorem d_L_law_1018 : decode (mB M_L_law) 1018 = .ok (.invokevirtual 129, 3) := by decide +kernel
theorem r_L_law_1018 {x0 x1 x2 x3 : Value} {p0 : Int32} {p1 : Int32} {a : Nat} {h : AH} : Run M_L_law 1018 [x0, x1, x2, x3] (.int p1 :: .int p0 :: .ref a :: []) h = if refO h 8 (some (.ref a)) = true then (if (Call M_X8_claps h [.ref a, .int p0, .int p1]).isSome = true then Run M_L_law 1021 [x0, x1, x2, x3] (rL (Call M_X8_claps h [.ref a, .int p0, .int p1]) ++ []) (cH (Call M_X8_claps h [.ref a, .int p0, .int p1])) else none) else none := R_virt d_L_law_1018 rfl rfl rfl rfl rfl (Nat.le_of_ble_eq_true rfl)
theorem d_L_law_1021 : decode (mB M_L_law) 1021 = .ok (.aload_n 2, 1) := by decide +kernel
theorem r_L_law_1021 {x0 x1 x3 : Value} {a : Nat} {st : List Value} {h : AH} : Run M_L_law 1021 [x0, x1, .ref a, x3] st h = Run M_L_law 1022 [x0, x1, .ref a, x3] (.ref a :: st) h := R_aload_n d_L_law_1021 rfl
theorem d_L_law_1022 : decode (mB M_L_law) 1022 = .ok (.aload_n 0, 1) := by decide +kernel
theorem r_L_law_1022 {x1 x2 x3 : Value} {a : Nat} {st : List Value} {h : AH} : Run M_L_law 1022 [.ref a, x1, x2, x3] st h = Run M_L_law 1023 [.ref a, x1, x2, x3] (.ref a :: st) h := R_aload_n d_L_law_1022 rfl
theorem d_L_law_1023 : decode (mB M_L_law) 1023 = .ok (.iload_n 3, 1) := by decide +kernel
theorem r_L_law_1023 {x0 x1 x2 : Value} {a : Int32} {st : List Value} {h : AH} : Run M_L_law 1023 [x0, x1, x2, .int a] st h = Run M_L_law 1024 [x0, x1, x2, .int a] (.int a :: st) h := R_iload_n d_L_law_1023 rfl
theorem d_L_law_1024 : decode (mB M_L_law) 1024 = .ok (.iconst 1, 1) := by decide +kernel
theorem r_L_law_1024 {x0 x1 x2 x3 : Value} {st : List Value} {h : AH} : Run M_L_law 1024 [x0, x1, x2, x3] st h = Run M_L_law 1025 [x0, x1, x2, x3] (.int (nI 1) :: st) h := R_iconst d_L_law_1024 (by decide)
theorem d_L_law_1025 : decode (mB M_L_law) 1025 = .ok (.iadd, 1) := by decide +kernel
theorem r_L_law_1025 {x0 x1 x2 x3 : Value} {x y : Int32} {st : List Value} {h : AH} : Run M_L_law 1025 [x0, x1, x2, x3] (.int y :: .int x :: st) h = Run M_L_law 1026 [x0, x1, x2, x3] (.int (x + y) :: st) h := R_iadd d_L_law_1025
theorem d_L_law_1026 : decode (mB M_L_law) 1026 = .ok (.iaload, 1) := by decide +kernel
theorem r_L_law_1026 {x0 x1 x2 x3 : Value} {a : Nat} {i : Int32} {st : List Value} {h : AH} : Run M_L_law 1026 [x0, x1, x2, x3] (.int i :: .ref a :: st) h = if (gI 0 h a i).isSome = true then Run M_L_law 1027 [x0, x1, x2, x3] (.int ((gI 0 h a i).getD 0) :: st) h else none := R_iaload d_L_law_1026
theorem d_L_law_1027 : decode (mB M_L_law) 1027 = .ok (.aload_n 0, 1) := by decide +kernel
theorem r_L_law_1027 {x1 x2 x3 : Value} {a : Nat} {st : List Value} {h : AH} : Run M_L_law 1027 [.ref a, x1, x2, x3] st h = Run M_L_law 1028 [.ref a, x1, x2, x3] (.ref a :: st) h := R_aload_n d_L_law_1027 rfl
theorem d_L_law_1028 : decode (mB M_L_law) 1028 = .ok (.iload_n 3, 1) := by decide +kernel
theorem r_L_law_1028 {x0 x1 x2 : Value} {a : Int32} {st : List Value} {h : AH} : Run M_L_law 1028 [x0, x1, x2, .int a] st h = Run M_L_law 1029 [x0, x1, x2, .int a] (.int a :: st) h := R_iload_n d_L_law_1028 rfl
theorem d_L_law_1029 : decode (mB M_L_law) 1029 = .ok (.iconst 2, 1) := by decide +kernel
theorem r_L_law_1029 {x0 x1 x2 x3 : Value} {st : List Value} {h : AH} : Run M_L_law 1029 [x0, x1, x2, x3] st h = Run M_L_law 1030 [x0, x1, x2, x3] (.int (nI 2) :: st) h := R_iconst d_L_law_1029 (by decide)
theorem d_L_law_1030 : decode (mB M_L_law) 1030 = .ok (.iadd, 1) := by decide +kernel
theorem r_L_law_1030 {x0 x1 x2 x3 : Value} {x y : Int32} {st : List Value} {h : AH} : Run M_L_law 1030 [x0, x1, x2, x3] (.int y :: .int x :: st) h = Run M_L_law 1031 [x0, x1, x2, x3] (.int (x + y) :: st) h := R_iadd d_L_law_1030
theorem d_L_law_1031 : decode (mB M_L_law) 1031 = .ok (.iaload, 1) := by decide +kernel
theorem r_L_law_1031 {x0 x1 x2 x3 : Value} {a : Nat} {i : Int32} {st : List Value} {h : AH} : Run M_L_law 1031 [x0, x1, x2, x3] (.int i :: .ref a :: st) h = if (gI 0 h a i).isSome = true then Run M_L_law 1032 [x0, x1, x2, x3] (.int ((gI 0 h a i).getD 0) :: st) h else none := R_iaload d_L_law_1031
theorem d_L_law_1032 : decode (mB M_L_law) 1032 = .ok (.invokevirtual 132, 3) := by decide +kernel
theorem r_L_law_1032 {x0 x1 x2 x3 : Value} {p0 : Int32} {p1 : Int32} {a : Nat} {w0 : Value} {h : AH} : Run M_L_law 1032 [x0, x1, x2, x3] (.int p1 :: .int p0 :: .ref a :: [w0]) h = if refO h 9 (some (.ref a)) = true then (if (Call M_X9_claps h [.ref a, .int p0, .int p1]).isSome = true then Run M_L_law 1035 [x0, x1, x2, x3] (rL (Call M_X9_claps h [.ref a, .int p0, .int p1]) ++ [w0]) (cH (Call M_X9_claps h [.ref a, .int p0, .int p1])) else none) else none := R_virt d_L_law_1032 rfl rfl rfl rfl rfl (Nat.le_of_ble_eq_true rfl)
theorem d_L_law_1035 : decode (mB M_L_law) 1035 = .ok (.lcmp, 1) := by decide +kernel
theorem r_L_law_1035 {x0 x1 x2 x3 : Value} {x y : Int64} {st : List Value} {h : AH} : Run M_L_law 1035 [x0, x1, x2, x3] (.long y :: .long x :: st) h = Run M_L_law 1036 [x0, x1, x2, x3] (.int (lg_cmp x y) :: st) h := R_lcmp d_L_law_1035
theorem d_L_law_1036 : decode (mB M_L_law) 1036 = .ok (.ifCond .eq 311, 3) := by decide +kernel
theorem r_L_law_1036 {x0 x1 x2 x3 : Value} {x : Int32} {st : List Value} {h : AH} : Run M_L_law 1036 [x0, x1, x2, x3] (.int x :: st) h = if x = nI 0 then Run M_L_law 1347 [x0, x1, x2, x3] st h else Run M_L_law 1039 [x0, x1, x2, x3] st h := R_if_eq d_L_law_1036 (by decide)
theorem d_L_law_1039 : decode (mB M_L_law) 1039 = .ok (.iconst 0, 1) := by decide +kernel
theorem r_L_law_1039 {x0 x1 x2 x3 : Value} {st : List Value} {h : AH} : Run M_L_law 1039 [x0, x1, x2, x3] st h = Run M_L_law 1040 [x0, x1, x2, x3] (.int (nI 0) :: st) h := R_iconst d_L_law_1039 (by decide)
theorem d_L_law_1040 : decode (mB M_L_law) 1040 = .ok (.ireturn, 1) := by decide +kernel
theorem r_L_law_1040_0 {x0 x1 x2 x3 : Value} {h : AH} : Run M_L_law 1040 [x0, x1, x2, x3] [.int (nI 0)] h = some (h, some (.int (nI 0))) := R_ireturn d_L_law_1040 rfl (by decide)
theorem r_L_law_1040_1 {x0 x1 x2 x3 : Value} {h : AH} : Run M_L_law 1040 [x0, x1, x2, x3] [.int (nI 1)] h = some (h, some (.int (nI 1))) := R_ireturn d_L_law_1040 rfl (by decide)
theorem r_L_law_1040_c {x0 x1 x2 x3 : Value} {c : Prop} [Decidable c] {h : AH} : Run M_L_law 1040 [x0, x1, x2, x3] [.int (bI c)] h = some (h, some (.int (bI c))) := R_ireturn d_L_law_1040 rfl narrow_bI
theorem d_L_law_1041 : decode (mB M_L_law) 1041 = .ok (.aload_n 1, 1) := by decide +kernel
theorem r_L_law_1041 {x0 x2 x3 : Value} {a : Nat} {st : List Value} {h : AH} : Run M_L_law 1041 [x0, .ref a, x2, x3] st h = Run M_L_law 1042 [x0, .ref a, x2, x3] (.ref a :: st) h := R_aload_n d_L_law_1041 rfl
theorem d_L_law_1042 : decode (mB M_L_law) 1042 = .ok (.aload_n 0, 1) := by decide +kernel
theorem r_L_law_1042 {x1 x2 x3 : Value} {a : Nat} {st : List Value} {h : AH} : Run M_L_law 1042 [.ref a, x1, x2, x3] st h = Run M_L_law 1043 [.ref a, x1, x2, x3] (.ref a :: st) h := R_aload_n d_L_law_1042 rfl
theorem d_L_law_1043 : decode (mB M_L_law) 1043 = .ok (.iload_n 3, 1) := by decide +kernel
theorem r_L_law_1043 {x0 x1 x2 : Value} {a : Int32} {st : List Value} {h : AH} : Run M_L_law 1043 [x0, x1, x2, .int a] st h = Run M_L_law 1044 [x0, x1, x2, .int a] (.int a :: st) h := R_iload_n d_L_law_1043 rfl
theorem d_L_law_1044 : decode (mB M_L_law) 1044 = .ok (.iconst 1, 1) := by decide +kernel
theorem r_L_law_1044 {x0 x1 x2 x3 : Value} {st : List Value} {h : AH} : Run M_L_law 1044 [x0, x1, x2, x3] st h = Run M_L_law 1045 [x0, x1, x2, x3] (.int (nI 1) :: st) h := R_iconst d_L_law_1044 (by decide)
theorem d_L_law_1045 : decode (mB M_L_law) 1045 = .ok (.iadd, 1) := by decide +kernel
theorem r_L_law_1045 {x0 x1 x2 x3 : Value} {x y : Int32} {st : List Value} {h : AH} : Run M_L_law 1045 [x0, x1, x2, x3] (.int y :: .int x :: st) h = Run M_L_law 1046 [x0, x1, x2, x3] (.int (x + y) :: st) h := R_iadd d_L_law_1045
theorem d_L_law_1046 : decode (mB M_L_law) 1046 = .ok (.iaload, 1) := by decide +kernel
theorem r_L_law_1046 {x0 x1 x2 x3 : Value} {a : Nat} {i : Int32} {st : List Value} {h : AH} : Run M_L_law 1046 [x0, x1, x2, x3] (.int i :: .ref a :: st) h = if (gI 0 h a i).isSome = true then Run M_L_law 1047 [x0, x1, x2, x3] (.int ((gI 0 h a i).getD 0) :: st) h else none := R_iaload d_L_law_1046
theorem d_L_law_1047 : decode (mB M_L_law) 1047 = .ok (.aload_n 0, 1) := by decide +kernel
theorem r_L_law_1047 {x1 x2 x3 : Value} {a : Nat} {st : List Value} {h : AH} : Run M_L_law 1047 [.ref a, x1, x2, x3] st h = Run M_L_law 1048 [.ref a, x1, x2, x3] (.ref a :: st) h := R_aload_n d_L_law_1047 rfl
theorem d_L_law_1048 : decode (mB M_L_law) 1048 = .ok (.iload_n 3, 1) := by decide +kernel
theorem r_L_law_1048 {x0 x1 x2 : Value} {a : Int32} {st : List Value} {h : AH} : Run M_L_law 1048 [x0, x1, x2, .int a] st h = Run M_L_law 1049 [x0, x1, x2, .int a] (.int a :: st) h := R_iload_n d_L_law_1048 rfl
theorem d_L_law_1049 : decode (mB M_L_law) 1049 = .ok (.iconst 2, 1) := by decide +kernel
theorem r_L_law_1049 {x0 x1 x2 x3 : Value} {st : List Value} {h : AH} : Run M_L_law 1049 [x0, x1, x2, x3] st h = Run M_L_law 1050 [x0, x1, x2, x3] (.int (nI 2) :: st) h := R_iconst d_L_law_1049 (by decide)
theorem d_L_law_1050 : decode (mB M_L_law) 1050 = .ok (.iadd, 1) := by decide +kernel
theorem r_L_law_1050 {x0 x1 x2 x3 : Value} {x y : Int32} {st : List Value} {h : AH} : Run M_L_law 1050 [x0, x1, x2, x3] (.int y :: .int x :: st) h = Run M_L_law 1051 [x0, x1, x2, x3] (.int (x + y) :: st) h := R_iadd d_L_law_1050
theorem d_L_law_1051 : decode (mB M_L_law) 1051 = .ok (.iaload, 1) := by decide +kernel
theorem r_L_law_1051 {x0 x1 x2 x3 : Value} {a : Nat} {i : Int32} {st : List Value} {h : AH} : Run M_L_law 1051 [x0, x1, x2, x3] (.int i :: .ref a :: st) h = if (gI 0 h a i).isSome = true then Run M_L_law 1052 [x0, x1, x2, x3] (.int ((gI 0 h a i).getD 0) :: st) h else none := R_iaload d_L_law_1051
theorem d_L_law_1052 : decode (mB M_L_law) 1052 = .ok (.invokevirtual 133, 3) := by decide +kernel
theorem r_L_law_1052 {x0 x1 x2 x3 : Value} {p0 : Int32} {p1 : Int32} {a : Nat} {h : AH} : Run M_L_law 1052 [x0, x1, x2, x3] (.int p1 :: .int p0 :: .ref a :: []) h = if refO h 8 (some (.ref a)) = true then (if (Call M_X8_lost h [.ref a, .int p0, .int p1]).isSome = true then Run M_L_law 1055 [x0, x1, x2, x3] (rL (Call M_X8_lost h [.ref a, .int p0, .int p1]) ++ []) (cH (Call M_X8_lost h [.ref a, .int p0, .int p1])) else none) else none := R_virt d_L_law_1052 rfl rfl rfl rfl rfl (Nat.le_of_ble_eq_true rfl)
theorem d_L_law_1055 : decode (mB M_L_law) 1055 = .ok (.aload_n 2, 1) := by decide +kernel
theorem r_L_law_1055 {x0 x1 x3 : Value} {a : Nat} {st : List Value} {h : AH} : Run M_L_law 1055 [x0, x1, .ref a, x3] st h = Run M_L_law 1056 [x0, x1, .ref a, x3] (.ref a :: st) h := R_aload_n d_L_law_1055 rfl
theorem d_L_law_1056 : decode (mB M_L_law) 1056 = .ok (.aload_n 0, 1) := by decide +kernel
theorem r_L_law_1056 {x1 x2 x3 : Value} {a : Nat} {st : List Value} {h : AH} : Run M_L_law 1056 [.ref a, x1, x2, x3] st h = Run M_L_law 1057 [.ref a, x1, x2, x3] (.ref a :: st) h := R_aload_n d_L_law_1056 rfl
theorem d_L_law_1057 : decode (mB M_L_law) 1057 = .ok (.iload_n 3, 1) := by decide +kernel
theorem r_L_law_1057 {x0 x1 x2 : Value} {a : Int32} {st : List Value} {h : AH} : Run M_L_law 1057 [x0, x1, x2, .int a] st h = Run M_L_law 1058 [x0, x1, x2, .int a] (.int a :: st) h := R_iload_n d_L_law_1057 rfl
theorem d_L_law_1058 : decode (mB M_L_law) 1058 = .ok (.iconst 1, 1) := by decide +kernel
theorem r_L_law_1058 {x0 x1 x2 x3 : Value} {st : List Value} {h : AH} : Run M_L_law 1058 [x0, x1, x2, x3] st h = Run M_L_law 1059 [x0, x1, x2, x3] (.int (nI 1) :: st) h := R_iconst d_L_law_1058 (by decide)
theorem d_L_law_1059 : decode (mB M_L_law) 1059 = .ok (.iadd, 1) := by decide +kernel
theorem r_L_law_1059 {x0 x1 x2 x3 : Value} {x y : Int32} {st : List Value} {h : AH} : Run M_L_law 1059 [x0, x1, x2, x3] (.int y :: .int x :: st) h = Run M_L_law 1060 [x0, x1, x2, x3] (.int (x + y) :: st) h := R_iadd d_L_law_1059
theorem d_L_law_1060 : decode (mB M_L_law) 1060 = .ok (.iaload, 1) := by decide +kernel
theorem r_L_law_1060 {x0 x1 x2 x3 : Value} {a : Nat} {i : Int32} {st : List Value} {h : AH} : Run M_L_law 1060 [x0, x1, x2, x3] (.int i :: .ref a :: st) h = if (gI 0 h a i).isSome = true then Run M_L_law 1061 [x0, x1, x2, x3] (.int ((gI 0 h a i).getD 0) :: st) h else none := R_iaload d_L_law_1060
theorem d_L_law_1061 : decode (mB M_L_law) 1061 = .ok (.aload_n 0, 1) := by decide +kernel
theorem r_L_law_1061 {x1 x2 x3 : Value} {a : Nat} {st : List Value} {h : AH} : Run M_L_law 1061 [.ref a, x1, x2, x3] st h = Run M_L_law 1062 [.ref a, x1, x2, x3] (.ref a :: st) h := R_aload_n d_L_law_1061 rfl
theorem d_L_law_1062 : decode (mB M_L_law) 1062 = .ok (.iload_n 3, 1) := by decide +kernel
theorem r_L_law_1062 {x0 x1 x2 : Value} {a : Int32} {st : List Value} {h : AH} : Run M_L_law 1062 [x0, x1, x2, .int a] st h = Run M_L_law 1063 [x0, x1, x2, .int a] (.int a :: st) h := R_iload_n d_L_law_1062 rfl
theorem d_L_law_1063 : decode (mB M_L_law) 1063 = .ok (.iconst 2, 1) := by decide +kernel
theorem r_L_law_1063 {x0 x1 x2 x3 : Value} {st : List Value} {h : AH} : Run M_L_law 1063 [x0, x1, x2, x3] st h = Run M_L_law 1064 [x0, x1, x2, x3] (.int (nI 2) :: st) h := R_iconst d_L_law_1063 (by decide)
theorem d_L_law_1064 : decode (mB M_L_law) 1064 = .ok (.iadd, 1) := by decide +kernel
theorem r_L_law_1064 {x0 x1 x2 x3 : Value} {x y : Int32} {st : List Value} {h : AH} : Run M_L_law 1064 [x0, x1, x2, x3] (.int y :: .int x :: st) h = Run M_L_law 1065 [x0, x1, x2, x3] (.int (x + y) :: st) h := R_iadd d_L_law_1064
theorem d_L_law_1065 : decode (mB M_L_law) 1065 = .ok (.iaload, 1) := by decide +kernel
theorem r_L_law_1065 {x0 x1 x2 x3 : Value} {a : Nat} {i : Int32} {st : List Value} {h : AH} : Run M_L_law 1065 [x0, x1, x2, x3] (.int i :: .ref a :: st) h = if (gI 0 h a i).isSome = true then Run M_L_law 1066 [x0, x1, x2, x3] (.int ((gI 0 h a i).getD 0) :: st) h else none := R_iaload d_L_law_1065
theorem d_L_law_1066 : decode (mB M_L_law) 1066 = .ok (.invokevirtual 136, 3) := by decide +kernel
theorem r_L_law_1066 {x0 x1 x2 x3 : Value} {p0 : Int32} {p1 : Int32} {a : Nat} {w0 : Value} {h : AH} : Run M_L_law 1066 [x0, x1, x2, x3] (.int p1 :: .int p0 :: .ref a :: [w0]) h = if refO h 9 (some (.ref a)) = true then (if (Call M_X9_lost h [.ref a, .int p0, .int p1]).isSome = true then Run M_L_law 1069 [x0, x1, x2, x3] (rL (Call M_X9_lost h [.ref a, .int p0, .int p1]) ++ [w0]) (cH (Call M_X9_lost h [.ref a, .int p0, .int p1])) else none) else none := R_virt d_L_law_1066 rfl rfl rfl rfl rfl (Nat.le_of_ble_eq_true rfl)
theorem d_L_law_1069 : decode (mB M_L_law) 1069 = .ok (.if_icmp .eq 278, 3) := by decide +kernel
theorem r_L_law_1069 {x0 x1 x2 x3 : Value} {x y : Int32} {st : List Value} {h : AH} : Run M_L_law 1069 [x0, x1, x2, x3] (.int y :: .int x :: st) h = if x = y then Run M_L_law 1347 [x0, x1, x2, x3] st h else Run M_L_law 1072 [x0, x1, x2, x3] st h := R_icmp_eq d_L_law_1069 (by decide)
theorem d_L_law_1072 : decode (mB M_L_law) 1072 = .ok (.iconst 0, 1) := by decide +kernel
theorem r_L_law_1072 {x0 x1 x2 x3 : Value} {st : List Value} {h : AH} : Run M_L_law 1072 [x0, x1, x2, x3] st h = Run M_L_law 1073 [x0, x1, x2, x3] (.int (nI 0) :: st) h := R_iconst d_L_law_1072 (by decide)
theorem d_L_law_1073 : decode (mB M_L_law) 1073 = .ok (.ireturn, 1) := by decide +kernel
theorem r_L_law_1073_0 {x0 x1 x2 x3 : Value} {h : AH} : Run M_L_law 1073 [x0, x1, x2, x3] [.int (nI 0)] h = some (h, some (.int (nI 0))) := R_ireturn d_L_law_1073 rfl (by decide)
theorem r_L_law_1073_1 {x0 x1 x2 x3 : Value} {h : AH} : Run M_L_law 1073 [x0, x1, x2, x3] [.int (nI 1)] h = some (h, some (.int (nI 1))) := R_ireturn d_L_law_1073 rfl (by decide)
theorem r_L_law_1073_c {x0 x1 x2 x3 : Value} {c : Prop} [Decidable c] {h : AH} : Run M_L_law 1073 [x0, x1, x2, x3] [.int (bI c)] h = some (h, some (.int (bI c))) := R_ireturn d_L_law_1073 rfl narrow_bI
theorem d_L_law_1074 : decode (mB M_L_law) 1074 = .ok (.aload_n 1, 1) := by decide +kernel
theorem r_L_law_1074 {x0 x2 x3 : Value} {a : Nat} {st : List Value} {h : AH} : Run M_L_law 1074 [x0, .ref a, x2, x3] st h = Run M_L_law 1075 [x0, .ref a, x2, x3] (.ref a :: st) h := R_aload_n d_L_law_1074 rfl
theorem d_L_law_1075 : decode (mB M_L_law) 1075 = .ok (.aload_n 0, 1) := by decide +kernel
theorem r_L_law_1075 {x1 x2 x3 : Value} {a : Nat} {st : List Value} {h : AH} : Run M_L_law 1075 [.ref a, x1, x2, x3] st h = Run M_L_law 1076 [.ref a, x1, x2, x3] (.ref a :: st) h := R_aload_n d_L_law_1075 rfl
theorem d_L_law_1076 : decode (mB M_L_law) 1076 = .ok (.iload_n 3, 1) := by decide +kernel
theorem r_L_law_1076 {x0 x1 x2 : Value} {a : Int32} {st : List Value} {h : AH} : Run M_L_law 1076 [x0, x1, x2, .int a] st h = Run M_L_law 1077 [x0, x1, x2, .int a] (.int a :: st) h := R_iload_n d_L_law_1076 rfl
theorem d_L_law_1077 : decode (mB M_L_law) 1077 = .ok (.iconst 1, 1) := by decide +kernel
theorem r_L_law_1077 {x0 x1 x2 x3 : Value} {st : List Value} {h : AH} : Run M_L_law 1077 [x0, x1, x2, x3] st h = Run M_L_law 1078 [x0, x1, x2, x3] (.int (nI 1) :: st) h := R_iconst d_L_law_1077 (by decide)
theorem d_L_law_1078 : decode (mB M_L_law) 1078 = .ok (.iadd, 1) := by decide +kernel
theorem r_L_law_1078 {x0 x1 x2 x3 : Value} {x y : Int32} {st : List Value} {h : AH} : Run M_L_law 1078 [x0, x1, x2, x3] (.int y :: .int x :: st) h = Run M_L_law 1079 [x0, x1, x2, x3] (.int (x + y) :: st) h := R_iadd d_L_law_1078
theorem d_L_law_1079 : decode (mB M_L_law) 1079 = .ok (.iaload, 1) := by decide +kernel
theorem r_L_law_1079 {x0 x1 x2 x3 : Value} {a : Nat} {i : Int32} {st : List Value} {h : AH} : Run M_L_law 1079 [x0, x1, x2, x3] (.int i :: .ref a :: st) h = if (gI 0 h a i).isSome = true then Run M_L_law 1080 [x0, x1, x2, x3] (.int ((gI 0 h a i).getD 0) :: st) h else none := R_iaload d_L_law_1079
theorem d_L_law_1080 : decode (mB M_L_law) 1080 = .ok (.aload_n 0, 1) := by decide +kernel
theorem r_L_law_1080 {x1 x2 x3 : Value} {a : Nat} {st : List Value} {h : AH} : Run M_L_law 1080 [.ref a, x1, x2, x3] st h = Run M_L_law 1081 [.ref a, x1, x2, x3] (.ref a :: st) h := R_aload_n d_L_law_1080 rfl
theorem d_L_law_1081 : decode (mB M_L_law) 1081 = .ok (.iload_n 3, 1) := by decide +kernel
theorem r_L_law_1081 {x0 x1 x2 : Value} {a : Int32} {st : List Value} {h : AH} : Run M_L_law 1081 [x0, x1, x2, .int a] st h = Run M_L_law 1082 [x0, x1, x2, .int a] (.int a :: st) h := R_iload_n d_L_law_1081 rfl
theorem d_L_law_1082 : decode (mB M_L_law) 1082 = .ok (.iconst 2, 1) := by decide +kernel
theorem r_L_law_1082 {x0 x1 x2 x3 : Value} {st : List Value} {h : AH} : Run M_L_law 1082 [x0, x1, x2, x3] st h = Run M_L_law 1083 [x0, x1, x2, x3] (.int (nI 2) :: st) h := R_iconst d_L_law_1082 (by decide)
theorem d_L_law_1083 : decode (mB M_L_law) 1083 = .ok (.iadd, 1) := by decide +kernel
theorem r_L_law_1083 {x0 x1 x2 x3 : Value} {x y : Int32} {st : List Value} {h : AH} : Run M_L_law 1083 [x0, x1, x2, x3] (.int y :: .int x :: st) h = Run M_L_law 1084 [x0, x1, x2, x3] (.int (x + y) :: st) h := R_iadd d_L_law_1083
theorem d_L_law_1084 : decode (mB M_L_law) 1084 = .ok (.iaload, 1) := by decide +kernel
theorem r_L_law_1084 {x0 x1 x2 x3 : Value} {a : Nat} {i : Int32} {st : List Value} {h : AH} : Run M_L_law 1084 [x0, x1, x2, x3] (.int i :: .ref a :: st) h = if (gI 0 h a i).isSome = true then Run M_L_law 1085 [x0, x1, x2, x3] (.int ((gI 0 h a i).getD 0) :: st) h else none := R_iaload d_L_law_1084
theorem d_L_law_1085 : decode (mB M_L_law) 1085 = .ok (.invokevirtual 137, 3) := by decide +kernel
theorem r_L_law_1085 {x0 x1 x2 x3 : Value} {p0 : Int32} {p1 : Int32} {a : Nat} {h : AH} : Run M_L_law 1085 [x0, x1, x2, x3] (.int p1 :: .int p0 :: .ref a :: []) h = if refO h 8 (some (.ref a)) = true then (if (Call M_X8_help h [.ref a, .int p0, .int p1]).isSome = true then Run M_L_law 1088 [x0, x1, x2, x3] (rL (Call M_X8_help h [.ref a, .int p0, .int p1]) ++ []) (cH (Call M_X8_help h [.ref a, .int p0, .int p1])) else none) else none := R_virt d_L_law_1085 rfl rfl rfl rfl rfl (Nat.le_of_ble_eq_true rfl)
theorem d_L_law_1088 : decode (mB M_L_law) 1088 = .ok (.aload_n 2, 1) := by decide +kernel
theorem r_L_law_1088 {x0 x1 x3 : Value} {a : Nat} {st : List Value} {h : AH} : Run M_L_law 1088 [x0, x1, .ref a, x3] st h = Run M_L_law 1089 [x0, x1, .ref a, x3] (.ref a :: st) h := R_aload_n d_L_law_1088 rfl
theorem d_L_law_1089 : decode (mB M_L_law) 1089 = .ok (.aload_n 0, 1) := by decide +kernel
theorem r_L_law_1089 {x1 x2 x3 : Value} {a : Nat} {st : List Value} {h : AH} : Run M_L_law 1089 [.ref a, x1, x2, x3] st h = Run M_L_law 1090 [.ref a, x1, x2, x3] (.ref a :: st) h := R_aload_n d_L_law_1089 rfl
theorem d_L_law_1090 : decode (mB M_L_law) 1090 = .ok (.iload_n 3, 1) := by decide +kernel
theorem r_L_law_1090 {x0 x1 x2 : Value} {a : Int32} {st : List Value} {h : AH} : Run M_L_law 1090 [x0, x1, x2, .int a] st h = Run M_L_law 1091 [x0, x1, x2, .int a] (.int a :: st) h := R_iload_n d_L_law_1090 rfl
theorem d_L_law_1091 : decode (mB M_L_law) 1091 = .ok (.iconst 1, 1) := by decide +kernel
theorem r_L_law_1091 {x0 x1 x2 x3 : Value} {st : List Value} {h : AH} : Run M_L_law 1091 [x0, x1, x2, x3] st h = Run M_L_law 1092 [x0, x1, x2, x3] (.int (nI 1) :: st) h := R_iconst d_L_law_1091 (by decide)
theorem d_L_law_1092 : decode (mB M_L_law) 1092 = .ok (.iadd, 1) := by decide +kernel
theorem r_L_law_1092 {x0 x1 x2 x3 : Value} {x y : Int32} {st : List Value} {h : AH} : Run M_L_law 1092 [x0, x1, x2, x3] (.int y :: .int x :: st) h = Run M_L_law 1093 [x0, x1, x2, x3] (.int (x + y) :: st) h := R_iadd d_L_law_1092
theorem d_L_law_1093 : decode (mB M_L_law) 1093 = .ok (.iaload, 1) := by decide +kernel
theorem r_L_law_1093 {x0 x1 x2 x3 : Value} {a : Nat} {i : Int32} {st : List Value} {h : AH} : Run M_L_law 1093 [x0, x1, x2, x3] (.int i :: .ref a :: st) h = if (gI 0 h a i).isSome = true then Run M_L_law 1094 [x0, x1, x2, x3] (.int ((gI 0 h a i).getD 0) :: st) h else none := R_iaload d_L_law_1093
theorem d_L_law_1094 : decode (mB M_L_law) 1094 = .ok (.aload_n 0, 1) := by decide +kernel
theorem r_L_law_1094 {x1 x2 x3 : Value} {a : Nat} {st : List Value} {h : AH} : Run M_L_law 1094 [.ref a, x1, x2, x3] st h = Run M_L_law 1095 [.ref a, x1, x2, x3] (.ref a :: st) h := R_aload_n d_L_law_1094 rfl
theorem d_L_law_1095 : decode (mB M_L_law) 1095 = .ok (.iload_n 3, 1) := by decide +kernel
theorem r_L_law_1095 {x0 x1 x2 : Value} {a : Int32} {st : List Value} {h : AH} : Run M_L_law 1095 [x0, x1, x2, .int a] st h = Run M_L_law 1096 [x0, x1, x2, .int a] (.int a :: st) h := R_iload_n d_L_law_1095 rfl
theorem d_L_law_1096 : decode (mB M_L_law) 1096 = .ok (.iconst 2, 1) := by decide +kernel
theorem r_L_law_1096 {x0 x1 x2 x3 : Value} {st : List Value} {h : AH} : Run M_L_law 1096 [x0, x1, x2, x3] st h = Run M_L_law 1097 [x0, x1, x2, x3] (.int (nI 2) :: st) h := R_iconst d_L_law_1096 (by decide)
theorem d_L_law_1097 : decode (mB M_L_law) 1097 = .ok (.iadd, 1) := by decide +kernel
theorem r_L_law_1097 {x0 x1 x2 x3 : Value} {x y : Int32} {st : List Value} {h : AH} : Run M_L_law 1097 [x0, x1, x2, x3] (.int y :: .int x :: st) h = Run M_L_law 1098 [x0, x1, x2, x3] (.int (x + y) :: st) h := R_iadd d_L_law_1097
theorem d_L_law_1098 : decode (mB M_L_law) 1098 = .ok (.iaload, 1) := by decide +kernel
theorem r_L_law_1098 {x0 x1 x2 x3 : Value} {a : Nat} {i : Int32} {st : List Value} {h : AH} : Run M_L_law 1098 [x0, x1, x2, x3] (.int i :: .ref a :: st) h = if (gI 0 h a i).isSome = true then Run M_L_law 1099 [x0, x1, x2, x3] (.int ((gI 0 h a i).getD 0) :: st) h else none := R_iaload d_L_law_1098
theorem d_L_law_1099 : decode (mB M_L_law) 1099 = .ok (.invokevirtual 140, 3) := by decide +kernel
theorem r_L_law_1099 {x0 x1 x2 x3 : Value} {p0 : Int32} {p1 : Int32} {a : Nat} {w0 : Value} {h : AH} : Run M_L_law 1099 [x0, x1, x2, x3] (.int p1 :: .int p0 :: .ref a :: [w0]) h = if refO h 9 (some (.ref a)) = true then (if (Call M_X9_help h [.ref a, .int p0, .int p1]).isSome = true then Run M_L_law 1102 [x0, x1, x2, x3] (rL (Call M_X9_help h [.ref a, .int p0, .int p1]) ++ [w0]) (cH (Call M_X9_help h [.ref a, .int p0, .int p1])) else none) else none := R_virt d_L_law_1099 rfl rfl rfl rfl rfl (Nat.le_of_ble_eq_true rfl)
theorem d_L_law_1102 : decode (mB M_L_law) 1102 = .ok (.if_icmp .eq 245, 3) := by decide +kernel
theorem r_L_law_1102 {x0 x1 x2 x3 : Value} {x y : Int32} {st : List Value} {h : AH} : Run M_L_law 1102 [x0, x1, x2, x3] (.int y :: .int x :: st) h = if x = y then Run M_L_law 1347 [x0, x1, x2, x3] st h else Run M_L_law 1105 [x0, x1, x2, x3] st h := R_icmp_eq d_L_law_1102 (by decide)
theorem d_L_law_1105 : decode (mB M_L_law) 1105 = .ok (.iconst 0, 1) := by decide +kernel
theorem r_L_law_1105 {x0 x1 x2 x3 : Value} {st : List Value} {h : AH} : Run M_L_law 1105 [x0, x1, x2, x3] st h = Run M_L_law 1106 [x0, x1, x2, x3] (.int (nI 0) :: st) h := R_iconst d_L_law_1105 (by decide)
theorem d_L_law_1106 : decode (mB M_L_law) 1106 = .ok (.ireturn, 1) := by decide +kernel
theorem r_L_law_1106_0 {x0 x1 x2 x3 : Value} {h : AH} : Run M_L_law 1106 [x0, x1, x2, x3] [.int (nI 0)] h = some (h, some (.int (nI 0))) := R_ireturn d_L_law_1106 rfl (by decide)
theorem r_L_law_1106_1 {x0 x1 x2 x3 : Value} {h : AH} : Run M_L_law 1106 [x0, x1, x2, x3] [.int (nI 1)] h = some (h, some (.int (nI 1))) := R_ireturn d_L_law_1106 rfl (by decide)
theorem r_L_law_1106_c {x0 x1 x2 x3 : Value} {c : Prop} [Decidable c] {h : AH} : Run M_L_law 1106 [x0, x1, x2, x3] [.int (bI c)] h = some (h, some (.int (bI c))) := R_ireturn d_L_law_1106 rfl narrow_bI
theorem d_L_law_1107 : decode (mB M_L_law) 1107 = .ok (.aload_n 1, 1) := by decide +kernel
theorem r_L_law_1107 {x0 x2 x3 : Value} {a : Nat} {st : List Value} {h : AH} : Run M_L_law 1107 [x0, .ref a, x2, x3] st h = Run M_L_law 1108 [x0, .ref a, x2, x3] (.ref a :: st) h := R_aload_n d_L_law_1107 rfl
theorem d_L_law_1108 : decode (mB M_L_law) 1108 = .ok (.aload_n 0, 1) := by decide +kernel
theorem r_L_law_1108 {x1 x2 x3 : Value} {a : Nat} {st : List Value} {h : AH} : Run M_L_law 1108 [.ref a, x1, x2, x3] st h = Run M_L_law 1109 [.ref a, x1, x2, x3] (.ref a :: st) h := R_aload_n d_L_law_1108 rfl
theorem d_L_law_1109 : decode (mB M_L_law) 1109 = .ok (.iload_n 3, 1) := by decide +kernel
theorem r_L_law_1109 {x0 x1 x2 : Value} {a : Int32} {st : List Value} {h : AH} : Run M_L_law 1109 [x0, x1, x2, .int a] st h = Run M_L_law 1110 [x0, x1, x2, .int a] (.int a :: st) h := R_iload_n d_L_law_1109 rfl
theorem d_L_law_1110 : decode (mB M_L_law) 1110 = .ok (.iconst 1, 1) := by decide +kernel
theorem r_L_law_1110 {x0 x1 x2 x3 : Value} {st : List Value} {h : AH} : Run M_L_law 1110 [x0, x1, x2, x3] st h = Run M_L_law 1111 [x0, x1, x2, x3] (.int (nI 1) :: st) h := R_iconst d_L_law_1110 (by decide)
theorem d_L_law_1111 : decode (mB M_L_law) 1111 = .ok (.iadd, 1) := by decide +kernel
theorem r_L_law_1111 {x0 x1 x2 x3 : Value} {x y : Int32} {st : List Value} {h : AH} : Run M_L_law 1111 [x0, x1, x2, x3] (.int y :: .int x :: st) h = Run M_L_law 1112 [x0, x1, x2, x3] (.int (x + y) :: st) h := R_iadd d_L_law_1111
theorem d_L_law_1112 : decode (mB M_L_law) 1112 = .ok (.iaload, 1) := by decide +kernel
theorem r_L_law_1112 {x0 x1 x2 x3 : Value} {a : Nat} {i : Int32} {st : List Value} {h : AH} : Run M_L_law 1112 [x0, x1, x2, x3] (.int i :: .ref a :: st) h = if (gI 0 h a i).isSome = true then Run M_L_law 1113 [x0, x1, x2, x3] (.int ((gI 0 h a i).getD 0) :: st) h else none := R_iaload d_L_law_1112
theorem d_L_law_1113 : decode (mB M_L_law) 1113 = .ok (.aload_n 0, 1) := by decide +kernel
theorem r_L_law_1113 {x1 x2 x3 : Value} {a : Nat} {st : List Value} {h : AH} : Run M_L_law 1113 [.ref a, x1, x2, x3] st h = Run M_L_law 1114 [.ref a, x1, x2, x3] (.ref a :: st) h := R_aload_n d_L_law_1113 rfl
theorem d_L_law_1114 : decode (mB M_L_law) 1114 = .ok (.iload_n 3, 1) := by decide +kernel
theorem r_L_law_1114 {x0 x1 x2 : Value} {a : Int32} {st : List Value} {h : AH} : Run M_L_law 1114 [x0, x1, x2, .int a] st h = Run M_L_law 1115 [x0, x1, x2, .int a] (.int a :: st) h := R_iload_n d_L_law_1114 rfl
theorem d_L_law_1115 : decode (mB M_L_law) 1115 = .ok (.iconst 2, 1) := by decide +kernel
theorem r_L_law_1115 {x0 x1 x2 x3 : Value} {st : List Value} {h : AH} : Run M_L_law 1115 [x0, x1, x2, x3] st h = Run M_L_law 1116 [x0, x1, x2, x3] (.int (nI 2) :: st) h := R_iconst d_L_law_1115 (by decide)
theorem d_L_law_1116 : decode (mB M_L_law) 1116 = .ok (.iadd, 1) := by decide +kernel
theorem r_L_law_1116 {x0 x1 x2 x3 : Value} {x y : Int32} {st : List Value} {h : AH} : Run M_L_law 1116 [x0, x1, x2, x3] (.int y :: .int x :: st) h = Run M_L_law 1117 [x0, x1, x2, x3] (.int (x + y) :: st) h := R_iadd d_L_law_1116
theorem d_L_law_1117 : decode (mB M_L_law) 1117 = .ok (.iaload, 1) := by decide +kernel
theorem r_L_law_1117 {x0 x1 x2 x3 : Value} {a : Nat} {i : Int32} {st : List Value} {h : AH} : Run M_L_law 1117 [x0, x1, x2, x3] (.int i :: .ref a :: st) h = if (gI 0 h a i).isSome = true then Run M_L_law 1118 [x0, x1, x2, x3] (.int ((gI 0 h a i).getD 0) :: st) h else none := R_iaload d_L_law_1117
theorem d_L_law_1118 : decode (mB M_L_law) 1118 = .ok (.invokevirtual 141, 3) := by decide +kernel
theorem r_L_law_1118 {x0 x1 x2 x3 : Value} {p0 : Int32} {p1 : Int32} {a : Nat} {h : AH} : Run M_L_law 1118 [x0, x1, x2, x3] (.int p1 :: .int p0 :: .ref a :: []) h = if refO h 8 (some (.ref a)) = true then (if (Call M_X8_out h [.ref a, .int p0, .int p1]).isSome = true then Run M_L_law 1121 [x0, x1, x2, x3] (rL (Call M_X8_out h [.ref a, .int p0, .int p1]) ++ []) (cH (Call M_X8_out h [.ref a, .int p0, .int p1])) else none) else none := R_virt d_L_law_1118 rfl rfl rfl rfl rfl (Nat.le_of_ble_eq_true rfl)
theorem d_L_law_1121 : decode (mB M_L_law) 1121 = .ok (.aload_n 2, 1) := by decide +kernel
theorem r_L_law_1121 {x0 x1 x3 : Value} {a : Nat} {st : List Value} {h : AH} : Run M_L_law 1121 [x0, x1, .ref a, x3] st h = Run M_L_law 1122 [x0, x1, .ref a, x3] (.ref a :: st) h := R_aload_n d_L_law_1121 rfl
theorem d_L_law_1122 : decode (mB M_L_law) 1122 = .ok (.aload_n 0, 1) := by decide +kernel
theorem r_L_law_1122 {x1 x2 x3 : Value} {a : Nat} {st : List Value} {h : AH} : Run M_L_law 1122 [.ref a, x1, x2, x3] st h = Run M_L_law 1123 [.ref a, x1, x2, x3] (.ref a :: st) h := R_aload_n d_L_law_1122 rfl
theorem d_L_law_1123 : decode (mB M_L_law) 1123 = .ok (.iload_n 3, 1) := by decide +kernel
theorem r_L_law_1123 {x0 x1 x2 : Value} {a : Int32} {st : List Value} {h : AH} : Run M_L_law 1123 [x0, x1, x2, .int a] st h = Run M_L_law 1124 [x0, x1, x2, .int a] (.int a :: st) h := R_iload_n d_L_law_1123 rfl
theorem d_L_law_1124 : decode (mB M_L_law) 1124 = .ok (.iconst 1, 1) := by decide +kernel
theorem r_L_law_1124 {x0 x1 x2 x3 : Value} {st : List Value} {h : AH} : Run M_L_law 1124 [x0, x1, x2, x3] st h = Run M_L_law 1125 [x0, x1, x2, x3] (.int (nI 1) :: st) h := R_iconst d_L_law_1124 (by decide)
theorem d_L_law_1125 : decode (mB M_L_law) 1125 = .ok (.iadd, 1) := by decide +kernel
theorem r_L_law_1125 {x0 x1 x2 x3 : Value} {x y : Int32} {st : List Value} {h : AH} : Run M_L_law 1125 [x0, x1, x2, x3] (.int y :: .int x :: st) h = Run M_L_law 1126 [x0, x1, x2, x3] (.int (x + y) :: st) h := R_iadd d_L_law_1125
theorem d_L_law_1126 : decode (mB M_L_law) 1126 = .ok (.iaload, 1) := by decide +kernel
theorem r_L_law_1126 {x0 x1 x2 x3 : Value} {a : Nat} {i : Int32} {st : List Value} {h : AH} : Run M_L_law 1126 [x0, x1, x2, x3] (.int i :: .ref a :: st) h = if (gI 0 h a i).isSome = true then Run M_L_law 1127 [x0, x1, x2, x3] (.int ((gI 0 h a i).getD 0) :: st) h else none := R_iaload d_L_law_1126
theorem d_L_law_1127 : decode (mB M_L_law) 1127 = .ok (.aload_n 0, 1) := by decide +kernel
theorem r_L_law_1127 {x1 x2 x3 : Value} {a : Nat} {st : List Value} {h : AH} : Run M_L_law 1127 [.ref a, x1, x2, x3] st h = Run M_L_law 1128 [.ref a, x1, x2, x3] (.ref a :: st) h := R_aload_n d_L_law_1127 rfl
theorem d_L_law_1128 : decode (mB M_L_law) 1128 = .ok (.iload_n 3, 1) := by decide +kernel
theorem r_L_law_1128 {x0 x1 x2 : Value} {a : Int32} {st : List Value} {h : AH} : Run M_L_law 1128 [x0, x1, x2, .int a] st h = Run M_L_law 1129 [x0, x1, x2, .int a] (.int a :: st) h := R_iload_n d_L_law_1128 rfl
theorem d_L_law_1129 : decode (mB M_L_law) 1129 = .ok (.iconst 2, 1) := by decide +kernel
theorem r_L_law_1129 {x0 x1 x2 x3 : Value} {st : List Value} {h : AH} : Run M_L_law 1129 [x0, x1, x2, x3] st h = Run M_L_law 1130 [x0, x1, x2, x3] (.int (nI 2) :: st) h := R_iconst d_L_law_1129 (by decide)
theorem d_L_law_1130 : decode (mB M_L_law) 1130 = .ok (.iadd, 1) := by decide +kernel
theorem r_L_law_1130 {x0 x1 x2 x3 : Value} {x y : Int32} {st : List Value} {h : AH} : Run M_L_law 1130 [x0, x1, x2, x3] (.int y :: .int x :: st) h = Run M_L_law 1131 [x0, x1, x2, x3] (.int (x + y) :: st) h := R_iadd d_L_law_1130
theorem d_L_law_1131 : decode (mB M_L_law) 1131 = .ok (.iaload, 1) := by decide +kernel
theorem r_L_law_1131 {x0 x1 x2 x3 : Value} {a : Nat} {i : Int32} {st : List Value} {h : AH} : Run M_L_law 1131 [x0, x1, x2, x3] (.int i :: .ref a :: st) h = if (gI 0 h a i).isSome = true then Run M_L_law 1132 [x0, x1, x2, x3] (.int ((gI 0 h a i).getD 0) :: st) h else none := R_iaload d_L_law_1131
theorem d_L_law_1132 : decode (mB M_L_law) 1132 = .ok (.invokevirtual 144, 3) := by decide +kernel
theorem r_L_law_1132 {x0 x1 x2 x3 : Value} {p0 : Int32} {p1 : Int32} {a : Nat} {w0 : Value} {h : AH} : Run M_L_law 1132 [x0, x1, x2, x3] (.int p1 :: .int p0 :: .ref a :: [w0]) h = if refO h 9 (some (.ref a)) = true then (if (Call M_X9_out h [.ref a, .int p0, .int p1]).isSome = true then Run M_L_law 1135 [x0, x1, x2, x3] (rL (Call M_X9_out h [.ref a, .int p0, .int p1]) ++ [w0]) (cH (Call M_X9_out h [.ref a, .int p0, .int p1])) else none) else none := R_virt d_L_law_1132 rfl rfl rfl rfl rfl (Nat.le_of_ble_eq_true rfl)
theorem d_L_law_1135 : decode (mB M_L_law) 1135 = .ok (.if_icmp .eq 212, 3) := by decide +kernel
theorem r_L_law_1135 {x0 x1 x2 x3 : Value} {x y : Int32} {st : List Value} {h : AH} : Run M_L_law 1135 [x0, x1, x2, x3] (.int y :: .int x :: st) h = if x = y then Run M_L_law 1347 [x0, x1, x2, x3] st h else Run M_L_law 1138 [x0, x1, x2, x3] st h := R_icmp_eq d_L_law_1135 (by decide)
theorem d_L_law_1138 : decode (mB M_L_law) 1138 = .ok (.iconst 0, 1) := by decide +kernel
theorem r_L_law_1138 {x0 x1 x2 x3 : Value} {st : List Value} {h : AH} : Run M_L_law 1138 [x0, x1, x2, x3] st h = Run M_L_law 1139 [x0, x1, x2, x3] (.int (nI 0) :: st) h := R_iconst d_L_law_1138 (by decide)
theorem d_L_law_1139 : decode (mB M_L_law) 1139 = .ok (.ireturn, 1) := by decide +kernel
theorem r_L_law_1139_0 {x0 x1 x2 x3 : Value} {h : AH} : Run M_L_law 1139 [x0, x1, x2, x3] [.int (nI 0)] h = some (h, some (.int (nI 0))) := R_ireturn d_L_law_1139 rfl (by decide)
theorem r_L_law_1139_1 {x0 x1 x2 x3 : Value} {h : AH} : Run M_L_law 1139 [x0, x1, x2, x3] [.int (nI 1)] h = some (h, some (.int (nI 1))) := R_ireturn d_L_law_1139 rfl (by decide)
theorem r_L_law_1139_c {x0 x1 x2 x3 : Value} {c : Prop} [Decidable c] {h : AH} : Run M_L_law 1139 [x0, x1, x2, x3] [.int (bI c)] h = some (h, some (.int (bI c))) := R_ireturn d_L_law_1139 rfl narrow_bI
theorem d_L_law_1140 : decode (mB M_L_law) 1140 = .ok (.aload_n 1, 1) := by decide +kernel
theorem r_L_law_1140 {x0 x2 x3 : Value} {a : Nat} {st : List Value} {h : AH} : Run M_L_law 1140 [x0, .ref a, x2, x3] st h = Run M_L_law 1141 [x0, .ref a, x2, x3] (.ref a :: st) h := R_aload_n d_L_law_1140 rfl
theorem d_L_law_1141 : decode (mB M_L_law) 1141 = .ok (.aload_n 0, 1) := by decide +kernel
theorem r_L_law_1141 {x1 x2 x3 : Value} {a : Nat} {st : List Value} {h : AH} : Run M_L_law 1141 [.ref a, x1, x2, x3] st h = Run M_L_law 1142 [.ref a, x1, x2, x3] (.ref a :: st) h := R_aload_n d_L_law_1141 rfl
theorem d_L_law_1142 : decode (mB M_L_law) 1142 = .ok (.iload_n 3, 1) := by decide +kernel
theorem r_L_law_1142 {x0 x1 x2 : Value} {a : Int32} {st : List Value} {h : AH} : Run M_L_law 1142 [x0, x1, x2, .int a] st h = Run M_L_law 1143 [x0, x1, x2, .int a] (.int a :: st) h := R_iload_n d_L_law_1142 rfl
theorem d_L_law_1143 : decode (mB M_L_law) 1143 = .ok (.iconst 1, 1) := by decide +kernel
theorem r_L_law_1143 {x0 x1 x2 x3 : Value} {st : List Value} {h : AH} : Run M_L_law 1143 [x0, x1, x2, x3] st h = Run M_L_law 1144 [x0, x1, x2, x3] (.int (nI 1) :: st) h := R_iconst d_L_law_1143 (by decide)
theorem d_L_law_1144 : decode (mB M_L_law) 1144 = .ok (.iadd, 1) := by decide +kernel
theorem r_L_law_1144 {x0 x1 x2 x3 : Value} {x y : Int32} {st : List Value} {h : AH} : Run M_L_law 1144 [x0, x1, x2, x3] (.int y :: .int x :: st) h = Run M_L_law 1145 [x0, x1, x2, x3] (.int (x + y) :: st) h := R_iadd d_L_law_1144
theorem d_L_law_1145 : decode (mB M_L_law) 1145 = .ok (.iaload, 1) := by decide +kernel
theorem r_L_law_1145 {x0 x1 x2 x3 : Value} {a : Nat} {i : Int32} {st : List Value} {h : AH} : Run M_L_law 1145 [x0, x1, x2, x3] (.int i :: .ref a :: st) h = if (gI 0 h a i).isSome = true then Run M_L_law 1146 [x0, x1, x2, x3] (.int ((gI 0 h a i).getD 0) :: st) h else none := R_iaload d_L_law_1145
theorem d_L_law_1146 : decode (mB M_L_law) 1146 = .ok (.aload_n 0, 1) := by decide +kernel
theorem r_L_law_1146 {x1 x2 x3 : Value} {a : Nat} {st : List Value} {h : AH} : Run M_L_law 1146 [.ref a, x1, x2, x3] st h = Run M_L_law 1147 [.ref a, x1, x2, x3] (.ref a :: st) h := R_aload_n d_L_law_1146 rfl
theorem d_L_law_1147 : decode (mB M_L_law) 1147 = .ok (.iload_n 3, 1) := by decide +kernel
theorem r_L_law_1147 {x0 x1 x2 : Value} {a : Int32} {st : List Value} {h : AH} : Run M_L_law 1147 [x0, x1, x2, .int a] st h = Run M_L_law 1148 [x0, x1, x2, .int a] (.int a :: st) h := R_iload_n d_L_law_1147 rfl
theorem d_L_law_1148 : decode (mB M_L_law) 1148 = .ok (.iconst 2, 1) := by decide +kernel
theorem r_L_law_1148 {x0 x1 x2 x3 : Value} {st : List Value} {h : AH} : Run M_L_law 1148 [x0, x1, x2, x3] st h = Run M_L_law 1149 [x0, x1, x2, x3] (.int (nI 2) :: st) h := R_iconst d_L_law_1148 (by decide)
theorem d_L_law_1149 : decode (mB M_L_law) 1149 = .ok (.iadd, 1) := by decide +kernel
theorem r_L_law_1149 {x0 x1 x2 x3 : Value} {x y : Int32} {st : List Value} {h : AH} : Run M_L_law 1149 [x0, x1, x2, x3] (.int y :: .int x :: st) h = Run M_L_law 1150 [x0, x1, x2, x3] (.int (x + y) :: st) h := R_iadd d_L_law_1149
theorem d_L_law_1150 : decode (mB M_L_law) 1150 = .ok (.iaload, 1) := by decide +kernel
theorem r_L_law_1150 {x0 x1 x2 x3 : Value} {a : Nat} {i : Int32} {st : List Value} {h : AH} : Run M_L_law 1150 [x0, x1, x2, x3] (.int i :: .ref a :: st) h = if (gI 0 h a i).isSome = true then Run M_L_law 1151 [x0, x1, x2, x3] (.int ((gI 0 h a i).getD 0) :: st) h else none := R_iaload d_L_law_1150
theorem d_L_law_1151 : decode (mB M_L_law) 1151 = .ok (.invokevirtual 145, 3) := by decide +kernel
theorem r_L_law_1151 {x0 x1 x2 x3 : Value} {p0 : Int32} {p1 : Int32} {a : Nat} {h : AH} : Run M_L_law 1151 [x0, x1, x2, x3] (.int p1 :: .int p0 :: .ref a :: []) h = if refO h 8 (some (.ref a)) = true then (if (Call M_X8_enter h [.ref a, .int p0, .int p1]).isSome = true then Run M_L_law 1154 [x0, x1, x2, x3] (rL (Call M_X8_enter h [.ref a, .int p0, .int p1]) ++ []) (cH (Call M_X8_enter h [.ref a, .int p0, .int p1])) else none) else none := R_virt d_L_law_1151 rfl rfl rfl rfl rfl (Nat.le_of_ble_eq_true rfl)
theorem d_L_law_1154 : decode (mB M_L_law) 1154 = .ok (.aload_n 2, 1) := by decide +kernel
theorem r_L_law_1154 {x0 x1 x3 : Value} {a : Nat} {st : List Value} {h : AH} : Run M_L_law 1154 [x0, x1, .ref a, x3] st h = Run M_L_law 1155 [x0, x1, .ref a, x3] (.ref a :: st) h := R_aload_n d_L_law_1154 rfl
theorem d_L_law_1155 : decode (mB M_L_law) 1155 = .ok (.aload_n 0, 1) := by decide +kernel
theorem r_L_law_1155 {x1 x2 x3 : Value} {a : Nat} {st : List Value} {h : AH} : Run M_L_law 1155 [.ref a, x1, x2, x3] st h = Run M_L_law 1156 [.ref a, x1, x2, x3] (.ref a :: st) h := R_aload_n d_L_law_1155 rfl
theorem d_L_law_1156 : decode (mB M_L_law) 1156 = .ok (.iload_n 3, 1) := by decide +kernel
theorem r_L_law_1156 {x0 x1 x2 : Value} {a : Int32} {st : List Value} {h : AH} : Run M_L_law 1156 [x0, x1, x2, .int a] st h = Run M_L_law 1157 [x0, x1, x2, .int a] (.int a :: st) h := R_iload_n d_L_law_1156 rfl
theorem d_L_law_1157 : decode (mB M_L_law) 1157 = .ok (.iconst 1, 1) := by decide +kernel
theorem r_L_law_1157 {x0 x1 x2 x3 : Value} {st : List Value} {h : AH} : Run M_L_law 1157 [x0, x1, x2, x3] st h = Run M_L_law 1158 [x0, x1, x2, x3] (.int (nI 1) :: st) h := R_iconst d_L_law_1157 (by decide)
theorem d_L_law_1158 : decode (mB M_L_law) 1158 = .ok (.iadd, 1) := by decide +kernel
theorem r_L_law_1158 {x0 x1 x2 x3 : Value} {x y : Int32} {st : List Value} {h : AH} : Run M_L_law 1158 [x0, x1, x2, x3] (.int y :: .int x :: st) h = Run M_L_law 1159 [x0, x1, x2, x3] (.int (x + y) :: st) h := R_iadd d_L_law_1158
theorem d_L_law_1159 : decode (mB M_L_law) 1159 = .ok (.iaload, 1) := by decide +kernel
theorem r_L_law_1159 {x0 x1 x2 x3 : Value} {a : Nat} {i : Int32} {st : List Value} {h : AH} : Run M_L_law 1159 [x0, x1, x2, x3] (.int i :: .ref a :: st) h = if (gI 0 h a i).isSome = true then Run M_L_law 1160 [x0, x1, x2, x3] (.int ((gI 0 h a i).getD 0) :: st) h else none := R_iaload d_L_law_1159
theorem d_L_law_1160 : decode (mB M_L_law) 1160 = .ok (.aload_n 0, 1) := by decide +kernel
theorem r_L_law_1160 {x1 x2 x3 : Value} {a : Nat} {st : List Value} {h : AH} : Run M_L_law 1160 [.ref a, x1, x2, x3] st h = Run M_L_law 1161 [.ref a, x1, x2, x3] (.ref a :: st) h := R_aload_n d_L_law_1160 rfl
theorem d_L_law_1161 : decode (mB M_L_law) 1161 = .ok (.iload_n 3, 1) := by decide +kernel
theorem r_L_law_1161 {x0 x1 x2 : Value} {a : Int32} {st : List Value} {h : AH} : Run M_L_law 1161 [x0, x1, x2, .int a] st h = Run M_L_law 1162 [x0, x1, x2, .int a] (.int a :: st) h := R_iload_n d_L_law_1161 rfl
theorem d_L_law_1162 : decode (mB M_L_law) 1162 = .ok (.iconst 2, 1) := by decide +kernel
theorem r_L_law_1162 {x0 x1 x2 x3 : Value} {st : List Value} {h : AH} : Run M_L_law 1162 [x0, x1, x2, x3] st h = Run M_L_law 1163 [x0, x1, x2, x3] (.int (nI 2) :: st) h := R_iconst d_L_law_1162 (by decide)
theorem d_L_law_1163 : decode (mB M_L_law) 1163 = .ok (.iadd, 1) := by decide +kernel
theorem r_L_law_1163 {x0 x1 x2 x3 : Value} {x y : Int32} {st : List Value} {h : AH} : Run M_L_law 1163 [x0, x1, x2, x3] (.int y :: .int x :: st) h = Run M_L_law 1164 [x0, x1, x2, x3] (.int (x + y) :: st) h := R_iadd d_L_law_1163
theorem d_L_law_1164 : decode (mB M_L_law) 1164 = .ok (.iaload, 1) := by decide +kernel
theorem r_L_law_1164 {x0 x1 x2 x3 : Value} {a : Nat} {i : Int32} {st : List Value} {h : AH} : Run M_L_law 1164 [x0, x1, x2, x3] (.int i :: .ref a :: st) h = if (gI 0 h a i).isSome = true then Run M_L_law 1165 [x0, x1, x2, x3] (.int ((gI 0 h a i).getD 0) :: st) h else none := R_iaload d_L_law_1164
theorem d_L_law_1165 : decode (mB M_L_law) 1165 = .ok (.invokevirtual 148, 3) := by decide +kernel
theorem r_L_law_1165 {x0 x1 x2 x3 : Value} {p0 : Int32} {p1 : Int32} {a : Nat} {w0 : Value} {h : AH} : Run M_L_law 1165 [x0, x1, x2, x3] (.int p1 :: .int p0 :: .ref a :: [w0]) h = if refO h 9 (some (.ref a)) = true then (if (Call M_X9_enter h [.ref a, .int p0, .int p1]).isSome = true then Run M_L_law 1168 [x0, x1, x2, x3] (rL (Call M_X9_enter h [.ref a, .int p0, .int p1]) ++ [w0]) (cH (Call M_X9_enter h [.ref a, .int p0, .int p1])) else none) else none := R_virt d_L_law_1165 rfl rfl rfl rfl rfl (Nat.le_of_ble_eq_true rfl)
theorem d_L_law_1168 : decode (mB M_L_law) 1168 = .ok (.if_icmp .eq 179, 3) := by decide +kernel
theorem r_L_law_1168 {x0 x1 x2 x3 : Value} {x y : Int32} {st : List Value} {h : AH} : Run M_L_law 1168 [x0, x1, x2, x3] (.int y :: .int x :: st) h = if x = y then Run M_L_law 1347 [x0, x1, x2, x3] st h else Run M_L_law 1171 [x0, x1, x2, x3] st h := R_icmp_eq d_L_law_1168 (by decide)
theorem d_L_law_1171 : decode (mB M_L_law) 1171 = .ok (.iconst 0, 1) := by decide +kernel
theorem r_L_law_1171 {x0 x1 x2 x3 : Value} {st : List Value} {h : AH} : Run M_L_law 1171 [x0, x1, x2, x3] st h = Run M_L_law 1172 [x0, x1, x2, x3] (.int (nI 0) :: st) h := R_iconst d_L_law_1171 (by decide)
theorem d_L_law_1172 : decode (mB M_L_law) 1172 = .ok (.ireturn, 1) := by decide +kernel
theorem r_L_law_1172_0 {x0 x1 x2 x3 : Value} {h : AH} : Run M_L_law 1172 [x0, x1, x2, x3] [.int (nI 0)] h = some (h, some (.int (nI 0))) := R_ireturn d_L_law_1172 rfl (by decide)
theorem r_L_law_1172_1 {x0 x1 x2 x3 : Value} {h : AH} : Run M_L_law 1172 [x0, x1, x2, x3] [.int (nI 1)] h = some (h, some (.int (nI 1))) := R_ireturn d_L_law_1172 rfl (by decide)
theorem r_L_law_1172_c {x0 x1 x2 x3 : Value} {c : Prop} [Decidable c] {h : AH} : Run M_L_law 1172 [x0, x1, x2, x3] [.int (bI c)] h = some (h, some (.int (bI c))) := R_ireturn d_L_law_1172 rfl narrow_bI
theorem d_L_law_1173 : decode (mB M_L_law) 1173 = .ok (.aload_n 1, 1) := by decide +kernel
theorem r_L_law_1173 {x0 x2 x3 : Value} {a : Nat} {st : List Value} {h : AH} : Run M_L_law 1173 [x0, .ref a, x2, x3] st h = Run M_L_law 1174 [x0, .ref a, x2, x3] (.ref a :: st) h := R_aload_n d_L_law_1173 rfl
theorem d_L_law_1174 : decode (mB M_L_law) 1174 = .ok (.aload_n 0, 1) := by decide +kernel
theorem r_L_law_1174 {x1 x2 x3 : Value} {a : Nat} {st : List Value} {h : AH} : Run M_L_law 1174 [.ref a, x1, x2, x3] st h = Run M_L_law 1175 [.ref a, x1, x2, x3] (.ref a :: st) h := R_aload_n d_L_law_1174 rfl
theorem d_L_law_1175 : decode (mB M_L_law) 1175 = .ok (.iload_n 3, 1) := by decide +kernel
theorem r_L_law_1175 {x0 x1 x2 : Value} {a : Int32} {st : List Value} {h : AH} : Run M_L_law 1175 [x0, x1, x2, .int a] st h = Run M_L_law 1176 [x0, x1, x2, .int a] (.int a :: st) h := R_iload_n d_L_law_1175 rfl
theorem d_L_law_1176 : decode (mB M_L_law) 1176 = .ok (.iconst 1, 1) := by decide +kernel
theorem r_L_law_1176 {x0 x1 x2 x3 : Value} {st : List Value} {h : AH} : Run M_L_law 1176 [x0, x1, x2, x3] st h = Run M_L_law 1177 [x0, x1, x2, x3] (.int (nI 1) :: st) h := R_iconst d_L_law_1176 (by decide)
theorem d_L_law_1177 : decode (mB M_L_law) 1177 = .ok (.iadd, 1) := by decide +kernel
theorem r_L_law_1177 {x0 x1 x2 x3 : Value} {x y : Int32} {st : List Value} {h : AH} : Run M_L_law 1177 [x0, x1, x2, x3] (.int y :: .int x :: st) h = Run M_L_law 1178 [x0, x1, x2, x3] (.int (x + y) :: st) h := R_iadd d_L_law_1177
theorem d_L_law_1178 : decode (mB M_L_law) 1178 = .ok (.iaload, 1) := by decide +kernel
theorem r_L_law_1178 {x0 x1 x2 x3 : Value} {a : Nat} {i : Int32} {st : List Value} {h : AH} : Run M_L_law 1178 [x0, x1, x2, x3] (.int i :: .ref a :: st) h = if (gI 0 h a i).isSome = true then Run M_L_law 1179 [x0, x1, x2, x3] (.int ((gI 0 h a i).getD 0) :: st) h else none := R_iaload d_L_law_1178
theorem d_L_law_1179 : decode (mB M_L_law) 1179 = .ok (.invokevirtual 149, 3) := by decide +kernel
theorem r_L_law_1179 {x0 x1 x2 x3 : Value} {p0 : Int32} {a : Nat} {h : AH} : Run M_L_law 1179 [x0, x1, x2, x3] (.int p0 :: .ref a :: []) h = if refO h 8 (some (.ref a)) = true then (if (Call M_X8_firstIn h [.ref a, .int p0]).isSome = true then Run M_L_law 1182 [x0, x1, x2, x3] (rL (Call M_X8_firstIn h [.ref a, .int p0]) ++ []) (cH (Call M_X8_firstIn h [.ref a, .int p0])) else none) else none := R_virt d_L_law_1179 rfl rfl rfl rfl rfl (Nat.le_of_ble_eq_true rfl)
theorem d_L_law_1182 : decode (mB M_L_law) 1182 = .ok (.aload_n 2, 1) := by decide +kernel
theorem r_L_law_1182 {x0 x1 x3 : Value} {a : Nat} {st : List Value} {h : AH} : Run M_L_law 1182 [x0, x1, .ref a, x3] st h = Run M_L_law 1183 [x0, x1, .ref a, x3] (.ref a :: st) h := R_aload_n d_L_law_1182 rfl
theorem d_L_law_1183 : decode (mB M_L_law) 1183 = .ok (.aload_n 0, 1) := by decide +kernel
theorem r_L_law_1183 {x1 x2 x3 : Value} {a : Nat} {st : List Value} {h : AH} : Run M_L_law 1183 [.ref a, x1, x2, x3] st h = Run M_L_law 1184 [.ref a, x1, x2, x3] (.ref a :: st) h := R_aload_n d_L_law_1183 rfl
theorem d_L_law_1184 : decode (mB M_L_law) 1184 = .ok (.iload_n 3, 1) := by decide +kernel
theorem r_L_law_1184 {x0 x1 x2 : Value} {a : Int32} {st : List Value} {h : AH} : Run M_L_law 1184 [x0, x1, x2, .int a] st h = Run M_L_law 1185 [x0, x1, x2, .int a] (.int a :: st) h := R_iload_n d_L_law_1184 rfl
theorem d_L_law_1185 : decode (mB M_L_law) 1185 = .ok (.iconst 1, 1) := by decide +kernel
theorem r_L_law_1185 {x0 x1 x2 x3 : Value} {st : List Value} {h : AH} : Run M_L_law 1185 [x0, x1, x2, x3] st h = Run M_L_law 1186 [x0, x1, x2, x3] (.int (nI 1) :: st) h := R_iconst d_L_law_1185 (by decide)
theorem d_L_law_1186 : decode (mB M_L_law) 1186 = .ok (.iadd, 1) := by decide +kernel
theorem r_L_law_1186 {x0 x1 x2 x3 : Value} {x y : Int32} {st : List Value} {h : AH} : Run M_L_law 1186 [x0, x1, x2, x3] (.int y :: .int x :: st) h = Run M_L_law 1187 [x0, x1, x2, x3] (.int (x + y) :: st) h := R_iadd d_L_law_1186
theorem d_L_law_1187 : decode (mB M_L_law) 1187 = .ok (.iaload, 1) := by decide +kernel
theorem r_L_law_1187 {x0 x1 x2 x3 : Value} {a : Nat} {i : Int32} {st : List Value} {h : AH} : Run M_L_law 1187 [x0, x1, x2, x3] (.int i :: .ref a :: st) h = if (gI 0 h a i).isSome = true then Run M_L_law 1188 [x0, x1, x2, x3] (.int ((gI 0 h a i).getD 0) :: st) h else none := R_iaload d_L_law_1187
theorem d_L_law_1188 : decode (mB M_L_law) 1188 = .ok (.invokevirtual 152, 3) := by decide +kernel
theorem r_L_law_1188 {x0 x1 x2 x3 : Value} {p0 : Int32} {a : Nat} {w0 : Value} {h : AH} : Run M_L_law 1188 [x0, x1, x2, x3] (.int p0 :: .ref a :: [w0]) h = if refO h 9 (some (.ref a)) = true then (if (Call M_X9_firstIn h [.ref a, .int p0]).isSome = true then Run M_L_law 1191 [x0, x1, x2, x3] (rL (Call M_X9_firstIn h [.ref a, .int p0]) ++ [w0]) (cH (Call M_X9_firstIn h [.ref a, .int p0])) else none) else none := R_virt d_L_law_1188 rfl rfl rfl rfl rfl (Nat.le_of_ble_eq_true rfl)
theorem d_L_law_1191 : decode (mB M_L_law) 1191 = .ok (.if_icmp .eq 156, 3) := by decide +kernel
theorem r_L_law_1191 {x0 x1 x2 x3 : Value} {x y : Int32} {st : List Value} {h : AH} : Run M_L_law 1191 [x0, x1, x2, x3] (.int y :: .int x :: st) h = if x = y then Run M_L_law 1347 [x0, x1, x2, x3] st h else Run M_L_law 1194 [x0, x1, x2, x3] st h := R_icmp_eq d_L_law_1191 (by decide)
theorem d_L_law_1194 : decode (mB M_L_law) 1194 = .ok (.iconst 0, 1) := by decide +kernel
theorem r_L_law_1194 {x0 x1 x2 x3 : Value} {st : List Value} {h : AH} : Run M_L_law 1194 [x0, x1, x2, x3] st h = Run M_L_law 1195 [x0, x1, x2, x3] (.int (nI 0) :: st) h := R_iconst d_L_law_1194 (by decide)
theorem d_L_law_1195 : decode (mB M_L_law) 1195 = .ok (.ireturn, 1) := by decide +kernel
theorem r_L_law_1195_0 {x0 x1 x2 x3 : Value} {h : AH} : Run M_L_law 1195 [x0, x1, x2, x3] [.int (nI 0)] h = some (h, some (.int (nI 0))) := R_ireturn d_L_law_1195 rfl (by decide)
theorem r_L_law_1195_1 {x0 x1 x2 x3 : Value} {h : AH} : Run M_L_law 1195 [x0, x1, x2, x3] [.int (nI 1)] h = some (h, some (.int (nI 1))) := R_ireturn d_L_law_1195 rfl (by decide)
theorem r_L_law_1195_c {x0 x1 x2 x3 : Value} {c : Prop} [Decidable c] {h : AH} : Run M_L_law 1195 [x0, x1, x2, x3] [.int (bI c)] h = some (h, some (.int (bI c))) := R_ireturn d_L_law_1195 rfl narrow_bI
theorem d_L_law_1196 : decode (mB M_L_law) 1196 = .ok (.aload_n 1, 1) := by decide +kernel
theorem r_L_law_1196 {x0 x2 x3 : Value} {a : Nat} {st : List Value} {h : AH} : Run M_L_law 1196 [x0, .ref a, x2, x3] st h = Run M_L_law 1197 [x0, .ref a, x2, x3] (.ref a :: st) h := R_aload_n d_L_law_1196 rfl
theorem d_L_law_1197 : decode (mB M_L_law) 1197 = .ok (.aload_n 0, 1) := by decide +kernel
theorem r_L_law_1197 {x1 x2 x3 : Value} {a : Nat} {st : List Value} {h : AH} : Run M_L_law 1197 [.ref a, x1, x2, x3] st h = Run M_L_law 1198 [.ref a, x1, x2, x3] (.ref a :: st) h := R_aload_n d_L_law_1197 rfl
theorem d_L_law_1198 : decode (mB M_L_law) 1198 = .ok (.iload_n 3, 1) := by decide +kernel
theorem r_L_law_1198 {x0 x1 x2 : Value} {a : Int32} {st : List Value} {h : AH} : Run M_L_law 1198 [x0, x1, x2, .int a] st h = Run M_L_law 1199 [x0, x1, x2, .int a] (.int a :: st) h := R_iload_n d_L_law_1198 rfl
theorem d_L_law_1199 : decode (mB M_L_law) 1199 = .ok (.iconst 1, 1) := by decide +kernel
theorem r_L_law_1199 {x0 x1 x2 x3 : Value} {st : List Value} {h : AH} : Run M_L_law 1199 [x0, x1, x2, x3] st h = Run M_L_law 1200 [x0, x1, x2, x3] (.int (nI 1) :: st) h := R_iconst d_L_law_1199 (by decide)
theorem d_L_law_1200 : decode (mB M_L_law) 1200 = .ok (.iadd, 1) := by decide +kernel
theorem r_L_law_1200 {x0 x1 x2 x3 : Value} {x y : Int32} {st : List Value} {h : AH} : Run M_L_law 1200 [x0, x1, x2, x3] (.int y :: .int x :: st) h = Run M_L_law 1201 [x0, x1, x2, x3] (.int (x + y) :: st) h := R_iadd d_L_law_1200
theorem d_L_law_1201 : decode (mB M_L_law) 1201 = .ok (.iaload, 1) := by decide +kernel
theorem r_L_law_1201 {x0 x1 x2 x3 : Value} {a : Nat} {i : Int32} {st : List Value} {h : AH} : Run M_L_law 1201 [x0, x1, x2, x3] (.int i :: .ref a :: st) h = if (gI 0 h a i).isSome = true then Run M_L_law 1202 [x0, x1, x2, x3] (.int ((gI 0 h a i).getD 0) :: st) h else none := R_iaload d_L_law_1201
theorem d_L_law_1202 : decode (mB M_L_law) 1202 = .ok (.invokevirtual 153, 3) := by decide +kernel
theorem r_L_law_1202 {x0 x1 x2 x3 : Value} {p0 : Int32} {a : Nat} {h : AH} : Run M_L_law 1202 [x0, x1, x2, x3] (.int p0 :: .ref a :: []) h = if refO h 8 (some (.ref a)) = true then (if (Call M_X8_ahead h [.ref a, .int p0]).isSome = true then Run M_L_law 1205 [x0, x1, x2, x3] (rL (Call M_X8_ahead h [.ref a, .int p0]) ++ []) (cH (Call M_X8_ahead h [.ref a, .int p0])) else none) else none := R_virt d_L_law_1202 rfl rfl rfl rfl rfl (Nat.le_of_ble_eq_true rfl)
theorem d_L_law_1205 : decode (mB M_L_law) 1205 = .ok (.aload_n 2, 1) := by decide +kernel
theorem r_L_law_1205 {x0 x1 x3 : Value} {a : Nat} {st : List Value} {h : AH} : Run M_L_law 1205 [x0, x1, .ref a, x3] st h = Run M_L_law 1206 [x0, x1, .ref a, x3] (.ref a :: st) h := R_aload_n d_L_law_1205 rfl
theorem d_L_law_1206 : decode (mB M_L_law) 1206 = .ok (.aload_n 0, 1) := by decide +kernel
theorem r_L_law_1206 {x1 x2 x3 : Value} {a : Nat} {st : List Value} {h : AH} : Run M_L_law 1206 [.ref a, x1, x2, x3] st h = Run M_L_law 1207 [.ref a, x1, x2, x3] (.ref a :: st) h := R_aload_n d_L_law_1206 rfl
theorem d_L_law_1207 : decode (mB M_L_law) 1207 = .ok (.iload_n 3, 1) := by decide +kernel
theorem r_L_law_1207 {x0 x1 x2 : Value} {a : Int32} {st : List Value} {h : AH} : Run M_L_law 1207 [x0, x1, x2, .int a] st h = Run M_L_law 1208 [x0, x1, x2, .int a] (.int a :: st) h := R_iload_n d_L_law_1207 rfl
theorem d_L_law_1208 : decode (mB M_L_law) 1208 = .ok (.iconst 1, 1) := by decide +kernel
theorem r_L_law_1208 {x0 x1 x2 x3 : Value} {st : List Value} {h : AH} : Run M_L_law 1208 [x0, x1, x2, x3] st h = Run M_L_law 1209 [x0, x1, x2, x3] (.int (nI 1) :: st) h := R_iconst d_L_law_1208 (by decide)
theorem d_L_law_1209 : decode (mB M_L_law) 1209 = .ok (.iadd, 1) := by decide +kernel
theorem r_L_law_1209 {x0 x1 x2 x3 : Value} {x y : Int32} {st : List Value} {h : AH} : Run M_L_law 1209 [x0, x1, x2, x3] (.int y :: .int x :: st) h = Run M_L_law 1210 [x0, x1, x2, x3] (.int (x + y) :: st) h := R_iadd d_L_law_1209
theorem d_L_law_1210 : decode (mB M_L_law) 1210 = .ok (.iaload, 1) := by decide +kernel
theorem r_L_law_1210 {x0 x1 x2 x3 : Value} {a : Nat} {i : Int32} {st : List Value} {h : AH} : Run M_L_law 1210 [x0, x1, x2, x3] (.int i :: .ref a :: st) h = if (gI 0 h a i).isSome = true then Run M_L_law 1211 [x0, x1, x2, x3] (.int ((gI 0 h a i).getD 0) :: st) h else none := R_iaload d_L_law_1210
theorem d_L_law_1211 : decode (mB M_L_law) 1211 = .ok (.invokevirtual 156, 3) := by decide +kernel
theorem r_L_law_1211 {x0 x1 x2 x3 : Value} {p0 : Int32} {a : Nat} {w0 : Value} {h : AH} : Run M_L_law 1211 [x0, x1, x2, x3] (.int p0 :: .ref a :: [w0]) h = if refO h 9 (some (.ref a)) = true then (if (Call M_X9_ahead h [.ref a, .int p0]).isSome = true then Run M_L_law 1214 [x0, x1, x2, x3] (rL (Call M_X9_ahead h [.ref a, .int p0]) ++ [w0]) (cH (Call M_X9_ahead h [.ref a, .int p0])) else none) else none := R_virt d_L_law_1211 rfl rfl rfl rfl rfl (Nat.le_of_ble_eq_true rfl)
theorem d_L_law_1214 : decode (mB M_L_law) 1214 = .ok (.if_icmp .eq 133, 3) := by decide +kernel
theorem r_L_law_1214 {x0 x1 x2 x3 : Value} {x y : Int32} {st : List Value} {h : AH} : Run M_L_law 1214 [x0, x1, x2, x3] (.int y :: .int x :: st) h = if x = y then Run M_L_law 1347 [x0, x1, x2, x3] st h else Run M_L_law 1217 [x0, x1, x2, x3] st h := R_icmp_eq d_L_law_1214 (by decide)
theorem d_L_law_1217 : decode (mB M_L_law) 1217 = .ok (.iconst 0, 1) := by decide +kernel
theorem r_L_law_1217 {x0 x1 x2 x3 : Value} {st : List Value} {h : AH} : Run M_L_law 1217 [x0, x1, x2, x3] st h = Run M_L_law 1218 [x0, x1, x2, x3] (.int (nI 0) :: st) h := R_iconst d_L_law_1217 (by decide)
theorem d_L_law_1218 : decode (mB M_L_law) 1218 = .ok (.ireturn, 1) := by decide +kernel
theorem r_L_law_1218_0 {x0 x1 x2 x3 : Value} {h : AH} : Run M_L_law 1218 [x0, x1, x2, x3] [.int (nI 0)] h = some (h, some (.int (nI 0))) := R_ireturn d_L_law_1218 rfl (by decide)
theorem r_L_law_1218_1 {x0 x1 x2 x3 : Value} {h : AH} : Run M_L_law 1218 [x0, x1, x2, x3] [.int (nI 1)] h = some (h, some (.int (nI 1))) := R_ireturn d_L_law_1218 rfl (by decide)
theorem r_L_law_1218_c {x0 x1 x2 x3 : Value} {c : Prop} [Decidable c] {h : AH} : Run M_L_law 1218 [x0, x1, x2, x3] [.int (bI c)] h = some (h, some (.int (bI c))) := R_ireturn d_L_law_1218 rfl narrow_bI
theorem d_L_law_1219 : decode (mB M_L_law) 1219 = .ok (.aload_n 1, 1) := by decide +kernel
theorem r_L_law_1219 {x0 x2 x3 : Value} {a : Nat} {st : List Value} {h : AH} : Run M_L_law 1219 [x0, .ref a, x2, x3] st h = Run M_L_law 1220 [x0, .ref a, x2, x3] (.ref a :: st) h := R_aload_n d_L_law_1219 rfl
theorem d_L_law_1220 : decode (mB M_L_law) 1220 = .ok (.aload_n 0, 1) := by decide +kernel
theorem r_L_law_1220 {x1 x2 x3 : Value} {a : Nat} {st : List Value} {h : AH} : Run M_L_law 1220 [.ref a, x1, x2, x3] st h = Run M_L_law 1221 [.ref a, x1, x2, x3] (.ref a :: st) h := R_aload_n d_L_law_1220 rfl
theorem d_L_law_1221 : decode (mB M_L_law) 1221 = .ok (.iload_n 3, 1) := by decide +kernel
theorem r_L_law_1221 {x0 x1 x2 : Value} {a : Int32} {st : List Value} {h : AH} : Run M_L_law 1221 [x0, x1, x2, .int a] st h = Run M_L_law 1222 [x0, x1, x2, .int a] (.int a :: st) h := R_iload_n d_L_law_1221 rfl
theorem d_L_law_1222 : decode (mB M_L_law) 1222 = .ok (.iconst 1, 1) := by decide +kernel
theorem r_L_law_1222 {x0 x1 x2 x3 : Value} {st : List Value} {h : AH} : Run M_L_law 1222 [x0, x1, x2, x3] st h = Run M_L_law 1223 [x0, x1, x2, x3] (.int (nI 1) :: st) h := R_iconst d_L_law_1222 (by decide)
theorem d_L_law_1223 : decode (mB M_L_law) 1223 = .ok (.iadd, 1) := by decide +kernel
theorem r_L_law_1223 {x0 x1 x2 x3 : Value} {x y : Int32} {st : List Value} {h : AH} : Run M_L_law 1223 [x0, x1, x2, x3] (.int y :: .int x :: st) h = Run M_L_law 1224 [x0, x1, x2, x3] (.int (x + y) :: st) h := R_iadd d_L_law_1223
theorem d_L_law_1224 : decode (mB M_L_law) 1224 = .ok (.iaload, 1) := by decide +kernel
theorem r_L_law_1224 {x0 x1 x2 x3 : Value} {a : Nat} {i : Int32} {st : List Value} {h : AH} : Run M_L_law 1224 [x0, x1, x2, x3] (.int i :: .ref a :: st) h = if (gI 0 h a i).isSome = true then Run M_L_law 1225 [x0, x1, x2, x3] (.int ((gI 0 h a i).getD 0) :: st) h else none := R_iaload d_L_law_1224
theorem d_L_law_1225 : decode (mB M_L_law) 1225 = .ok (.aload_n 0, 1) := by decide +kernel
theorem r_L_law_1225 {x1 x2 x3 : Value} {a : Nat} {st : List Value} {h : AH} : Run M_L_law 1225 [.ref a, x1, x2, x3] st h = Run M_L_law 1226 [.ref a, x1, x2, x3] (.ref a :: st) h := R_aload_n d_L_law_1225 rfl
theorem d_L_law_1226 : decode (mB M_L_law) 1226 = .ok (.iload_n 3, 1) := by decide +kernel
theorem r_L_law_1226 {x0 x1 x2 : Value} {a : Int32} {st : List Value} {h : AH} : Run M_L_law 1226 [x0, x1, x2, .int a] st h = Run M_L_law 1227 [x0, x1, x2, .int a] (.int a :: st) h := R_iload_n d_L_law_1226 rfl
theorem d_L_law_1227 : decode (mB M_L_law) 1227 = .ok (.iconst 2, 1) := by decide +kernel
theorem r_L_law_1227 {x0 x1 x2 x3 : Value} {st : List Value} {h : AH} : Run M_L_law 1227 [x0, x1, x2, x3] st h = Run M_L_law 1228 [x0, x1, x2, x3] (.int (nI 2) :: st) h := R_iconst d_L_law_1227 (by decide)
theorem d_L_law_1228 : decode (mB M_L_law) 1228 = .ok (.iadd, 1) := by decide +kernel
theorem r_L_law_1228 {x0 x1 x2 x3 : Value} {x y : Int32} {st : List Value} {h : AH} : Run M_L_law 1228 [x0, x1, x2, x3] (.int y :: .int x :: st) h = Run M_L_law 1229 [x0, x1, x2, x3] (.int (x + y) :: st) h := R_iadd d_L_law_1228
theorem d_L_law_1229 : decode (mB M_L_law) 1229 = .ok (.iaload, 1) := by decide +kernel
theorem r_L_law_1229 {x0 x1 x2 x3 : Value} {a : Nat} {i : Int32} {st : List Value} {h : AH} : Run M_L_law 1229 [x0, x1, x2, x3] (.int i :: .ref a :: st) h = if (gI 0 h a i).isSome = true then Run M_L_law 1230 [x0, x1, x2, x3] (.int ((gI 0 h a i).getD 0) :: st) h else none := R_iaload d_L_law_1229
theorem d_L_law_1230 : decode (mB M_L_law) 1230 = .ok (.invokevirtual 157, 3) := by decide +kernel
theorem r_L_law_1230 {x0 x1 x2 x3 : Value} {p0 : Int32} {p1 : Int32} {a : Nat} {h : AH} : Run M_L_law 1230 [x0, x1, x2, x3] (.int p1 :: .int p0 :: .ref a :: []) h = if refO h 8 (some (.ref a)) = true then (if (Call M_X8_write h [.ref a, .int p0, .int p1]).isSome = true then Run M_L_law 1233 [x0, x1, x2, x3] (rL (Call M_X8_write h [.ref a, .int p0, .int p1]) ++ []) (cH (Call M_X8_write h [.ref a, .int p0, .int p1])) else none) else none := R_virt d_L_law_1230 rfl rfl rfl rfl rfl (Nat.le_of_ble_eq_true rfl)
theorem d_L_law_1233 : decode (mB M_L_law) 1233 = .ok (.aload_n 2, 1) := by decide +kernel
theorem r_L_law_1233 {x0 x1 x3 : Value} {a : Nat} {st : List Value} {h : AH} : Run M_L_law 1233 [x0, x1, .ref a, x3] st h = Run M_L_law 1234 [x0, x1, .ref a, x3] (.ref a :: st) h := R_aload_n d_L_law_1233 rfl
theorem d_L_law_1234 : decode (mB M_L_law) 1234 = .ok (.aload_n 0, 1) := by decide +kernel
theorem r_L_law_1234 {x1 x2 x3 : Value} {a : Nat} {st : List Value} {h : AH} : Run M_L_law 1234 [.ref a, x1, x2, x3] st h = Run M_L_law 1235 [.ref a, x1, x2, x3] (.ref a :: st) h := R_aload_n d_L_law_1234 rfl
theorem d_L_law_1235 : decode (mB M_L_law) 1235 = .ok (.iload_n 3, 1) := by decide +kernel
theorem r_L_law_1235 {x0 x1 x2 : Value} {a : Int32} {st : List Value} {h : AH} : Run M_L_law 1235 [x0, x1, x2, .int a] st h = Run M_L_law 1236 [x0, x1, x2, .int a] (.int a :: st) h := R_iload_n d_L_law_1235 rfl
theorem d_L_law_1236 : decode (mB M_L_law) 1236 = .ok (.iconst 1, 1) := by decide +kernel
theorem r_L_law_1236 {x0 x1 x2 x3 : Value} {st : List Value} {h : AH} : Run M_L_law 1236 [x0, x1, x2, x3] st h = Run M_L_law 1237 [x0, x1, x2, x3] (.int (nI 1) :: st) h := R_iconst d_L_law_1236 (by decide)
theorem d_L_law_1237 : decode (mB M_L_law) 1237 = .ok (.iadd, 1) := by decide +kernel
theorem r_L_law_1237 {x0 x1 x2 x3 : Value} {x y : Int32} {st : List Value} {h : AH} : Run M_L_law 1237 [x0, x1, x2, x3] (.int y :: .int x :: st) h = Run M_L_law 1238 [x0, x1, x2, x3] (.int (x + y) :: st) h := R_iadd d_L_law_1237
theorem d_L_law_1238 : decode (mB M_L_law) 1238 = .ok (.iaload, 1) := by decide +kernel
theorem r_L_law_1238 {x0 x1 x2 x3 : Value} {a : Nat} {i : Int32} {st : List Value} {h : AH} : Run M_L_law 1238 [x0, x1, x2, x3] (.int i :: .ref a :: st) h = if (gI 0 h a i).isSome = true then Run M_L_law 1239 [x0, x1, x2, x3] (.int ((gI 0 h a i).getD 0) :: st) h else none := R_iaload d_L_law_1238
theorem d_L_law_1239 : decode (mB M_L_law) 1239 = .ok (.aload_n 0, 1) := by decide +kernel
theorem r_L_law_1239 {x1 x2 x3 : Value} {a : Nat} {st : List Value} {h : AH} : Run M_L_law 1239 [.ref a, x1, x2, x3] st h = Run M_L_law 1240 [.ref a, x1, x2, x3] (.ref a :: st) h := R_aload_n d_L_law_1239 rfl
theorem d_L_law_1240 : decode (mB M_L_law) 1240 = .ok (.iload_n 3, 1) := by decide +kernel
theorem r_L_law_1240 {x0 x1 x2 : Value} {a : Int32} {st : List Value} {h : AH} : Run M_L_law 1240 [x0, x1, x2, .int a] st h = Run M_L_law 1241 [x0, x1, x2, .int a] (.int a :: st) h := R_iload_n d_L_law_1240 rfl
theorem d_L_law_1241 : decode (mB M_L_law) 1241 = .ok (.iconst 2, 1) := by decide +kernel
theorem r_L_law_1241 {x0 x1 x2 x3 : Value} {st : List Value} {h : AH} : Run M_L_law 1241 [x0, x1, x2, x3] st h = Run M_L_law 1242 [x0, x1, x2, x3] (.int (nI 2) :: st) h := R_iconst d_L_law_1241 (by decide)
theorem d_L_law_1242 : decode (mB M_L_law) 1242 = .ok (.iadd, 1) := by decide +kernel
theorem r_L_law_1242 {x0 x1 x2 x3 : Value} {x y : Int32} {st : List Value} {h : AH} : Run M_L_law 1242 [x0, x1, x2, x3] (.int y :: .int x :: st) h = Run M_L_law 1243 [x0, x1, x2, x3] (.int (x + y) :: st) h := R_iadd d_L_law_1242
theorem d_L_law_1243 : decode (mB M_L_law) 1243 = .ok (.iaload, 1) := by decide +kernel
theorem r_L_law_1243 {x0 x1 x2 x3 : Value} {a : Nat} {i : Int32} {st : List Value} {h : AH} : Run M_L_law 1243 [x0, x1, x2, x3] (.int i :: .ref a :: st) h = if (gI 0 h a i).isSome = true then Run M_L_law 1244 [x0, x1, x2, x3] (.int ((gI 0 h a i).getD 0) :: st) h else none := R_iaload d_L_law_1243
theorem d_L_law_1244 : decode (mB M_L_law) 1244 = .ok (.invokevirtual 160, 3) := by decide +kernel
theorem r_L_law_1244 {x0 x1 x2 x3 : Value} {p0 : Int32} {p1 : Int32} {a : Nat} {w0 : Value} {h : AH} : Run M_L_law 1244 [x0, x1, x2, x3] (.int p1 :: .int p0 :: .ref a :: [w0]) h = if refO h 9 (some (.ref a)) = true then (if (Call M_X9_write h [.ref a, .int p0, .int p1]).isSome = true then Run M_L_law 1247 [x0, x1, x2, x3] (rL (Call M_X9_write h [.ref a, .int p0, .int p1]) ++ [w0]) (cH (Call M_X9_write h [.ref a, .int p0, .int p1])) else none) else none := R_virt d_L_law_1244 rfl rfl rfl rfl rfl (Nat.le_of_ble_eq_true rfl)
theorem d_L_law_1247 : decode (mB M_L_law) 1247 = .ok (.if_icmp .eq 100, 3) := by decide +kernel
theorem r_L_law_1247 {x0 x1 x2 x3 : Value} {x y : Int32} {st : List Value} {h : AH} : Run M_L_law 1247 [x0, x1, x2, x3] (.int y :: .int x :: st) h = if x = y then Run M_L_law 1347 [x0, x1, x2, x3] st h else Run M_L_law 1250 [x0, x1, x2, x3] st h := R_icmp_eq d_L_law_1247 (by decide)
theorem d_L_law_1250 : decode (mB M_L_law) 1250 = .ok (.iconst 0, 1) := by decide +kernel
theorem r_L_law_1250 {x0 x1 x2 x3 : Value} {st : List Value} {h : AH} : Run M_L_law 1250 [x0, x1, x2, x3] st h = Run M_L_law 1251 [x0, x1, x2, x3] (.int (nI 0) :: st) h := R_iconst d_L_law_1250 (by decide)
theorem d_L_law_1251 : decode (mB M_L_law) 1251 = .ok (.ireturn, 1) := by decide +kernel
theorem r_L_law_1251_0 {x0 x1 x2 x3 : Value} {h : AH} : Run M_L_law 1251 [x0, x1, x2, x3] [.int (nI 0)] h = some (h, some (.int (nI 0))) := R_ireturn d_L_law_1251 rfl (by decide)
theorem r_L_law_1251_1 {x0 x1 x2 x3 : Value} {h : AH} : Run M_L_law 1251 [x0, x1, x2, x3] [.int (nI 1)] h = some (h, some (.int (nI 1))) := R_ireturn d_L_law_1251 rfl (by decide)
theorem r_L_law_1251_c {x0 x1 x2 x3 : Value} {c : Prop} [Decidable c] {h : AH} : Run M_L_law 1251 [x0, x1, x2, x3] [.int (bI c)] h = some (h, some (.int (bI c))) := R_ireturn d_L_law_1251 rfl narrow_bI
theorem d_L_law_1252 : decode (mB M_L_law) 1252 = .ok (.aload_n 1, 1) := by decide +kernel
theorem r_L_law_1252 {x0 x2 x3 : Value} {a : Nat} {st : List Value} {h : AH} : Run M_L_law 1252 [x0, .ref a, x2, x3] st h = Run M_L_law 1253 [x0, .ref a, x2, x3] (.ref a :: st) h := R_aload_n d_L_law_1252 rfl
theorem d_L_law_1253 : decode (mB M_L_law) 1253 = .ok (.invokevirtual 161, 3) := by decide +kernel
theorem r_L_law_1253 {x0 x1 x2 x3 : Value} {a : Nat} {h : AH} : Run M_L_law 1253 [x0, x1, x2, x3] (.ref a :: []) h = if refO h 8 (some (.ref a)) = true then (if (Call M_X8_judge h [.ref a]).isSome = true then Run M_L_law 1256 [x0, x1, x2, x3] (rL (Call M_X8_judge h [.ref a]) ++ []) (cH (Call M_X8_judge h [.ref a])) else none) else none := R_virt d_L_law_1253 rfl rfl rfl rfl rfl (Nat.le_of_ble_eq_true rfl)
theorem d_L_law_1256 : decode (mB M_L_law) 1256 = .ok (.aload_n 2, 1) := by decide +kernel
theorem r_L_law_1256 {x0 x1 x3 : Value} {a : Nat} {st : List Value} {h : AH} : Run M_L_law 1256 [x0, x1, .ref a, x3] st h = Run M_L_law 1257 [x0, x1, .ref a, x3] (.ref a :: st) h := R_aload_n d_L_law_1256 rfl
theorem d_L_law_1257 : decode (mB M_L_law) 1257 = .ok (.invokevirtual 164, 3) := by decide +kernel
theorem r_L_law_1257 {x0 x1 x2 x3 : Value} {a : Nat} {w0 : Value} {h : AH} : Run M_L_law 1257 [x0, x1, x2, x3] (.ref a :: [w0]) h = if refO h 9 (some (.ref a)) = true then (if (Call M_X9_judge h [.ref a]).isSome = true then Run M_L_law 1260 [x0, x1, x2, x3] (rL (Call M_X9_judge h [.ref a]) ++ [w0]) (cH (Call M_X9_judge h [.ref a])) else none) else none := R_virt d_L_law_1257 rfl rfl rfl rfl rfl (Nat.le_of_ble_eq_true rfl)
theorem d_L_law_1260 : decode (mB M_L_law) 1260 = .ok (.if_icmp .eq 87, 3) := by decide +kernel
theorem r_L_law_1260 {x0 x1 x2 x3 : Value} {x y : Int32} {st : List Value} {h : AH} : Run M_L_law 1260 [x0, x1, x2, x3] (.int y :: .int x :: st) h = if x = y then Run M_L_law 1347 [x0, x1, x2, x3] st h else Run M_L_law 1263 [x0, x1, x2, x3] st h := R_icmp_eq d_L_law_1260 (by decide)
theorem d_L_law_1263 : decode (mB M_L_law) 1263 = .ok (.iconst 0, 1) := by decide +kernel
theorem r_L_law_1263 {x0 x1 x2 x3 : Value} {st : List Value} {h : AH} : Run M_L_law 1263 [x0, x1, x2, x3] st h = Run M_L_law 1264 [x0, x1, x2, x3] (.int (nI 0) :: st) h := R_iconst d_L_law_1263 (by decide)
theorem d_L_law_1264 : decode (mB M_L_law) 1264 = .ok (.ireturn, 1) := by decide +kernel
theorem r_L_law_1264_0 {x0 x1 x2 x3 : Value} {h : AH} : Run M_L_law 1264 [x0, x1, x2, x3] [.int (nI 0)] h = some (h, some (.int (nI 0))) := R_ireturn d_L_law_1264 rfl (by decide)
theorem r_L_law_1264_1 {x0 x1 x2 x3 : Value} {h : AH} : Run M_L_law 1264 [x0, x1, x2, x3] [.int (nI 1)] h = some (h, some (.int (nI 1))) := R_ireturn d_L_law_1264 rfl (by decide)
theorem r_L_law_1264_c {x0 x1 x2 x3 : Value} {c : Prop} [Decidable c] {h : AH} : Run M_L_law 1264 [x0, x1, x2, x3] [.int (bI c)] h = some (h, some (.int (bI c))) := R_ireturn d_L_law_1264 rfl narrow_bI
theorem d_L_law_1265 : decode (mB M_L_law) 1265 = .ok (.aload_n 1, 1) := by decide +kernel
theorem r_L_law_1265 {x0 x2 x3 : Value} {a : Nat} {st : List Value} {h : AH} : Run M_L_law 1265 [x0, .ref a, x2, x3] st h = Run M_L_law 1266 [x0, .ref a, x2, x3] (.ref a :: st) h := R_aload_n d_L_law_1265 rfl
theorem d_L_law_1266 : decode (mB M_L_law) 1266 = .ok (.invokevirtual 165, 3) := by decide +kernel
theorem r_L_law_1266 {x0 x1 x2 x3 : Value} {a : Nat} {h : AH} : Run M_L_law 1266 [x0, x1, x2, x3] (.ref a :: []) h = if refO h 8 (some (.ref a)) = true then (if (Call M_X8_tear h [.ref a]).isSome = true then Run M_L_law 1269 [x0, x1, x2, x3] (rL (Call M_X8_tear h [.ref a]) ++ []) (cH (Call M_X8_tear h [.ref a])) else none) else none := R_virt d_L_law_1266 rfl rfl rfl rfl rfl (Nat.le_of_ble_eq_true rfl)
theorem d_L_law_1269 : decode (mB M_L_law) 1269 = .ok (.aload_n 2, 1) := by decide +kernel
theorem r_L_law_1269 {x0 x1 x3 : Value} {a : Nat} {st : List Value} {h : AH} : Run M_L_law 1269 [x0, x1, .ref a, x3] st h = Run M_L_law 1270 [x0, x1, .ref a, x3] (.ref a :: st) h := R_aload_n d_L_law_1269 rfl
theorem d_L_law_1270 : decode (mB M_L_law) 1270 = .ok (.invokevirtual 168, 3) := by decide +kernel
theorem r_L_law_1270 {x0 x1 x2 x3 : Value} {a : Nat} {w0 : Value} {h : AH} : Run M_L_law 1270 [x0, x1, x2, x3] (.ref a :: [w0]) h = if refO h 9 (some (.ref a)) = true then (if (Call M_X9_tear h [.ref a]).isSome = true then Run M_L_law 1273 [x0, x1, x2, x3] (rL (Call M_X9_tear h [.ref a]) ++ [w0]) (cH (Call M_X9_tear h [.ref a])) else none) else none := R_virt d_L_law_1270 rfl rfl rfl rfl rfl (Nat.le_of_ble_eq_true rfl)
theorem d_L_law_1273 : decode (mB M_L_law) 1273 = .ok (.if_icmp .eq 74, 3) := by decide +kernel
theorem r_L_law_1273 {x0 x1 x2 x3 : Value} {x y : Int32} {st : List Value} {h : AH} : Run M_L_law 1273 [x0, x1, x2, x3] (.int y :: .int x :: st) h = if x = y then Run M_L_law 1347 [x0, x1, x2, x3] st h else Run M_L_law 1276 [x0, x1, x2, x3] st h := R_icmp_eq d_L_law_1273 (by decide)
theorem d_L_law_1276 : decode (mB M_L_law) 1276 = .ok (.iconst 0, 1) := by decide +kernel
theorem r_L_law_1276 {x0 x1 x2 x3 : Value} {st : List Value} {h : AH} : Run M_L_law 1276 [x0, x1, x2, x3] st h = Run M_L_law 1277 [x0, x1, x2, x3] (.int (nI 0) :: st) h := R_iconst d_L_law_1276 (by decide)
theorem d_L_law_1277 : decode (mB M_L_law) 1277 = .ok (.ireturn, 1) := by decide +kernel
theorem r_L_law_1277_0 {x0 x1 x2 x3 : Value} {h : AH} : Run M_L_law 1277 [x0, x1, x2, x3] [.int (nI 0)] h = some (h, some (.int (nI 0))) := R_ireturn d_L_law_1277 rfl (by decide)
theorem r_L_law_1277_1 {x0 x1 x2 x3 : Value} {h : AH} : Run M_L_law 1277 [x0, x1, x2, x3] [.int (nI 1)] h = some (h, some (.int (nI 1))) := R_ireturn d_L_law_1277 rfl (by decide)
theorem r_L_law_1277_c {x0 x1 x2 x3 : Value} {c : Prop} [Decidable c] {h : AH} : Run M_L_law 1277 [x0, x1, x2, x3] [.int (bI c)] h = some (h, some (.int (bI c))) := R_ireturn d_L_law_1277 rfl narrow_bI
theorem d_L_law_1278 : decode (mB M_L_law) 1278 = .ok (.aload_n 1, 1) := by decide +kernel
theorem r_L_law_1278 {x0 x2 x3 : Value} {a : Nat} {st : List Value} {h : AH} : Run M_L_law 1278 [x0, .ref a, x2, x3] st h = Run M_L_law 1279 [x0, .ref a, x2, x3] (.ref a :: st) h := R_aload_n d_L_law_1278 rfl
theorem d_L_law_1279 : decode (mB M_L_law) 1279 = .ok (.aload_n 0, 1) := by decide +kernel
theorem r_L_law_1279 {x1 x2 x3 : Value} {a : Nat} {st : List Value} {h : AH} : Run M_L_law 1279 [.ref a, x1, x2, x3] st h = Run M_L_law 1280 [.ref a, x1, x2, x3] (.ref a :: st) h := R_aload_n d_L_law_1279 rfl
theorem d_L_law_1280 : decode (mB M_L_law) 1280 = .ok (.iload_n 3, 1) := by decide +kernel
theorem r_L_law_1280 {x0 x1 x2 : Value} {a : Int32} {st : List Value} {h : AH} : Run M_L_law 1280 [x0, x1, x2, .int a] st h = Run M_L_law 1281 [x0, x1, x2, .int a] (.int a :: st) h := R_iload_n d_L_law_1280 rfl
theorem d_L_law_1281 : decode (mB M_L_law) 1281 = .ok (.iconst 1, 1) := by decide +kernel
theorem r_L_law_1281 {x0 x1 x2 x3 : Value} {st : List Value} {h : AH} : Run M_L_law 1281 [x0, x1, x2, x3] st h = Run M_L_law 1282 [x0, x1, x2, x3] (.int (nI 1) :: st) h := R_iconst d_L_law_1281 (by decide)
theorem d_L_law_1282 : decode (mB M_L_law) 1282 = .ok (.iadd, 1) := by decide +kernel
theorem r_L_law_1282 {x0 x1 x2 x3 : Value} {x y : Int32} {st : List Value} {h : AH} : Run M_L_law 1282 [x0, x1, x2, x3] (.int y :: .int x :: st) h = Run M_L_law 1283 [x0, x1, x2, x3] (.int (x + y) :: st) h := R_iadd d_L_law_1282
theorem d_L_law_1283 : decode (mB M_L_law) 1283 = .ok (.iaload, 1) := by decide +kernel
theorem r_L_law_1283 {x0 x1 x2 x3 : Value} {a : Nat} {i : Int32} {st : List Value} {h : AH} : Run M_L_law 1283 [x0, x1, x2, x3] (.int i :: .ref a :: st) h = if (gI 0 h a i).isSome = true then Run M_L_law 1284 [x0, x1, x2, x3] (.int ((gI 0 h a i).getD 0) :: st) h else none := R_iaload d_L_law_1283
theorem d_L_law_1284 : decode (mB M_L_law) 1284 = .ok (.invokevirtual 169, 3) := by decide +kernel
theorem r_L_law_1284 {x0 x1 x2 x3 : Value} {p0 : Int32} {a : Nat} {h : AH} : Run M_L_law 1284 [x0, x1, x2, x3] (.int p0 :: .ref a :: []) h = if refO h 8 (some (.ref a)) = true then (if (Call M_X8_seed h [.ref a, .int p0]).isSome = true then Run M_L_law 1287 [x0, x1, x2, x3] (rL (Call M_X8_seed h [.ref a, .int p0]) ++ []) (cH (Call M_X8_seed h [.ref a, .int p0])) else none) else none := R_virt d_L_law_1284 rfl rfl rfl rfl rfl (Nat.le_of_ble_eq_true rfl)
theorem d_L_law_1287 : decode (mB M_L_law) 1287 = .ok (.aload_n 2, 1) := by decide +kernel
theorem r_L_law_1287 {x0 x1 x3 : Value} {a : Nat} {st : List Value} {h : AH} : Run M_L_law 1287 [x0, x1, .ref a, x3] st h = Run M_L_law 1288 [x0, x1, .ref a, x3] (.ref a :: st) h := R_aload_n d_L_law_1287 rfl
theorem d_L_law_1288 : decode (mB M_L_law) 1288 = .ok (.aload_n 0, 1) := by decide +kernel
theorem r_L_law_1288 {x1 x2 x3 : Value} {a : Nat} {st : List Value} {h : AH} : Run M_L_law 1288 [.ref a, x1, x2, x3] st h = Run M_L_law 1289 [.ref a, x1, x2, x3] (.ref a :: st) h := R_aload_n d_L_law_1288 rfl
theorem d_L_law_1289 : decode (mB M_L_law) 1289 = .ok (.iload_n 3, 1) := by decide +kernel
theorem r_L_law_1289 {x0 x1 x2 : Value} {a : Int32} {st : List Value} {h : AH} : Run M_L_law 1289 [x0, x1, x2, .int a] st h = Run M_L_law 1290 [x0, x1, x2, .int a] (.int a :: st) h := R_iload_n d_L_law_1289 rfl
theorem d_L_law_1290 : decode (mB M_L_law) 1290 = .ok (.iconst 1, 1) := by decide +kernel
theorem r_L_law_1290 {x0 x1 x2 x3 : Value} {st : List Value} {h : AH} : Run M_L_law 1290 [x0, x1, x2, x3] st h = Run M_L_law 1291 [x0, x1, x2, x3] (.int (nI 1) :: st) h := R_iconst d_L_law_1290 (by decide)
theorem d_L_law_1291 : decode (mB M_L_law) 1291 = .ok (.iadd, 1) := by decide +kernel
theorem r_L_law_1291 {x0 x1 x2 x3 : Value} {x y : Int32} {st : List Value} {h : AH} : Run M_L_law 1291 [x0, x1, x2, x3] (.int y :: .int x :: st) h = Run M_L_law 1292 [x0, x1, x2, x3] (.int (x + y) :: st) h := R_iadd d_L_law_1291
theorem d_L_law_1292 : decode (mB M_L_law) 1292 = .ok (.iaload, 1) := by decide +kernel
theorem r_L_law_1292 {x0 x1 x2 x3 : Value} {a : Nat} {i : Int32} {st : List Value} {h : AH} : Run M_L_law 1292 [x0, x1, x2, x3] (.int i :: .ref a :: st) h = if (gI 0 h a i).isSome = true then Run M_L_law 1293 [x0, x1, x2, x3] (.int ((gI 0 h a i).getD 0) :: st) h else none := R_iaload d_L_law_1292
theorem d_L_law_1293 : decode (mB M_L_law) 1293 = .ok (.invokevirtual 172, 3) := by decide +kernel
theorem r_L_law_1293 {x0 x1 x2 x3 : Value} {p0 : Int32} {a : Nat} {w0 : Value} {h : AH} : Run M_L_law 1293 [x0, x1, x2, x3] (.int p0 :: .ref a :: [w0]) h = if refO h 9 (some (.ref a)) = true then (if (Call M_X9_seed h [.ref a, .int p0]).isSome = true then Run M_L_law 1296 [x0, x1, x2, x3] (rL (Call M_X9_seed h [.ref a, .int p0]) ++ [w0]) (cH (Call M_X9_seed h [.ref a, .int p0])) else none) else none := R_virt d_L_law_1293 rfl rfl rfl rfl rfl (Nat.le_of_ble_eq_true rfl)
theorem d_L_law_1296 : decode (mB M_L_law) 1296 = .ok (.if_icmp .eq 51, 3) := by decide +kernel
theorem r_L_law_1296 {x0 x1 x2 x3 : Value} {x y : Int32} {st : List Value} {h : AH} : Run M_L_law 1296 [x0, x1, x2, x3] (.int y :: .int x :: st) h = if x = y then Run M_L_law 1347 [x0, x1, x2, x3] st h else Run M_L_law 1299 [x0, x1, x2, x3] st h := R_icmp_eq d_L_law_1296 (by decide)
theorem d_L_law_1299 : decode (mB M_L_law) 1299 = .ok (.iconst 0, 1) := by decide +kernel
theorem r_L_law_1299 {x0 x1 x2 x3 : Value} {st : List Value} {h : AH} : Run M_L_law 1299 [x0, x1, x2, x3] st h = Run M_L_law 1300 [x0, x1, x2, x3] (.int (nI 0) :: st) h := R_iconst d_L_law_1299 (by decide)
theorem d_L_law_1300 : decode (mB M_L_law) 1300 = .ok (.ireturn, 1) := by decide +kernel
theorem r_L_law_1300_0 {x0 x1 x2 x3 : Value} {h : AH} : Run M_L_law 1300 [x0, x1, x2, x3] [.int (nI 0)] h = some (h, some (.int (nI 0))) := R_ireturn d_L_law_1300 rfl (by decide)
theorem r_L_law_1300_1 {x0 x1 x2 x3 : Value} {h : AH} : Run M_L_law 1300 [x0, x1, x2, x3] [.int (nI 1)] h = some (h, some (.int (nI 1))) := R_ireturn d_L_law_1300 rfl (by decide)
theorem r_L_law_1300_c {x0 x1 x2 x3 : Value} {c : Prop} [Decidable c] {h : AH} : Run M_L_law 1300 [x0, x1, x2, x3] [.int (bI c)] h = some (h, some (.int (bI c))) := R_ireturn d_L_law_1300 rfl narrow_bI
theorem d_L_law_1301 : decode (mB M_L_law) 1301 = .ok (.aload_n 1, 1) := by decide +kernel
theorem r_L_law_1301 {x0 x2 x3 : Value} {a : Nat} {st : List Value} {h : AH} : Run M_L_law 1301 [x0, .ref a, x2, x3] st h = Run M_L_law 1302 [x0, .ref a, x2, x3] (.ref a :: st) h := R_aload_n d_L_law_1301 rfl
theorem d_L_law_1302 : decode (mB M_L_law) 1302 = .ok (.aload_n 0, 1) := by decide +kernel
theorem r_L_law_1302 {x1 x2 x3 : Value} {a : Nat} {st : List Value} {h : AH} : Run M_L_law 1302 [.ref a, x1, x2, x3] st h = Run M_L_law 1303 [.ref a, x1, x2, x3] (.ref a :: st) h := R_aload_n d_L_law_1302 rfl
theorem d_L_law_1303 : decode (mB M_L_law) 1303 = .ok (.iload_n 3, 1) := by decide +kernel
theorem r_L_law_1303 {x0 x1 x2 : Value} {a : Int32} {st : List Value} {h : AH} : Run M_L_law 1303 [x0, x1, x2, .int a] st h = Run M_L_law 1304 [x0, x1, x2, .int a] (.int a :: st) h := R_iload_n d_L_law_1303 rfl
theorem d_L_law_1304 : decode (mB M_L_law) 1304 = .ok (.iconst 1, 1) := by decide +kernel
theorem r_L_law_1304 {x0 x1 x2 x3 : Value} {st : List Value} {h : AH} : Run M_L_law 1304 [x0, x1, x2, x3] st h = Run M_L_law 1305 [x0, x1, x2, x3] (.int (nI 1) :: st) h := R_iconst d_L_law_1304 (by decide)
theorem d_L_law_1305 : decode (mB M_L_law) 1305 = .ok (.iadd, 1) := by decide +kernel
theorem r_L_law_1305 {x0 x1 x2 x3 : Value} {x y : Int32} {st : List Value} {h : AH} : Run M_L_law 1305 [x0, x1, x2, x3] (.int y :: .int x :: st) h = Run M_L_law 1306 [x0, x1, x2, x3] (.int (x + y) :: st) h := R_iadd d_L_law_1305
theorem d_L_law_1306 : decode (mB M_L_law) 1306 = .ok (.iaload, 1) := by decide +kernel
theorem r_L_law_1306 {x0 x1 x2 x3 : Value} {a : Nat} {i : Int32} {st : List Value} {h : AH} : Run M_L_law 1306 [x0, x1, x2, x3] (.int i :: .ref a :: st) h = if (gI 0 h a i).isSome = true then Run M_L_law 1307 [x0, x1, x2, x3] (.int ((gI 0 h a i).getD 0) :: st) h else none := R_iaload d_L_law_1306
theorem d_L_law_1307 : decode (mB M_L_law) 1307 = .ok (.invokevirtual 173, 3) := by decide +kernel
theorem r_L_law_1307 {x0 x1 x2 x3 : Value} {p0 : Int32} {a : Nat} {h : AH} : Run M_L_law 1307 [x0, x1, x2, x3] (.int p0 :: .ref a :: []) h = if refO h 8 (some (.ref a)) = true then (if (Call M_X8_keep h [.ref a, .int p0]).isSome = true then Run M_L_law 1310 [x0, x1, x2, x3] (rL (Call M_X8_keep h [.ref a, .int p0]) ++ []) (cH (Call M_X8_keep h [.ref a, .int p0])) else none) else none := R_virt d_L_law_1307 rfl rfl rfl rfl rfl (Nat.le_of_ble_eq_true rfl)
theorem d_L_law_1310 : decode (mB M_L_law) 1310 = .ok (.aload_n 2, 1) := by decide +kernel
theorem r_L_law_1310 {x0 x1 x3 : Value} {a : Nat} {st : List Value} {h : AH} : Run M_L_law 1310 [x0, x1, .ref a, x3] st h = Run M_L_law 1311 [x0, x1, .ref a, x3] (.ref a :: st) h := R_aload_n d_L_law_1310 rfl
theorem d_L_law_1311 : decode (mB M_L_law) 1311 = .ok (.aload_n 0, 1) := by decide +kernel
theorem r_L_law_1311 {x1 x2 x3 : Value} {a : Nat} {st : List Value} {h : AH} : Run M_L_law 1311 [.ref a, x1, x2, x3] st h = Run M_L_law 1312 [.ref a, x1, x2, x3] (.ref a :: st) h := R_aload_n d_L_law_1311 rfl
theorem d_L_law_1312 : decode (mB M_L_law) 1312 = .ok (.iload_n 3, 1) := by decide +kernel
theorem r_L_law_1312 {x0 x1 x2 : Value} {a : Int32} {st : List Value} {h : AH} : Run M_L_law 1312 [x0, x1, x2, .int a] st h = Run M_L_law 1313 [x0, x1, x2, .int a] (.int a :: st) h := R_iload_n d_L_law_1312 rfl
theorem d_L_law_1313 : decode (mB M_L_law) 1313 = .ok (.iconst 1, 1) := by decide +kernel
theorem r_L_law_1313 {x0 x1 x2 x3 : Value} {st : List Value} {h : AH} : Run M_L_law 1313 [x0, x1, x2, x3] st h = Run M_L_law 1314 [x0, x1, x2, x3] (.int (nI 1) :: st) h := R_iconst d_L_law_1313 (by decide)
theorem d_L_law_1314 : decode (mB M_L_law) 1314 = .ok (.iadd, 1) := by decide +kernel
theorem r_L_law_1314 {x0 x1 x2 x3 : Value} {x y : Int32} {st : List Value} {h : AH} : Run M_L_law 1314 [x0, x1, x2, x3] (.int y :: .int x :: st) h = Run M_L_law 1315 [x0, x1, x2, x3] (.int (x + y) :: st) h := R_iadd d_L_law_1314
theorem d_L_law_1315 : decode (mB M_L_law) 1315 = .ok (.iaload, 1) := by decide +kernel
theorem r_L_law_1315 {x0 x1 x2 x3 : Value} {a : Nat} {i : Int32} {st : List Value} {h : AH} : Run M_L_law 1315 [x0, x1, x2, x3] (.int i :: .ref a :: st) h = if (gI 0 h a i).isSome = true then Run M_L_law 1316 [x0, x1, x2, x3] (.int ((gI 0 h a i).getD 0) :: st) h else none := R_iaload d_L_law_1315
theorem d_L_law_1316 : decode (mB M_L_law) 1316 = .ok (.invokevirtual 176, 3) := by decide +kernel
theorem r_L_law_1316 {x0 x1 x2 x3 : Value} {p0 : Int32} {a : Nat} {w0 : Value} {h : AH} : Run M_L_law 1316 [x0, x1, x2, x3] (.int p0 :: .ref a :: [w0]) h = if refO h 9 (some (.ref a)) = true then (if (Call M_X9_keep h [.ref a, .int p0]).isSome = true then Run M_L_law 1319 [x0, x1, x2, x3] (rL (Call M_X9_keep h [.ref a, .int p0]) ++ [w0]) (cH (Call M_X9_keep h [.ref a, .int p0])) else none) else none := R_virt d_L_law_1316 rfl rfl rfl rfl rfl (Nat.le_of_ble_eq_true rfl)
theorem d_L_law_1319 : decode (mB M_L_law) 1319 = .ok (.if_icmp .eq 28, 3) := by decide +kernel
theorem r_L_law_1319 {x0 x1 x2 x3 : Value} {x y : Int32} {st : List Value} {h : AH} : Run M_L_law 1319 [x0, x1, x2, x3] (.int y :: .int x :: st) h = if x = y then Run M_L_law 1347 [x0, x1, x2, x3] st h else Run M_L_law 1322 [x0, x1, x2, x3] st h := R_icmp_eq d_L_law_1319 (by decide)
theorem d_L_law_1322 : decode (mB M_L_law) 1322 = .ok (.iconst 0, 1) := by decide +kernel
theorem r_L_law_1322 {x0 x1 x2 x3 : Value} {st : List Value} {h : AH} : Run M_L_law 1322 [x0, x1, x2, x3] st h = Run M_L_law 1323 [x0, x1, x2, x3] (.int (nI 0) :: st) h := R_iconst d_L_law_1322 (by decide)
theorem d_L_law_1323 : decode (mB M_L_law) 1323 = .ok (.ireturn, 1) := by decide +kernel
theorem r_L_law_1323_0 {x0 x1 x2 x3 : Value} {h : AH} : Run M_L_law 1323 [x0, x1, x2, x3] [.int (nI 0)] h = some (h, some (.int (nI 0))) := R_ireturn d_L_law_1323 rfl (by decide)
theorem r_L_law_1323_1 {x0 x1 x2 x3 : Value} {h : AH} : Run M_L_law 1323 [x0, x1, x2, x3] [.int (nI 1)] h = some (h, some (.int (nI 1))) := R_ireturn d_L_law_1323 rfl (by decide)
theorem r_L_law_1323_c {x0 x1 x2 x3 : Value} {c : Prop} [Decidable c] {h : AH} : Run M_L_law 1323 [x0, x1, x2, x3] [.int (bI c)] h = some (h, some (.int (bI c))) := R_ireturn d_L_law_1323 rfl narrow_bI
theorem d_L_law_1324 : decode (mB M_L_law) 1324 = .ok (.aload_n 1, 1) := by decide +kernel
theorem r_L_law_1324 {x0 x2 x3 : Value} {a : Nat} {st : List Value} {h : AH} : Run M_L_law 1324 [x0, .ref a, x2, x3] st h = Run M_L_law 1325 [x0, .ref a, x2, x3] (.ref a :: st) h := R_aload_n d_L_law_1324 rfl
theorem d_L_law_1325 : decode (mB M_L_law) 1325 = .ok (.aload_n 0, 1) := by decide +kernel
theorem r_L_law_1325 {x1 x2 x3 : Value} {a : Nat} {st : List Value} {h : AH} : Run M_L_law 1325 [.ref a, x1, x2, x3] st h = Run M_L_law 1326 [.ref a, x1, x2, x3] (.ref a :: st) h := R_aload_n d_L_law_1325 rfl
theorem d_L_law_1326 : decode (mB M_L_law) 1326 = .ok (.iload_n 3, 1) := by decide +kernel
theorem r_L_law_1326 {x0 x1 x2 : Value} {a : Int32} {st : List Value} {h : AH} : Run M_L_law 1326 [x0, x1, x2, .int a] st h = Run M_L_law 1327 [x0, x1, x2, .int a] (.int a :: st) h := R_iload_n d_L_law_1326 rfl
theorem d_L_law_1327 : decode (mB M_L_law) 1327 = .ok (.iconst 1, 1) := by decide +kernel
theorem r_L_law_1327 {x0 x1 x2 x3 : Value} {st : List Value} {h : AH} : Run M_L_law 1327 [x0, x1, x2, x3] st h = Run M_L_law 1328 [x0, x1, x2, x3] (.int (nI 1) :: st) h := R_iconst d_L_law_1327 (by decide)
theorem d_L_law_1328 : decode (mB M_L_law) 1328 = .ok (.iadd, 1) := by decide +kernel
theorem r_L_law_1328 {x0 x1 x2 x3 : Value} {x y : Int32} {st : List Value} {h : AH} : Run M_L_law 1328 [x0, x1, x2, x3] (.int y :: .int x :: st) h = Run M_L_law 1329 [x0, x1, x2, x3] (.int (x + y) :: st) h := R_iadd d_L_law_1328
theorem d_L_law_1329 : decode (mB M_L_law) 1329 = .ok (.iaload, 1) := by decide +kernel
theorem r_L_law_1329 {x0 x1 x2 x3 : Value} {a : Nat} {i : Int32} {st : List Value} {h : AH} : Run M_L_law 1329 [x0, x1, x2, x3] (.int i :: .ref a :: st) h = if (gI 0 h a i).isSome = true then Run M_L_law 1330 [x0, x1, x2, x3] (.int ((gI 0 h a i).getD 0) :: st) h else none := R_iaload d_L_law_1329
theorem d_L_law_1330 : decode (mB M_L_law) 1330 = .ok (.invokevirtual 177, 3) := by decide +kernel
theorem r_L_law_1330 {x0 x1 x2 x3 : Value} {p0 : Int32} {a : Nat} {h : AH} : Run M_L_law 1330 [x0, x1, x2, x3] (.int p0 :: .ref a :: []) h = if refO h 8 (some (.ref a)) = true then (if (Call M_X8_goBack h [.ref a, .int p0]).isSome = true then Run M_L_law 1333 [x0, x1, x2, x3] (rL (Call M_X8_goBack h [.ref a, .int p0]) ++ []) (cH (Call M_X8_goBack h [.ref a, .int p0])) else none) else none := R_virt d_L_law_1330 rfl rfl rfl rfl rfl (Nat.le_of_ble_eq_true rfl)
theorem d_L_law_1333 : decode (mB M_L_law) 1333 = .ok (.aload_n 2, 1) := by decide +kernel
theorem r_L_law_1333 {x0 x1 x3 : Value} {a : Nat} {st : List Value} {h : AH} : Run M_L_law 1333 [x0, x1, .ref a, x3] st h = Run M_L_law 1334 [x0, x1, .ref a, x3] (.ref a :: st) h := R_aload_n d_L_law_1333 rfl
theorem d_L_law_1334 : decode (mB M_L_law) 1334 = .ok (.aload_n 0, 1) := by decide +kernel
theorem r_L_law_1334 {x1 x2 x3 : Value} {a : Nat} {st : List Value} {h : AH} : Run M_L_law 1334 [.ref a, x1, x2, x3] st h = Run M_L_law 1335 [.ref a, x1, x2, x3] (.ref a :: st) h := R_aload_n d_L_law_1334 rfl
theorem d_L_law_1335 : decode (mB M_L_law) 1335 = .ok (.iload_n 3, 1) := by decide +kernel
theorem r_L_law_1335 {x0 x1 x2 : Value} {a : Int32} {st : List Value} {h : AH} : Run M_L_law 1335 [x0, x1, x2, .int a] st h = Run M_L_law 1336 [x0, x1, x2, .int a] (.int a :: st) h := R_iload_n d_L_law_1335 rfl
theorem d_L_law_1336 : decode (mB M_L_law) 1336 = .ok (.iconst 1, 1) := by decide +kernel
theorem r_L_law_1336 {x0 x1 x2 x3 : Value} {st : List Value} {h : AH} : Run M_L_law 1336 [x0, x1, x2, x3] st h = Run M_L_law 1337 [x0, x1, x2, x3] (.int (nI 1) :: st) h := R_iconst d_L_law_1336 (by decide)
theorem d_L_law_1337 : decode (mB M_L_law) 1337 = .ok (.iadd, 1) := by decide +kernel
theorem r_L_law_1337 {x0 x1 x2 x3 : Value} {x y : Int32} {st : List Value} {h : AH} : Run M_L_law 1337 [x0, x1, x2, x3] (.int y :: .int x :: st) h = Run M_L_law 1338 [x0, x1, x2, x3] (.int (x + y) :: st) h := R_iadd d_L_law_1337
theorem d_L_law_1338 : decode (mB M_L_law) 1338 = .ok (.iaload, 1) := by decide +kernel
theorem r_L_law_1338 {x0 x1 x2 x3 : Value} {a : Nat} {i : Int32} {st : List Value} {h : AH} : Run M_L_law 1338 [x0, x1, x2, x3] (.int i :: .ref a :: st) h = if (gI 0 h a i).isSome = true then Run M_L_law 1339 [x0, x1, x2, x3] (.int ((gI 0 h a i).getD 0) :: st) h else none := R_iaload d_L_law_1338
theorem d_L_law_1339 : decode (mB M_L_law) 1339 = .ok (.invokevirtual 180, 3) := by decide +kernel
theorem r_L_law_1339 {x0 x1 x2 x3 : Value} {p0 : Int32} {a : Nat} {w0 : Value} {h : AH} : Run M_L_law 1339 [x0, x1, x2, x3] (.int p0 :: .ref a :: [w0]) h = if refO h 9 (some (.ref a)) = true then (if (Call M_X9_goBack h [.ref a, .int p0]).isSome = true then Run M_L_law 1342 [x0, x1, x2, x3] (rL (Call M_X9_goBack h [.ref a, .int p0]) ++ [w0]) (cH (Call M_X9_goBack h [.ref a, .int p0])) else none) else none := R_virt d_L_law_1339 rfl rfl rfl rfl rfl (Nat.le_of_ble_eq_true rfl)
theorem d_L_law_1342 : decode (mB M_L_law) 1342 = .ok (.if_icmp .eq 5, 3) := by decide +kernel
theorem r_L_law_1342 {x0 x1 x2 x3 : Value} {x y : Int32} {st : List Value} {h : AH} : Run M_L_law 1342 [x0, x1, x2, x3] (.int y :: .int x :: st) h = if x = y then Run M_L_law 1347 [x0, x1, x2, x3] st h else Run M_L_law 1345 [x0, x1, x2, x3] st h := R_icmp_eq d_L_law_1342 (by decide)
theorem d_L_law_1345 : decode (mB M_L_law) 1345 = .ok (.iconst 0, 1) := by decide +kernel
theorem r_L_law_1345 {x0 x1 x2 x3 : Value} {st : List Value} {h : AH} : Run M_L_law 1345 [x0, x1, x2, x3] st h = Run M_L_law 1346 [x0, x1, x2, x3] (.int (nI 0) :: st) h := R_iconst d_L_law_1345 (by decide)
theorem d_L_law_1346 : decode (mB M_L_law) 1346 = .ok (.ireturn, 1) := by decide +kernel
theorem r_L_law_1346_0 {x0 x1 x2 x3 : Value} {h : AH} : Run M_L_law 1346 [x0, x1, x2, x3] [.int (nI 0)] h = some (h, some (.int (nI 0))) := R_ireturn d_L_law_1346 rfl (by decide)
theorem r_L_law_1346_1 {x0 x1 x2 x3 : Value} {h : AH} : Run M_L_law 1346 [x0, x1, x2, x3] [.int (nI 1)] h = some (h, some (.int (nI 1))) := R_ireturn d_L_law_1346 rfl (by decide)
theorem r_L_law_1346_c {x0 x1 x2 x3 : Value} {c : Prop} [Decidable c] {h : AH} : Run M_L_law 1346 [x0, x1, x2, x3] [.int (bI c)] h = some (h, some (.int (bI c))) := R_ireturn d_L_law_1346 rfl narrow_bI
theorem d_L_law_1347 : decode (mB M_L_law) 1347 = .ok (.iinc 3 5, 3) := by decide +kernel
theorem r_L_law_1347 {x0 x1 x2 : Value} {a : Int32} {st : List Value} {h : AH} (hc : x2.category = 1) : Run M_L_law 1347 [x0, x1, x2, .int a] st h = Run M_L_law 1350 [x0, x1, x2, .int (a + (nI 5))] st h := R_iinc d_L_law_1347 (by decide) rfl (catP_of rfl hc)
theorem d_L_law_1350 : decode (mB M_L_law) 1350 = .ok (.goto (-1332), 3) := by decide +kernel
theorem r_L_law_1350 {x0 x1 x2 x3 : Value} {st : List Value} {h : AH} : Run M_L_law 1350 [x0, x1, x2, x3] st h = Run M_L_law 18 [x0, x1, x2, x3] st h := R_goto d_L_law_1350 (by decide)
theorem d_L_law_1353 : decode (mB M_L_law) 1353 = .ok (.iconst 1, 1) := by decide +kernel
theorem r_L_law_1353 {x0 x1 x2 x3 : Value} {st : List Value} {h : AH} : Run M_L_law 1353 [x0, x1, x2, x3] st h = Run M_L_law 1354 [x0, x1, x2, x3] (.int (nI 1) :: st) h := R_iconst d_L_law_1353 (by decide)
theorem d_L_law_1354 : decode (mB M_L_law) 1354 = .ok (.ireturn, 1) := by decide +kernel
theorem r_L_law_1354_0 {x0 x1 x2 x3 : Value} {h : AH} : Run M_L_law 1354 [x0, x1, x2, x3] [.int (nI 0)] h = some (h, some (.int (nI 0))) := R_ireturn d_L_law_1354 rfl (by decide)
theorem r_L_law_1354_1 {x0 x1 x2 x3 : Value} {h : AH} : Run M_L_law 1354 [x0, x1, x2, x3] [.int (nI 1)] h = some (h, some (.int (nI 1))) := R_ireturn d_L_law_1354 rfl (by decide)
theorem r_L_law_1354_c {x0 x1 x2 x3 : Value} {c : Prop} [Decidable c] {h : AH} : Run M_L_law 1354 [x0, x1, x2, x3] [.int (bI c)] h = some (h, some (.int (bI c))) := R_ireturn d_L_law_1354 rfl narrow_bI
