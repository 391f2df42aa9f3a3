/-! ===== the constructor of the model ===== -/
set_option maxHeartbeats 4000000 in
theorem i_X9 {h : AH} (h1 : h.1 = 89) (ha : h.2.2 88 = some (oB 9 [.null, .null, .null, .int 0, .null, .null, .null, .null, .null, .int 0, .int 0, .null, .null, .int 0, .int 0, .int 0, .int 0, .int 0, .int 0, .int 0, .int 0, .int 0, .null, .null, .null, .null, .null, .int 0, .null, .int 0, .null, .null, .int 0, .int 0, .null, .null, .int 0, .null, .int 0, .null])) :
    ∃ h', Call M_X9_init h [.ref 88] = some (h', none) ∧ RepM h' (Q0 0) ∧ h'.1 = 111 ∧ h'.2.1 = h.2.1 + 1362 ∧ ∀ x, x < 88 → h'.2.2 x = h.2.2 x := by
  obtain ⟨G1, p1, a1, b1, c1, d1, q1⟩ := mk1 (k := 0) (n := 19) (c := iA 19 (fun _ => 0)) ha (by simp) (by omega)
  rw [h1] at p1 a1 b1 c1 q1
  have o1 : G1.2.2 88 = some (oB 9 [.ref 89, .null, .null, .int 0, .null, .null, .null, .null, .null, .int 0, .int 0, .null, .null, .int 0, .int 0, .int 0, .int 0, .int 0, .int 0, .int 0, .int 0, .int 0, .null, .null, .null, .null, .null, .int 0, .null, .int 0, .null, .null, .int 0, .int 0, .null, .null, .int 0, .null, .int 0, .null]) := a1
  have e1 : G1.2.1 = h.2.1 + 19 := by rw [d1]
  obtain ⟨G2, p2, a2, b2, c2, d2, q2⟩ := mk1 (k := 1) (n := 38) (c := iA 38 (fun _ => 0)) o1 (by simp) (by omega)
  rw [c1] at p2 a2 b2 c2 q2
  have o2 : G2.2.2 88 = some (oB 9 [.ref 89, .ref 90, .null, .int 0, .null, .null, .null, .null, .null, .int 0, .int 0, .null, .null, .int 0, .int 0, .int 0, .int 0, .int 0, .int 0, .int 0, .int 0, .int 0, .null, .null, .null, .null, .null, .int 0, .null, .int 0, .null, .null, .int 0, .int 0, .null, .null, .int 0, .null, .int 0, .null]) := a2
  have e2 : G2.2.1 = h.2.1 + 57 := by rw [d2, e1]
  obtain ⟨G3, p3, a3, b3, c3, d3, q3⟩ := mk1 (k := 2) (n := 2) (c := zA 2 (fun _ => 0)) o2 (by simp) (by omega)
  rw [c2] at p3 a3 b3 c3 q3
  have o3 : G3.2.2 88 = some (oB 9 [.ref 89, .ref 90, .ref 91, .int 0, .null, .null, .null, .null, .null, .int 0, .int 0, .null, .null, .int 0, .int 0, .int 0, .int 0, .int 0, .int 0, .int 0, .int 0, .int 0, .null, .null, .null, .null, .null, .int 0, .null, .int 0, .null, .null, .int 0, .int 0, .null, .null, .int 0, .null, .int 0, .null]) := a3
  have e3 : G3.2.1 = h.2.1 + 59 := by rw [d3, e2]
  obtain ⟨G4, p4, a4, b4, c4, d4, q4⟩ := mk1 (k := 4) (n := 7) (c := iA 7 (fun _ => 0)) o3 (by simp) (by omega)
  rw [c3] at p4 a4 b4 c4 q4
  have o4 : G4.2.2 88 = some (oB 9 [.ref 89, .ref 90, .ref 91, .int 0, .ref 92, .null, .null, .null, .null, .int 0, .int 0, .null, .null, .int 0, .int 0, .int 0, .int 0, .int 0, .int 0, .int 0, .int 0, .int 0, .null, .null, .null, .null, .null, .int 0, .null, .int 0, .null, .null, .int 0, .int 0, .null, .null, .int 0, .null, .int 0, .null]) := a4
  have e4 : G4.2.1 = h.2.1 + 66 := by rw [d4, e3]
  obtain ⟨G5, p5, a5, b5, c5, d5, q5⟩ := mk1 (k := 5) (n := 7) (c := iA 7 (fun _ => 0)) o4 (by simp) (by omega)
  rw [c4] at p5 a5 b5 c5 q5
  have o5 : G5.2.2 88 = some (oB 9 [.ref 89, .ref 90, .ref 91, .int 0, .ref 92, .ref 93, .null, .null, .null, .int 0, .int 0, .null, .null, .int 0, .int 0, .int 0, .int 0, .int 0, .int 0, .int 0, .int 0, .int 0, .null, .null, .null, .null, .null, .int 0, .null, .int 0, .null, .null, .int 0, .int 0, .null, .null, .int 0, .null, .int 0, .null]) := a5
  have e5 : G5.2.1 = h.2.1 + 73 := by rw [d5, e4]
  obtain ⟨G6, p6, a6, b6, c6, d6, q6⟩ := mk1 (k := 6) (n := 7) (c := iA 7 (fun _ => 0)) o5 (by simp) (by omega)
  rw [c5] at p6 a6 b6 c6 q6
  have o6 : G6.2.2 88 = some (oB 9 [.ref 89, .ref 90, .ref 91, .int 0, .ref 92, .ref 93, .ref 94, .null, .null, .int 0, .int 0, .null, .null, .int 0, .int 0, .int 0, .int 0, .int 0, .int 0, .int 0, .int 0, .int 0, .null, .null, .null, .null, .null, .int 0, .null, .int 0, .null, .null, .int 0, .int 0, .null, .null, .int 0, .null, .int 0, .null]) := a6
  have e6 : G6.2.1 = h.2.1 + 80 := by rw [d6, e5]
  obtain ⟨G7, p7, a7, b7, c7, d7, q7⟩ := mk1 (k := 7) (n := 7) (c := iA 7 (fun _ => 0)) o6 (by simp) (by omega)
  rw [c6] at p7 a7 b7 c7 q7
  have o7 : G7.2.2 88 = some (oB 9 [.ref 89, .ref 90, .ref 91, .int 0, .ref 92, .ref 93, .ref 94, .ref 95, .null, .int 0, .int 0, .null, .null, .int 0, .int 0, .int 0, .int 0, .int 0, .int 0, .int 0, .int 0, .int 0, .null, .null, .null, .null, .null, .int 0, .null, .int 0, .null, .null, .int 0, .int 0, .null, .null, .int 0, .null, .int 0, .null]) := a7
  have e7 : G7.2.1 = h.2.1 + 87 := by rw [d7, e6]
  obtain ⟨G8, p8, a8, b8, c8, d8, q8⟩ := mk1 (k := 8) (n := 28) (c := iA 28 (fun _ => 0)) o7 (by simp) (by omega)
  rw [c7] at p8 a8 b8 c8 q8
  have o8 : G8.2.2 88 = some (oB 9 [.ref 89, .ref 90, .ref 91, .int 0, .ref 92, .ref 93, .ref 94, .ref 95, .ref 96, .int 0, .int 0, .null, .null, .int 0, .int 0, .int 0, .int 0, .int 0, .int 0, .int 0, .int 0, .int 0, .null, .null, .null, .null, .null, .int 0, .null, .int 0, .null, .null, .int 0, .int 0, .null, .null, .int 0, .null, .int 0, .null]) := a8
  have e8 : G8.2.1 = h.2.1 + 115 := by rw [d8, e7]
  obtain ⟨G9, p9, a9, b9, c9, d9, q9⟩ := mk1 (k := 11) (n := 10) (c := iA 10 (fun _ => 0)) o8 (by simp) (by omega)
  rw [c8] at p9 a9 b9 c9 q9
  have o9 : G9.2.2 88 = some (oB 9 [.ref 89, .ref 90, .ref 91, .int 0, .ref 92, .ref 93, .ref 94, .ref 95, .ref 96, .int 0, .int 0, .ref 97, .null, .int 0, .int 0, .int 0, .int 0, .int 0, .int 0, .int 0, .int 0, .int 0, .null, .null, .null, .null, .null, .int 0, .null, .int 0, .null, .null, .int 0, .int 0, .null, .null, .int 0, .null, .int 0, .null]) := a9
  have e9 : G9.2.1 = h.2.1 + 125 := by rw [d9, e8]
  obtain ⟨G10, p10, a10, b10, c10, d10, q10⟩ := mk1 (k := 12) (n := 250) (c := iA 250 (fun _ => 0)) o9 (by simp) (by omega)
  rw [c9] at p10 a10 b10 c10 q10
  have o10 : G10.2.2 88 = some (oB 9 [.ref 89, .ref 90, .ref 91, .int 0, .ref 92, .ref 93, .ref 94, .ref 95, .ref 96, .int 0, .int 0, .ref 97, .ref 98, .int 0, .int 0, .int 0, .int 0, .int 0, .int 0, .int 0, .int 0, .int 0, .null, .null, .null, .null, .null, .int 0, .null, .int 0, .null, .null, .int 0, .int 0, .null, .null, .int 0, .null, .int 0, .null]) := a10
  have e10 : G10.2.1 = h.2.1 + 375 := by rw [d10, e9]
  have pm := pF_raw (k := 20) (v := .int (-1)) o10 (by simp)
  generalize hGm : hup G10 88 _ = Gm at pm
  have om : Gm.2.2 88 = some (oB 9 [.ref 89, .ref 90, .ref 91, .int 0, .ref 92, .ref 93, .ref 94, .ref 95, .ref 96, .int 0, .int 0, .ref 97, .ref 98, .int 0, .int 0, .int 0, .int 0, .int 0, .int 0, .int 0, .int (-1), .int 0, .null, .null, .null, .null, .null, .int 0, .null, .int 0, .null, .null, .int 0, .int 0, .null, .null, .int 0, .null, .int 0, .null]) := by rw [← hGm]; exact hup_get
  have qm : ∀ x, x ≠ 88 → Gm.2.2 x = G10.2.2 x := fun x hx => by rw [← hGm]; exact hup_ne hx
  have cm : Gm.1 = 99 := by rw [← hGm]; exact c10
  have dm : Gm.2.1 = h.2.1 + 375 := by rw [← hGm]; exact e10
  obtain ⟨G11, p11, a11, b11, c11, d11, q11⟩ := mk1 (k := 22) (n := 7) (c := iA 7 (fun _ => 0)) om (by simp) (by omega)
  rw [cm] at p11 a11 b11 c11 q11
  have o11 : G11.2.2 88 = some (oB 9 [.ref 89, .ref 90, .ref 91, .int 0, .ref 92, .ref 93, .ref 94, .ref 95, .ref 96, .int 0, .int 0, .ref 97, .ref 98, .int 0, .int 0, .int 0, .int 0, .int 0, .int 0, .int 0, .int (-1), .int 0, .ref 99, .null, .null, .null, .null, .int 0, .null, .int 0, .null, .null, .int 0, .int 0, .null, .null, .int 0, .null, .int 0, .null]) := a11
  have e11 : G11.2.1 = h.2.1 + 382 := by rw [d11, dm]
  obtain ⟨G12, p12, a12, b12, c12, d12, q12⟩ := mk1 (k := 23) (n := 7) (c := iA 7 (fun _ => 0)) o11 (by simp) (by omega)
  rw [c11] at p12 a12 b12 c12 q12
  have o12 : G12.2.2 88 = some (oB 9 [.ref 89, .ref 90, .ref 91, .int 0, .ref 92, .ref 93, .ref 94, .ref 95, .ref 96, .int 0, .int 0, .ref 97, .ref 98, .int 0, .int 0, .int 0, .int 0, .int 0, .int 0, .int 0, .int (-1), .int 0, .ref 99, .ref 100, .null, .null, .null, .int 0, .null, .int 0, .null, .null, .int 0, .int 0, .null, .null, .int 0, .null, .int 0, .null]) := a12
  have e12 : G12.2.1 = h.2.1 + 389 := by rw [d12, e11]
  obtain ⟨G13, p13, a13, b13, c13, d13, q13⟩ := mk1 (k := 24) (n := 7) (c := iA 7 (fun _ => 0)) o12 (by simp) (by omega)
  rw [c12] at p13 a13 b13 c13 q13
  have o13 : G13.2.2 88 = some (oB 9 [.ref 89, .ref 90, .ref 91, .int 0, .ref 92, .ref 93, .ref 94, .ref 95, .ref 96, .int 0, .int 0, .ref 97, .ref 98, .int 0, .int 0, .int 0, .int 0, .int 0, .int 0, .int 0, .int (-1), .int 0, .ref 99, .ref 100, .ref 101, .null, .null, .int 0, .null, .int 0, .null, .null, .int 0, .int 0, .null, .null, .int 0, .null, .int 0, .null]) := a13
  have e13 : G13.2.1 = h.2.1 + 396 := by rw [d13, e12]
  obtain ⟨G14, p14, a14, b14, c14, d14, q14⟩ := mk1 (k := 25) (n := 7) (c := iA 7 (fun _ => 0)) o13 (by simp) (by omega)
  rw [c13] at p14 a14 b14 c14 q14
  have o14 : G14.2.2 88 = some (oB 9 [.ref 89, .ref 90, .ref 91, .int 0, .ref 92, .ref 93, .ref 94, .ref 95, .ref 96, .int 0, .int 0, .ref 97, .ref 98, .int 0, .int 0, .int 0, .int 0, .int 0, .int 0, .int 0, .int (-1), .int 0, .ref 99, .ref 100, .ref 101, .ref 102, .null, .int 0, .null, .int 0, .null, .null, .int 0, .int 0, .null, .null, .int 0, .null, .int 0, .null]) := a14
  have e14 : G14.2.1 = h.2.1 + 403 := by rw [d14, e13]
  obtain ⟨G15, p15, a15, b15, c15, d15, q15⟩ := mk1 (k := 26) (n := 28) (c := iA 28 (fun _ => 0)) o14 (by simp) (by omega)
  rw [c14] at p15 a15 b15 c15 q15
  have o15 : G15.2.2 88 = some (oB 9 [.ref 89, .ref 90, .ref 91, .int 0, .ref 92, .ref 93, .ref 94, .ref 95, .ref 96, .int 0, .int 0, .ref 97, .ref 98, .int 0, .int 0, .int 0, .int 0, .int 0, .int 0, .int 0, .int (-1), .int 0, .ref 99, .ref 100, .ref 101, .ref 102, .ref 103, .int 0, .null, .int 0, .null, .null, .int 0, .int 0, .null, .null, .int 0, .null, .int 0, .null]) := a15
  have e15 : G15.2.1 = h.2.1 + 431 := by rw [d15, e14]
  obtain ⟨G16, p16, a16, b16, c16, d16, q16⟩ := mk1 (k := 28) (n := 10) (c := iA 10 (fun _ => 0)) o15 (by simp) (by omega)
  rw [c15] at p16 a16 b16 c16 q16
  have o16 : G16.2.2 88 = some (oB 9 [.ref 89, .ref 90, .ref 91, .int 0, .ref 92, .ref 93, .ref 94, .ref 95, .ref 96, .int 0, .int 0, .ref 97, .ref 98, .int 0, .int 0, .int 0, .int 0, .int 0, .int 0, .int 0, .int (-1), .int 0, .ref 99, .ref 100, .ref 101, .ref 102, .ref 103, .int 0, .ref 104, .int 0, .null, .null, .int 0, .int 0, .null, .null, .int 0, .null, .int 0, .null]) := a16
  have e16 : G16.2.1 = h.2.1 + 441 := by rw [d16, e15]
  obtain ⟨G17, p17, a17, b17, c17, d17, q17⟩ := mk1 (k := 30) (n := 10) (c := iA 10 (fun _ => 0)) o16 (by simp) (by omega)
  rw [c16] at p17 a17 b17 c17 q17
  have o17 : G17.2.2 88 = some (oB 9 [.ref 89, .ref 90, .ref 91, .int 0, .ref 92, .ref 93, .ref 94, .ref 95, .ref 96, .int 0, .int 0, .ref 97, .ref 98, .int 0, .int 0, .int 0, .int 0, .int 0, .int 0, .int 0, .int (-1), .int 0, .ref 99, .ref 100, .ref 101, .ref 102, .ref 103, .int 0, .ref 104, .int 0, .ref 105, .null, .int 0, .int 0, .null, .null, .int 0, .null, .int 0, .null]) := a17
  have e17 : G17.2.1 = h.2.1 + 451 := by rw [d17, e16]
  obtain ⟨G18, p18, a18, b18, c18, d18, q18⟩ := mk1 (k := 31) (n := 5) (c := iA 5 (fun _ => 0)) o17 (by simp) (by omega)
  rw [c17] at p18 a18 b18 c18 q18
  have o18 : G18.2.2 88 = some (oB 9 [.ref 89, .ref 90, .ref 91, .int 0, .ref 92, .ref 93, .ref 94, .ref 95, .ref 96, .int 0, .int 0, .ref 97, .ref 98, .int 0, .int 0, .int 0, .int 0, .int 0, .int 0, .int 0, .int (-1), .int 0, .ref 99, .ref 100, .ref 101, .ref 102, .ref 103, .int 0, .ref 104, .int 0, .ref 105, .ref 106, .int 0, .int 0, .null, .null, .int 0, .null, .int 0, .null]) := a18
  have e18 : G18.2.1 = h.2.1 + 456 := by rw [d18, e17]
  obtain ⟨G19, p19, a19, b19, c19, d19, q19⟩ := mk1 (k := 34) (n := 421) (c := jA 421 (fun _ => 0)) o18 (by simp) (by omega)
  rw [c18] at p19 a19 b19 c19 q19
  have o19 : G19.2.2 88 = some (oB 9 [.ref 89, .ref 90, .ref 91, .int 0, .ref 92, .ref 93, .ref 94, .ref 95, .ref 96, .int 0, .int 0, .ref 97, .ref 98, .int 0, .int 0, .int 0, .int 0, .int 0, .int 0, .int 0, .int (-1), .int 0, .ref 99, .ref 100, .ref 101, .ref 102, .ref 103, .int 0, .ref 104, .int 0, .ref 105, .ref 106, .int 0, .int 0, .ref 107, .null, .int 0, .null, .int 0, .null]) := a19
  have e19 : G19.2.1 = h.2.1 + 877 := by rw [d19, e18]
  obtain ⟨G20, p20, a20, b20, c20, d20, q20⟩ := mk1 (k := 35) (n := 421) (c := jA 421 (fun _ => 0)) o19 (by simp) (by omega)
  rw [c19] at p20 a20 b20 c20 q20
  have o20 : G20.2.2 88 = some (oB 9 [.ref 89, .ref 90, .ref 91, .int 0, .ref 92, .ref 93, .ref 94, .ref 95, .ref 96, .int 0, .int 0, .ref 97, .ref 98, .int 0, .int 0, .int 0, .int 0, .int 0, .int 0, .int 0, .int (-1), .int 0, .ref 99, .ref 100, .ref 101, .ref 102, .ref 103, .int 0, .ref 104, .int 0, .ref 105, .ref 106, .int 0, .int 0, .ref 107, .ref 108, .int 0, .null, .int 0, .null]) := a20
  have e20 : G20.2.1 = h.2.1 + 1298 := by rw [d20, e19]
  obtain ⟨G21, p21, a21, b21, c21, d21, q21⟩ := mk1 (k := 37) (n := 24) (c := iA 24 (fun _ => 0)) o20 (by simp) (by omega)
  rw [c20] at p21 a21 b21 c21 q21
  have o21 : G21.2.2 88 = some (oB 9 [.ref 89, .ref 90, .ref 91, .int 0, .ref 92, .ref 93, .ref 94, .ref 95, .ref 96, .int 0, .int 0, .ref 97, .ref 98, .int 0, .int 0, .int 0, .int 0, .int 0, .int 0, .int 0, .int (-1), .int 0, .ref 99, .ref 100, .ref 101, .ref 102, .ref 103, .int 0, .ref 104, .int 0, .ref 105, .ref 106, .int 0, .int 0, .ref 107, .ref 108, .int 0, .ref 109, .int 0, .null]) := a21
  have e21 : G21.2.1 = h.2.1 + 1322 := by rw [d21, e20]
  obtain ⟨G22, p22, a22, b22, c22, d22, q22⟩ := mk1 (k := 39) (n := 40) (c := iA 40 (fun _ => 0)) o21 (by simp) (by omega)
  rw [c21] at p22 a22 b22 c22 q22
  have o22 : G22.2.2 88 = some (oB 9 [.ref 89, .ref 90, .ref 91, .int 0, .ref 92, .ref 93, .ref 94, .ref 95, .ref 96, .int 0, .int 0, .ref 97, .ref 98, .int 0, .int 0, .int 0, .int 0, .int 0, .int 0, .int 0, .int (-1), .int 0, .ref 99, .ref 100, .ref 101, .ref 102, .ref 103, .int 0, .ref 104, .int 0, .ref 105, .ref 106, .int 0, .int 0, .ref 107, .ref 108, .int 0, .ref 109, .int 0, .ref 110]) := a22
  have e22 : G22.2.1 = h.2.1 + 1362 := by rw [d22, e21]
  have w89 : G22.2.2 89 = some (iA 19 (fun _ => 0)) := by rw [q22 89 (by decide) (by decide), q21 89 (by decide) (by decide), q20 89 (by decide) (by decide), q19 89 (by decide) (by decide), q18 89 (by decide) (by decide), q17 89 (by decide) (by decide), q16 89 (by decide) (by decide), q15 89 (by decide) (by decide), q14 89 (by decide) (by decide), q13 89 (by decide) (by decide), q12 89 (by decide) (by decide), q11 89 (by decide) (by decide), qm 89 (by decide), q10 89 (by decide) (by decide), q9 89 (by decide) (by decide), q8 89 (by decide) (by decide), q7 89 (by decide) (by decide), q6 89 (by decide) (by decide), q5 89 (by decide) (by decide), q4 89 (by decide) (by decide), q3 89 (by decide) (by decide), q2 89 (by decide) (by decide)]; exact b1
  have w90 : G22.2.2 90 = some (iA 38 (fun _ => 0)) := by rw [q22 90 (by decide) (by decide), q21 90 (by decide) (by decide), q20 90 (by decide) (by decide), q19 90 (by decide) (by decide), q18 90 (by decide) (by decide), q17 90 (by decide) (by decide), q16 90 (by decide) (by decide), q15 90 (by decide) (by decide), q14 90 (by decide) (by decide), q13 90 (by decide) (by decide), q12 90 (by decide) (by decide), q11 90 (by decide) (by decide), qm 90 (by decide), q10 90 (by decide) (by decide), q9 90 (by decide) (by decide), q8 90 (by decide) (by decide), q7 90 (by decide) (by decide), q6 90 (by decide) (by decide), q5 90 (by decide) (by decide), q4 90 (by decide) (by decide), q3 90 (by decide) (by decide)]; exact b2
  have w91 : G22.2.2 91 = some (zA 2 (fun _ => 0)) := by rw [q22 91 (by decide) (by decide), q21 91 (by decide) (by decide), q20 91 (by decide) (by decide), q19 91 (by decide) (by decide), q18 91 (by decide) (by decide), q17 91 (by decide) (by decide), q16 91 (by decide) (by decide), q15 91 (by decide) (by decide), q14 91 (by decide) (by decide), q13 91 (by decide) (by decide), q12 91 (by decide) (by decide), q11 91 (by decide) (by decide), qm 91 (by decide), q10 91 (by decide) (by decide), q9 91 (by decide) (by decide), q8 91 (by decide) (by decide), q7 91 (by decide) (by decide), q6 91 (by decide) (by decide), q5 91 (by decide) (by decide), q4 91 (by decide) (by decide)]; exact b3
  have w92 : G22.2.2 92 = some (iA 7 (fun _ => 0)) := by rw [q22 92 (by decide) (by decide), q21 92 (by decide) (by decide), q20 92 (by decide) (by decide), q19 92 (by decide) (by decide), q18 92 (by decide) (by decide), q17 92 (by decide) (by decide), q16 92 (by decide) (by decide), q15 92 (by decide) (by decide), q14 92 (by decide) (by decide), q13 92 (by decide) (by decide), q12 92 (by decide) (by decide), q11 92 (by decide) (by decide), qm 92 (by decide), q10 92 (by decide) (by decide), q9 92 (by decide) (by decide), q8 92 (by decide) (by decide), q7 92 (by decide) (by decide), q6 92 (by decide) (by decide), q5 92 (by decide) (by decide)]; exact b4
  have w93 : G22.2.2 93 = some (iA 7 (fun _ => 0)) := by rw [q22 93 (by decide) (by decide), q21 93 (by decide) (by decide), q20 93 (by decide) (by decide), q19 93 (by decide) (by decide), q18 93 (by decide) (by decide), q17 93 (by decide) (by decide), q16 93 (by decide) (by decide), q15 93 (by decide) (by decide), q14 93 (by decide) (by decide), q13 93 (by decide) (by decide), q12 93 (by decide) (by decide), q11 93 (by decide) (by decide), qm 93 (by decide), q10 93 (by decide) (by decide), q9 93 (by decide) (by decide), q8 93 (by decide) (by decide), q7 93 (by decide) (by decide), q6 93 (by decide) (by decide)]; exact b5
  have w94 : G22.2.2 94 = some (iA 7 (fun _ => 0)) := by rw [q22 94 (by decide) (by decide), q21 94 (by decide) (by decide), q20 94 (by decide) (by decide), q19 94 (by decide) (by decide), q18 94 (by decide) (by decide), q17 94 (by decide) (by decide), q16 94 (by decide) (by decide), q15 94 (by decide) (by decide), q14 94 (by decide) (by decide), q13 94 (by decide) (by decide), q12 94 (by decide) (by decide), q11 94 (by decide) (by decide), qm 94 (by decide), q10 94 (by decide) (by decide), q9 94 (by decide) (by decide), q8 94 (by decide) (by decide), q7 94 (by decide) (by decide)]; exact b6
  have w95 : G22.2.2 95 = some (iA 7 (fun _ => 0)) := by rw [q22 95 (by decide) (by decide), q21 95 (by decide) (by decide), q20 95 (by decide) (by decide), q19 95 (by decide) (by decide), q18 95 (by decide) (by decide), q17 95 (by decide) (by decide), q16 95 (by decide) (by decide), q15 95 (by decide) (by decide), q14 95 (by decide) (by decide), q13 95 (by decide) (by decide), q12 95 (by decide) (by decide), q11 95 (by decide) (by decide), qm 95 (by decide), q10 95 (by decide) (by decide), q9 95 (by decide) (by decide), q8 95 (by decide) (by decide)]; exact b7
  have w96 : G22.2.2 96 = some (iA 28 (fun _ => 0)) := by rw [q22 96 (by decide) (by decide), q21 96 (by decide) (by decide), q20 96 (by decide) (by decide), q19 96 (by decide) (by decide), q18 96 (by decide) (by decide), q17 96 (by decide) (by decide), q16 96 (by decide) (by decide), q15 96 (by decide) (by decide), q14 96 (by decide) (by decide), q13 96 (by decide) (by decide), q12 96 (by decide) (by decide), q11 96 (by decide) (by decide), qm 96 (by decide), q10 96 (by decide) (by decide), q9 96 (by decide) (by decide)]; exact b8
  have w97 : G22.2.2 97 = some (iA 10 (fun _ => 0)) := by rw [q22 97 (by decide) (by decide), q21 97 (by decide) (by decide), q20 97 (by decide) (by decide), q19 97 (by decide) (by decide), q18 97 (by decide) (by decide), q17 97 (by decide) (by decide), q16 97 (by decide) (by decide), q15 97 (by decide) (by decide), q14 97 (by decide) (by decide), q13 97 (by decide) (by decide), q12 97 (by decide) (by decide), q11 97 (by decide) (by decide), qm 97 (by decide), q10 97 (by decide) (by decide)]; exact b9
  have w98 : G22.2.2 98 = some (iA 250 (fun _ => 0)) := by rw [q22 98 (by decide) (by decide), q21 98 (by decide) (by decide), q20 98 (by decide) (by decide), q19 98 (by decide) (by decide), q18 98 (by decide) (by decide), q17 98 (by decide) (by decide), q16 98 (by decide) (by decide), q15 98 (by decide) (by decide), q14 98 (by decide) (by decide), q13 98 (by decide) (by decide), q12 98 (by decide) (by decide), q11 98 (by decide) (by decide), qm 98 (by decide)]; exact b10
  have w99 : G22.2.2 99 = some (iA 7 (fun _ => 0)) := by rw [q22 99 (by decide) (by decide), q21 99 (by decide) (by decide), q20 99 (by decide) (by decide), q19 99 (by decide) (by decide), q18 99 (by decide) (by decide), q17 99 (by decide) (by decide), q16 99 (by decide) (by decide), q15 99 (by decide) (by decide), q14 99 (by decide) (by decide), q13 99 (by decide) (by decide), q12 99 (by decide) (by decide)]; exact b11
  have w100 : G22.2.2 100 = some (iA 7 (fun _ => 0)) := by rw [q22 100 (by decide) (by decide), q21 100 (by decide) (by decide), q20 100 (by decide) (by decide), q19 100 (by decide) (by decide), q18 100 (by decide) (by decide), q17 100 (by decide) (by decide), q16 100 (by decide) (by decide), q15 100 (by decide) (by decide), q14 100 (by decide) (by decide), q13 100 (by decide) (by decide)]; exact b12
  have w101 : G22.2.2 101 = some (iA 7 (fun _ => 0)) := by rw [q22 101 (by decide) (by decide), q21 101 (by decide) (by decide), q20 101 (by decide) (by decide), q19 101 (by decide) (by decide), q18 101 (by decide) (by decide), q17 101 (by decide) (by decide), q16 101 (by decide) (by decide), q15 101 (by decide) (by decide), q14 101 (by decide) (by decide)]; exact b13
  have w102 : G22.2.2 102 = some (iA 7 (fun _ => 0)) := by rw [q22 102 (by decide) (by decide), q21 102 (by decide) (by decide), q20 102 (by decide) (by decide), q19 102 (by decide) (by decide), q18 102 (by decide) (by decide), q17 102 (by decide) (by decide), q16 102 (by decide) (by decide), q15 102 (by decide) (by decide)]; exact b14
  have w103 : G22.2.2 103 = some (iA 28 (fun _ => 0)) := by rw [q22 103 (by decide) (by decide), q21 103 (by decide) (by decide), q20 103 (by decide) (by decide), q19 103 (by decide) (by decide), q18 103 (by decide) (by decide), q17 103 (by decide) (by decide), q16 103 (by decide) (by decide)]; exact b15
  have w104 : G22.2.2 104 = some (iA 10 (fun _ => 0)) := by rw [q22 104 (by decide) (by decide), q21 104 (by decide) (by decide), q20 104 (by decide) (by decide), q19 104 (by decide) (by decide), q18 104 (by decide) (by decide), q17 104 (by decide) (by decide)]; exact b16
  have w105 : G22.2.2 105 = some (iA 10 (fun _ => 0)) := by rw [q22 105 (by decide) (by decide), q21 105 (by decide) (by decide), q20 105 (by decide) (by decide), q19 105 (by decide) (by decide), q18 105 (by decide) (by decide)]; exact b17
  have w106 : G22.2.2 106 = some (iA 5 (fun _ => 0)) := by rw [q22 106 (by decide) (by decide), q21 106 (by decide) (by decide), q20 106 (by decide) (by decide), q19 106 (by decide) (by decide)]; exact b18
  have w107 : G22.2.2 107 = some (jA 421 (fun _ => 0)) := by rw [q22 107 (by decide) (by decide), q21 107 (by decide) (by decide), q20 107 (by decide) (by decide)]; exact b19
  have w108 : G22.2.2 108 = some (jA 421 (fun _ => 0)) := by rw [q22 108 (by decide) (by decide), q21 108 (by decide) (by decide)]; exact b20
  have w109 : G22.2.2 109 = some (iA 24 (fun _ => 0)) := by rw [q22 109 (by decide) (by decide)]; exact b21
  have w110 : G22.2.2 110 = some (iA 40 (fun _ => 0)) := by exact b22
  have wf : ∀ x, x < 88 → G22.2.2 x = h.2.2 x := fun x hx => by rw [q22 x (by omega) (by omega), q21 x (by omega) (by omega), q20 x (by omega) (by omega), q19 x (by omega) (by omega), q18 x (by omega) (by omega), q17 x (by omega) (by omega), q16 x (by omega) (by omega), q15 x (by omega) (by omega), q14 x (by omega) (by omega), q13 x (by omega) (by omega), q12 x (by omega) (by omega), q11 x (by omega) (by omega), qm x (by omega), q10 x (by omega) (by omega), q9 x (by omega) (by omega), q8 x (by omega) (by omega), q7 x (by omega) (by omega), q6 x (by omega) (by omega), q5 x (by omega) (by omega), q4 x (by omega) (by omega), q3 x (by omega) (by omega), q2 x (by omega) (by omega), q1 x (by omega) (by omega)]
  have om' : G22.2.2 88 = some (oMo 0 0 0 0 0 0 0 0 0 0 (-1) 0 0 0 0 0 0 0) := o22
  have ef : upd (upd (upd (upd (fun _ => (0 : Int32)) 0 (nI 3)) 1 (nI 2)) 2 (nI 1)) 3 (nI 8) = fun i => nI (Q0 0 0 i) := by
    funext i
    unfold upd Q0
    by_cases u3 : i = 3
    · subst u3; rfl
    · rw [if_neg u3]
      by_cases u2 : i = 2
      · subst u2; rfl
      · rw [if_neg u2]
        by_cases u1 : i = 1
        · subst u1; rfl
        · rw [if_neg u1]
          by_cases u0 : i = 0
          · subst u0; rfl
          · rw [if_neg u0]
            by_cases u18 : i = 18
            · subst u18; rfl
            · simp only [u0, u1, u2, u3, u18, if_true, if_false]; rfl
  have om1 : ∀ Y, (hup G22 89 Y).2.2 88 = _ := fun Y => (hup_ne (by decide)).trans om'
  have wf1 : ∀ Y x, x ≠ 89 → (hup G22 89 Y).2.2 x = G22.2.2 x := fun Y x hx => hup_ne hx
  refine ⟨hup G22 89 (iA 19 (fun i => nI (Q0 0 0 i))), ?_, ⟨⟨0, 0, 0, 0, 0, 0, 0, 0, 0, 0, 0, ?_⟩, fun a c hc => ?_, fun a v1 v2 => ?_, ⟨_, (wf1 _ _ (by decide)).trans w103⟩, ⟨_, (wf1 _ _ (by decide)).trans w104⟩, ⟨_, (wf1 _ _ (by decide)).trans w105⟩, ⟨_, (wf1 _ _ (by decide)).trans w106⟩, ⟨_, (wf1 _ _ (by decide)).trans w107⟩, ⟨_, (wf1 _ _ (by decide)).trans w108⟩⟩, c22, e22, fun x hx => (wf1 _ x (by omega)).trans (wf x hx)⟩
  · show Run M_X9_init 0 [.ref 88] [] h = _
    simp only [r_X9_init_0, r_X9_init_1, r_X9_init_4, r_X9_init_5, r_X9_init_7, r_X9_init_9, ↓reduceIte, Option.isSome_some, Option.getD_some, rL_v, rL_n, cH_s, List.cons_append, List.nil_append, cat_i, cat_r, cat_n, ofN, h1, p1]
    simp only [r_X9_init_12, r_X9_init_13, r_X9_init_15, r_X9_init_17, ↓reduceIte, Option.isSome_some, Option.getD_some, rL_v, rL_n, cH_s, List.cons_append, List.nil_append, cat_i, cat_r, cat_n, ofN, c1, p2]
    simp only [r_X9_init_20, r_X9_init_21, r_X9_init_22, r_X9_init_24, ↓reduceIte, Option.isSome_some, Option.getD_some, rL_v, rL_n, cH_s, List.cons_append, List.nil_append, cat_i, cat_r, cat_n, ofN, c2, p3]
    simp only [r_X9_init_27, r_X9_init_28, r_X9_init_30, r_X9_init_32, ↓reduceIte, Option.isSome_some, Option.getD_some, rL_v, rL_n, cH_s, List.cons_append, List.nil_append, cat_i, cat_r, cat_n, ofN, c3, p4]
    simp only [r_X9_init_35, r_X9_init_36, r_X9_init_38, r_X9_init_40, ↓reduceIte, Option.isSome_some, Option.getD_some, rL_v, rL_n, cH_s, List.cons_append, List.nil_append, cat_i, cat_r, cat_n, ofN, c4, p5]
    simp only [r_X9_init_43, r_X9_init_44, r_X9_init_46, r_X9_init_48, ↓reduceIte, Option.isSome_some, Option.getD_some, rL_v, rL_n, cH_s, List.cons_append, List.nil_append, cat_i, cat_r, cat_n, ofN, c5, p6]
    simp only [r_X9_init_51, r_X9_init_52, r_X9_init_54, r_X9_init_56, ↓reduceIte, Option.isSome_some, Option.getD_some, rL_v, rL_n, cH_s, List.cons_append, List.nil_append, cat_i, cat_r, cat_n, ofN, c6, p7]
    simp only [r_X9_init_59, r_X9_init_60, r_X9_init_62, r_X9_init_64, ↓reduceIte, Option.isSome_some, Option.getD_some, rL_v, rL_n, cH_s, List.cons_append, List.nil_append, cat_i, cat_r, cat_n, ofN, c7, p8]
    simp only [r_X9_init_67, r_X9_init_68, r_X9_init_70, r_X9_init_72, ↓reduceIte, Option.isSome_some, Option.getD_some, rL_v, rL_n, cH_s, List.cons_append, List.nil_append, cat_i, cat_r, cat_n, ofN, c8, p9]
    simp only [r_X9_init_75, r_X9_init_76, r_X9_init_79, r_X9_init_81, ↓reduceIte, Option.isSome_some, Option.getD_some, rL_v, rL_n, cH_s, List.cons_append, List.nil_append, cat_i, cat_r, cat_n, ofN, c9, p10]
    simp only [r_X9_init_84, r_X9_init_85, r_X9_init_86, ↓reduceIte, Option.isSome_some, Option.getD_some, rL_v, rL_n, cH_s, List.cons_append, List.nil_append, cat_i, cat_r, cat_n, ofN, pm]
    simp only [r_X9_init_89, r_X9_init_90, r_X9_init_92, r_X9_init_94, ↓reduceIte, Option.isSome_some, Option.getD_some, rL_v, rL_n, cH_s, List.cons_append, List.nil_append, cat_i, cat_r, cat_n, ofN, cm, p11]
    simp only [r_X9_init_97, r_X9_init_98, r_X9_init_100, r_X9_init_102, ↓reduceIte, Option.isSome_some, Option.getD_some, rL_v, rL_n, cH_s, List.cons_append, List.nil_append, cat_i, cat_r, cat_n, ofN, c11, p12]
    simp only [r_X9_init_105, r_X9_init_106, r_X9_init_108, r_X9_init_110, ↓reduceIte, Option.isSome_some, Option.getD_some, rL_v, rL_n, cH_s, List.cons_append, List.nil_append, cat_i, cat_r, cat_n, ofN, c12, p13]
    simp only [r_X9_init_113, r_X9_init_114, r_X9_init_116, r_X9_init_118, ↓reduceIte, Option.isSome_some, Option.getD_some, rL_v, rL_n, cH_s, List.cons_append, List.nil_append, cat_i, cat_r, cat_n, ofN, c13, p14]
    simp only [r_X9_init_121, r_X9_init_122, r_X9_init_124, r_X9_init_126, ↓reduceIte, Option.isSome_some, Option.getD_some, rL_v, rL_n, cH_s, List.cons_append, List.nil_append, cat_i, cat_r, cat_n, ofN, c14, p15]
    simp only [r_X9_init_129, r_X9_init_130, r_X9_init_132, r_X9_init_134, ↓reduceIte, Option.isSome_some, Option.getD_some, rL_v, rL_n, cH_s, List.cons_append, List.nil_append, cat_i, cat_r, cat_n, ofN, c15, p16]
    simp only [r_X9_init_137, r_X9_init_138, r_X9_init_140, r_X9_init_142, ↓reduceIte, Option.isSome_some, Option.getD_some, rL_v, rL_n, cH_s, List.cons_append, List.nil_append, cat_i, cat_r, cat_n, ofN, c16, p17]
    simp only [r_X9_init_145, r_X9_init_146, r_X9_init_147, r_X9_init_149, ↓reduceIte, Option.isSome_some, Option.getD_some, rL_v, rL_n, cH_s, List.cons_append, List.nil_append, cat_i, cat_r, cat_n, ofN, c17, p18]
    simp only [r_X9_init_152, r_X9_init_153, r_X9_init_156, r_X9_init_158, ↓reduceIte, Option.isSome_some, Option.getD_some, rL_v, rL_n, cH_s, List.cons_append, List.nil_append, cat_i, cat_r, cat_n, ofN, c18, p19]
    simp only [r_X9_init_161, r_X9_init_162, r_X9_init_165, r_X9_init_167, ↓reduceIte, Option.isSome_some, Option.getD_some, rL_v, rL_n, cH_s, List.cons_append, List.nil_append, cat_i, cat_r, cat_n, ofN, c19, p20]
    simp only [r_X9_init_170, r_X9_init_171, r_X9_init_173, r_X9_init_175, ↓reduceIte, Option.isSome_some, Option.getD_some, rL_v, rL_n, cH_s, List.cons_append, List.nil_append, cat_i, cat_r, cat_n, ofN, c20, p21]
    simp only [r_X9_init_178, r_X9_init_179, r_X9_init_181, r_X9_init_183, ↓reduceIte, Option.isSome_some, Option.getD_some, rL_v, rL_n, cH_s, List.cons_append, List.nil_append, cat_i, cat_r, cat_n, ofN, c21, p22]
    simp only [r_X9_init_186, r_X9_init_187, r_X9_init_190, r_X9_init_191, r_X9_init_192, ↓reduceIte, Option.isSome_some, Option.getD_some, rL_v, rL_n, cH_s, List.cons_append, List.nil_append, cat_i, cat_r, cat_n, ofN, g9_0 om', g9_1 om', g9_2 om', g9_3 om', g9_4 om', g9_5 om', g9_6 om', g9_7 om', g9_8 om', g9_9 om', g9_10 om', g9_11 om', g9_12 om', g9_13 om', g9_14 om', g9_15 om', g9_16 om', g9_17 om', g9_18 om', g9_19 om', g9_20 om', g9_21 om', g9_22 om', g9_23 om', g9_24 om', g9_25 om', g9_26 om', g9_27 om', g9_28 om', g9_29 om', g9_30 om', g9_31 om', g9_32 om', g9_33 om', g9_34 om', g9_35 om', g9_36 om', g9_37 om', g9_38 om', g9_39 om', ro9 om', pI_nI w89 (by decide) (show 89 ≠ 0 by decide) (show 0 < 19 by decide)]
    simp only [r_X9_init_193, r_X9_init_194, r_X9_init_197, r_X9_init_198, r_X9_init_199, r_X9_init_200, r_X9_init_201, r_X9_init_204, r_X9_init_205, r_X9_init_206, r_X9_init_207, r_X9_init_208, r_X9_init_211, r_X9_init_212, r_X9_init_214, r_X9_init_215, ↓reduceIte, Option.isSome_some, Option.getD_some, rL_v, rL_n, cH_s, List.cons_append, List.nil_append, cat_i, cat_r, cat_n, ofN, g9_0 (om1 _), g9_1 (om1 _), g9_2 (om1 _), g9_3 (om1 _), g9_4 (om1 _), g9_5 (om1 _), g9_6 (om1 _), g9_7 (om1 _), g9_8 (om1 _), g9_9 (om1 _), g9_10 (om1 _), g9_11 (om1 _), g9_12 (om1 _), g9_13 (om1 _), g9_14 (om1 _), g9_15 (om1 _), g9_16 (om1 _), g9_17 (om1 _), g9_18 (om1 _), g9_19 (om1 _), g9_20 (om1 _), g9_21 (om1 _), g9_22 (om1 _), g9_23 (om1 _), g9_24 (om1 _), g9_25 (om1 _), g9_26 (om1 _), g9_27 (om1 _), g9_28 (om1 _), g9_29 (om1 _), g9_30 (om1 _), g9_31 (om1 _), g9_32 (om1 _), g9_33 (om1 _), g9_34 (om1 _), g9_35 (om1 _), g9_36 (om1 _), g9_37 (om1 _), g9_38 (om1 _), g9_39 (om1 _), ro9 (om1 _), pI_u (show 19 < 2147483648 by decide) (show 89 ≠ 0 by decide) (show 1 < 19 by decide), pI_u (show 19 < 2147483648 by decide) (show 89 ≠ 0 by decide) (show 2 < 19 by decide), pI_u (show 19 < 2147483648 by decide) (show 89 ≠ 0 by decide) (show 3 < 19 by decide), ef]
  · rw [om1, show fI (Q0 0 12 6) = -1 from by decide]; rfl
  · unfold cM at hc
    split at hc
    · cases hc; exact hup_get
    · cases hc; exact (wf1 _ _ (by decide)).trans w90
    · cases hc; exact (wf1 _ _ (by decide)).trans w91
    · cases hc; exact (wf1 _ _ (by decide)).trans w92
    · cases hc; exact (wf1 _ _ (by decide)).trans w93
    · cases hc; exact (wf1 _ _ (by decide)).trans w94
    · cases hc; exact (wf1 _ _ (by decide)).trans w95
    · cases hc; exact (wf1 _ _ (by decide)).trans w96
    · cases hc; exact (wf1 _ _ (by decide)).trans w97
    · cases hc; exact (wf1 _ _ (by decide)).trans w98
    · cases hc; exact (wf1 _ _ (by decide)).trans w109
    · cases hc; exact (wf1 _ _ (by decide)).trans w110
    · cases hc
  · rcases (show a = 99 ∨ a = 100 ∨ a = 101 ∨ a = 102 by omega) with rfl | rfl | rfl | rfl
    · exact ⟨_, (wf1 _ _ (by decide)).trans w99⟩
    · exact ⟨_, (wf1 _ _ (by decide)).trans w100⟩
    · exact ⟨_, (wf1 _ _ (by decide)).trans w101⟩
    · exact ⟨_, (wf1 _ _ (by decide)).trans w102⟩
