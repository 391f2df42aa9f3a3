/-! ===== the constructors of the class and of the model ===== -/
theorem W0_sum (S : SS) : ∀ t, sm (Wt S 0) (t + 1) = 1
  | 0 => rfl
  | t + 1 => by
    show sm (Wt S 0) (t + 1) + (if t + 1 = 0 then 1 else 0) = 1
    rw [W0_sum S t, if_neg (by omega)]
theorem W0_tsum (S : SS) (t : Nat) : sm (fun u => Wt S 0 u * u) (t + 1) = 0 := sm_zero _ (fun i _ => by
  show (if i = 0 then 1 else 0) * i = 0
  by_cases h : i = 0
  · subst h; rfl
  · rw [if_neg h, Nat.zero_mul])
set_option maxHeartbeats 4000000 in
theorem i_X8 {h : AH} (h1 : h.1 = 2) (ha : h.2.2 1 = some (oB 8 [.null, .null, .null, .null, .null, .null, .null, .null, .null])) :
    ∃ h', Call M_X8_init h [.ref 1] = some (h', none) ∧ RepCo h' (Q0 0) 40 ∧ h'.1 = 88 ∧ h'.2.1 = h.2.1 + 9896 ∧ h'.2.2 0 = h.2.2 0 := by
  obtain ⟨B1, j1, u1_0, u1_1, n1, s1, f1⟩ := i_X7 (h := hnew h 8 (oB 7 [.null, .int 0, .int 0, .int 0, .int 0, .int 0, .int 0, .int 0])) (a := 2) (by show h.1 + 1 = _; rw [h1]) (by rw [← h1]; exact hnew_get)
  have g1 : ∀ x, x < 2 → B1.2.2 x = h.2.2 x := fun x hx => (f1 x hx).trans (hnew_ne (by omega))
  have m1 := (g1 1 (by decide)).trans ha
  have pf1 := pF_raw (k := 0) (v := .ref 2) m1 (by simp)
  generalize hC1 : hup B1 1 _ = C1 at pf1
  have o1 : C1.2.2 1 = some (oB 8 [.ref 2, .null, .null, .null, .null, .null, .null, .null, .null]) := by rw [← hC1]; exact hup_get
  have q1 : ∀ x, x ≠ 1 → C1.2.2 x = B1.2.2 x := fun x hx => by rw [← hC1]; exact hup_ne hx
  have c1 : C1.1 = 4 := by rw [← hC1]; exact n1
  have d1 : C1.2.1 = h.2.1 + 258 := by rw [← hC1]; show B1.2.1 = _; rw [s1]; show h.2.1 + 8 + 250 = _; rfl
  obtain ⟨B2, j2, u2_0, u2_1, u2_2, u2_3, u2_4, u2_5, u2_6, n2, s2, f2⟩ := i_X2 (h := hnew C1 5 (oB 2 [.null, .null, .null, .null, .int 0])) (a := 4) (by show C1.1 + 1 = _; rw [c1]) (by rw [← c1]; exact hnew_get)
  have g2 : ∀ x, x < 4 → B2.2.2 x = C1.2.2 x := fun x hx => (f2 x hx).trans (hnew_ne (by omega))
  have m2 := (g2 1 (by decide)).trans o1
  have pf2 := pF_raw (k := 1) (v := .ref 4) m2 (by simp)
  generalize hC2 : hup B2 1 _ = C2 at pf2
  have o2 : C2.2.2 1 = some (oB 8 [.ref 2, .ref 4, .null, .null, .null, .null, .null, .null, .null]) := by rw [← hC2]; exact hup_get
  have q2 : ∀ x, x ≠ 1 → C2.2.2 x = B2.2.2 x := fun x hx => by rw [← hC2]; exact hup_ne hx
  have c2 : C2.1 = 17 := by rw [← hC2]; exact n2
  have d2 : C2.2.1 = h.2.1 + 4489 := by rw [← hC2]; show B2.2.1 = _; rw [s2]; show C1.2.1 + 5 + 4226 = _; rw [d1]
  obtain ⟨B3, j3, u3_0, u3_1, u3_2, u3_3, u3_4, u3_5, u3_6, u3_7, n3, s3, f3⟩ := i_X5 (h := hnew C2 7 (oB 5 [.null, .null, .null, .null, .null, .null, .int 0])) (a := 17) (by show C2.1 + 1 = _; rw [c2]) (by rw [← c2]; exact hnew_get)
  have g3 : ∀ x, x < 17 → B3.2.2 x = C2.2.2 x := fun x hx => (f3 x hx).trans (hnew_ne (by omega))
  have m3 := (g3 1 (by decide)).trans o2
  have pf3 := pF_raw (k := 2) (v := .ref 17) m3 (by simp)
  generalize hC3 : hup B3 1 _ = C3 at pf3
  have o3 : C3.2.2 1 = some (oB 8 [.ref 2, .ref 4, .ref 17, .null, .null, .null, .null, .null, .null]) := by rw [← hC3]; exact hup_get
  have q3 : ∀ x, x ≠ 1 → C3.2.2 x = B3.2.2 x := fun x hx => by rw [← hC3]; exact hup_ne hx
  have c3 : C3.1 = 32 := by rw [← hC3]; exact n3
  have d3 : C3.2.1 = h.2.1 + 9564 := by rw [← hC3]; show B3.2.1 = _; rw [s3]; show C2.2.1 + 7 + 5068 = _; rw [d2]
  obtain ⟨B4, j4, u4_0, u4_1, u4_2, n4, s4, f4⟩ := i_X3 (h := hnew C3 3 (oB 3 [.null, .null, .int 0])) (a := 32) (by show C3.1 + 1 = _; rw [c3]) (by rw [← c3]; exact hnew_get)
  have g4 : ∀ x, x < 32 → B4.2.2 x = C3.2.2 x := fun x hx => (f4 x hx).trans (hnew_ne (by omega))
  have m4 := (g4 1 (by decide)).trans o3
  have pf4 := pF_raw (k := 3) (v := .ref 32) m4 (by simp)
  generalize hC4 : hup B4 1 _ = C4 at pf4
  have o4 : C4.2.2 1 = some (oB 8 [.ref 2, .ref 4, .ref 17, .ref 32, .null, .null, .null, .null, .null]) := by rw [← hC4]; exact hup_get
  have q4 : ∀ x, x ≠ 1 → C4.2.2 x = B4.2.2 x := fun x hx => by rw [← hC4]; exact hup_ne hx
  have c4 : C4.1 = 35 := by rw [← hC4]; exact n4
  have d4 : C4.2.1 = h.2.1 + 9591 := by rw [← hC4]; show B4.2.1 = _; rw [s4]; show C3.2.1 + 3 + 24 = _; rw [d3]
  obtain ⟨B5, j5, u5_0, u5_1, u5_2, n5, s5, f5⟩ := i_X1 (h := hnew C4 3 (oB 1 [.null, .null, .int 0])) (a := 35) (by show C4.1 + 1 = _; rw [c4]) (by rw [← c4]; exact hnew_get)
  have g5 : ∀ x, x < 35 → B5.2.2 x = C4.2.2 x := fun x hx => (f5 x hx).trans (hnew_ne (by omega))
  have m5 := (g5 1 (by decide)).trans o4
  have pf5 := pF_raw (k := 4) (v := .ref 35) m5 (by simp)
  generalize hC5 : hup B5 1 _ = C5 at pf5
  have o5 : C5.2.2 1 = some (oB 8 [.ref 2, .ref 4, .ref 17, .ref 32, .ref 35, .null, .null, .null, .null]) := by rw [← hC5]; exact hup_get
  have q5 : ∀ x, x ≠ 1 → C5.2.2 x = B5.2.2 x := fun x hx => by rw [← hC5]; exact hup_ne hx
  have c5 : C5.1 = 38 := by rw [← hC5]; exact n5
  have d5 : C5.2.1 = h.2.1 + 9634 := by rw [← hC5]; show B5.2.1 = _; rw [s5]; show C4.2.1 + 3 + 40 = _; rw [d4]
  obtain ⟨C6, p6, o6, b6, c6, d6, q6⟩ := mk1 (k := 5) (n := 2) (c := rA 5 2 (fun _ => none)) o5 (by simp) (by omega)
  obtain ⟨C7, p7, o7, b7, c7, d7, q7⟩ := mk1 (k := 6) (n := 2) (c := zA 2 (fun _ => 0)) o6 (by simp) (by omega)
  rw [c5] at p6 o6 b6 c6 q6
  rw [c6] at p7 o7 b7 c7 q7
  rw [c5] at o7
  have d7 : C7.2.1 = h.2.1 + 9638 := by rw [d7, d6, d5]
  obtain ⟨B8, j8, R8, n8, s8, f8⟩ := i_X4 (h := hnew C7 7 (oB 4 [.int 0, .null, .int 0, .int 0, .null, .null, .null])) (a := 40) (by decide) (by show C7.1 + 1 = _; rw [c7]) (by rw [show 40 = C7.1 by rw [c7]]; exact hnew_get)
  have g8 : ∀ x, x < 40 → B8.2.2 x = C7.2.2 x := fun x hx => (f8 x hx).trans (hnew_ne (by omega))
  have m8 := (g8 1 (by decide)).trans o7
  have pf8 := pF_raw (k := 7) (v := .ref 40) m8 (by simp)
  generalize hC8 : hup B8 1 _ = C8 at pf8
  have o8 : C8.2.2 1 = some (oB 8 [.ref 2, .ref 4, .ref 17, .ref 32, .ref 35, .ref 38, .ref 39, .ref 40, .null]) := by rw [← hC8]; exact hup_get
  have q8 : ∀ x, x ≠ 1 → C8.2.2 x = B8.2.2 x := fun x hx => by rw [← hC8]; exact hup_ne hx
  have c8 : C8.1 = 61 := by rw [← hC8]; exact n8
  have d8 : C8.2.1 = h.2.1 + 9746 := by rw [← hC8]; show B8.2.1 = _; rw [s8]; show C7.2.1 + 7 + 101 = _; rw [d7]
  obtain ⟨B9, j9, R9, n9, s9, f9⟩ := i_X4 (h := hnew C8 7 (oB 4 [.int 0, .null, .int 0, .int 0, .null, .null, .null])) (a := 61) (by decide) (by show C8.1 + 1 = _; rw [c8]) (by rw [show 61 = C8.1 by rw [c8]]; exact hnew_get)
  have g9 : ∀ x, x < 61 → B9.2.2 x = C8.2.2 x := fun x hx => (f9 x hx).trans (hnew_ne (by omega))
  have m9 := (g9 1 (by decide)).trans o8
  have pf9 := pF_raw (k := 8) (v := .ref 61) m9 (by simp)
  generalize hC9 : hup B9 1 _ = C9 at pf9
  have o9 : C9.2.2 1 = some (oCz 2 4 17 32 35 38 39 40 61) := by rw [← hC9]; exact hup_get
  have q9 : ∀ x, x ≠ 1 → C9.2.2 x = B9.2.2 x := fun x hx => by rw [← hC9]; exact hup_ne hx
  have c9 : C9.1 = 82 := by rw [← hC9]; exact n9
  have d9 : C9.2.1 = h.2.1 + 9854 := by rw [← hC9]; show B9.2.1 = _; rw [s9]; show C8.2.1 + 7 + 101 = _; rw [d8]
  have bk : ∀ x, x ≠ 1 → x < 40 → C9.2.2 x = C7.2.2 x := fun x u1 u2 => by rw [q9 x u1, g9 x (by omega), q8 x u1, g8 x (by omega)]
  have b38 : C9.2.2 38 = some (rA 5 2 (fun _ => none)) := by rw [bk 38 (by decide) (by decide), q7 38 (by decide) (by decide)]; exact b6
  obtain ⟨B10, j10, y10, ya10, yb10, n10, s10, f10⟩ := i_X0 (h := hnew C9 11 (oB 0 [.int 0, .int 0, .int 0, .int 0, .int 0, .null, .null, .int 0, .int 0, .int 0, .int 0])) (a := 82) (by show C9.1 + 1 = _; rw [c9]) (by rw [show 82 = C9.1 by rw [c9]]; exact hnew_get)
  have g10 : ∀ x, x < 82 → B10.2.2 x = C9.2.2 x := fun x hx => (f10 x hx).trans (hnew_ne (by omega))
  have v10 := pR_5 ((g10 38 (by decide)).trans b38) y10 (show 0 < 2 by decide) (show 38 ≠ 0 by decide)
  generalize hC10 : hup B10 38 _ = C10 at v10
  have r10 : C10.2.2 38 = some (rA 5 2 (va_up (fun _ => none) 0 (some 82))) := by rw [← hC10]; exact hup_get
  have q10 : ∀ x, x ≠ 38 → C10.2.2 x = B10.2.2 x := fun x hx => by rw [← hC10]; exact hup_ne hx
  have o10 : C10.2.2 1 = some (oCz 2 4 17 32 35 38 39 40 61) := by rw [q10 1 (by decide), g10 1 (by decide)]; exact o9
  have c10 : C10.1 = 85 := by rw [← hC10]; exact n10
  have d10 : C10.2.1 = h.2.1 + 9875 := by rw [← hC10]; show B10.2.1 = _; rw [s10]; show C9.2.1 + 11 + 10 = _; rw [d9]
  obtain ⟨B11, j11, y11, ya11, yb11, n11, s11, f11⟩ := i_X0 (h := hnew C10 11 (oB 0 [.int 0, .int 0, .int 0, .int 0, .int 0, .null, .null, .int 0, .int 0, .int 0, .int 0])) (a := 85) (by show C10.1 + 1 = _; rw [c10]) (by rw [show 85 = C10.1 by rw [c10]]; exact hnew_get)
  have g11 : ∀ x, x < 85 → B11.2.2 x = C10.2.2 x := fun x hx => (f11 x hx).trans (hnew_ne (by omega))
  have v11 := pR_5 ((g11 38 (by decide)).trans r10) y11 (show 1 < 2 by decide) (show 38 ≠ 0 by decide)
  generalize hC11 : hup B11 38 _ = C11 at v11
  have r11 : C11.2.2 38 = some (rA 5 2 (va_up (va_up (fun _ => none) 0 (some 82)) 1 (some 85))) := by rw [← hC11]; exact hup_get
  have q11 : ∀ x, x ≠ 38 → C11.2.2 x = B11.2.2 x := fun x hx => by rw [← hC11]; exact hup_ne hx
  have o11 : C11.2.2 1 = some (oCz 2 4 17 32 35 38 39 40 61) := by rw [q11 1 (by decide), g11 1 (by decide)]; exact o10
  have c11 : C11.1 = 88 := by rw [← hC11]; exact n11
  have d11 : C11.2.1 = h.2.1 + 9896 := by rw [← hC11]; show B11.2.1 = _; rw [s11]; show C10.2.1 + 11 + 10 = _; rw [d10]
  have z1 : ∀ x, x ≠ 1 → x ≠ 38 → x < 40 → C11.2.2 x = C7.2.2 x := fun x u1 u2 u3 => by rw [q11 x u2, g11 x (by omega), q10 x u2, g10 x (by omega), bk x u1 u3]
  have z2 : ∀ x, x ≠ 1 → x < 38 → C11.2.2 x = C5.2.2 x := fun x u1 u2 => by rw [z1 x u1 (by omega) (by omega), q7 x u1 (by omega), q6 x u1 (by omega)]
  have z35 : ∀ x, x ≠ 1 → x < 38 → C11.2.2 x = B5.2.2 x := fun x u1 u2 => (z2 x u1 u2).trans (q5 x u1)
  have z32 : ∀ x, x ≠ 1 → x < 35 → C11.2.2 x = B4.2.2 x := fun x u1 u2 => by rw [z35 x u1 (by omega), g5 x u2, q4 x u1]
  have z17 : ∀ x, x ≠ 1 → x < 32 → C11.2.2 x = B3.2.2 x := fun x u1 u2 => by rw [z32 x u1 (by omega), g4 x u2, q3 x u1]
  have z4 : ∀ x, x ≠ 1 → x < 17 → C11.2.2 x = B2.2.2 x := fun x u1 u2 => by rw [z17 x u1 (by omega), g3 x u2, q2 x u1]
  have z0 : ∀ x, x ≠ 1 → x < 4 → C11.2.2 x = B1.2.2 x := fun x u1 u2 => by rw [z4 x u1 (by omega), g2 x u2, q1 x u1]
  have z40 : ∀ x, x ≠ 1 → x ≠ 38 → x < 61 → C11.2.2 x = C8.2.2 x := fun x u1 u2 u3 => by rw [q11 x u2, g11 x (by omega), q10 x u2, g10 x (by omega), q9 x u1, g9 x u3]
  have z61 : ∀ x, x ≠ 1 → x ≠ 38 → x < 82 → C11.2.2 x = B9.2.2 x := fun x u1 u2 u3 => by rw [q11 x u2, g11 x (by omega), q10 x u2, g10 x u3, q9 x u1]
  have H40 : HallR C11 40 (Q0 0) := R8.fr (Nat.zero_le 7) (fun x u1 u2 => by rw [z40 x (by omega) (by omega) (by omega), q8 x (by omega)])
  have H61 : HallX C11 61 := R9.x.fr (fun x u1 u2 => z61 x (by omega) (by omega) (by omega))
  have E4 := (z4 4 (by decide) (by decide)).trans u2_0
  have E17 := (z17 17 (by decide) (by decide)).trans u3_0
  obtain ⟨fb, e5, e5'⟩ := u2_1
  obtain ⟨fb2, e22, e22'⟩ := u3_5
  obtain ⟨g15, e15, e15'⟩ := u2_5
  have Eo : EoR C11 (Q0 0) := by
    refine ⟨E4, ⟨fb, (z4 5 (by decide) (by decide)).trans e5, e5'⟩, fun q hq => ?_, ⟨_, (z4 14 (by decide) (by decide)).trans u2_4, fun q hq => ?_⟩, ⟨g15, (z4 15 (by decide) (by decide)).trans e15, fun t ht => ?_⟩, ⟨_, (z4 16 (by decide) (by decide)).trans u2_6, fun t ht => ?_⟩⟩
    · by_cases q0 : q = 0
      · subst q0
        refine ⟨_, (z4 6 (by decide) (by decide)).trans u2_2, fun _ t ht => ?_⟩
        show vp_updL (fun _ => 0) 0 (lN 1) t = lN (if t = 0 then 1 else 0)
        by_cases t0 : t = 0
        · subst t0; rfl
        · rw [if_neg t0]; simp only [vp_updL]; rw [if_neg t0]; rfl
      · exact ⟨_, (z4 (6 + q) (by omega) (by omega)).trans (u2_3 q (by omega) hq), fun h9 => absurd (Nat.le_zero.mp h9) q0⟩
    · have e : q = 0 := Nat.le_zero.mp hq
      subst e; rfl
    · exact (e15' t ht).trans (congrArg lN (W0_sum (Q0 0) t).symm)
    · exact (congrArg lN (W0_tsum (Q0 0) t).symm : lN 0 = _)
  have k39 : C11.2.2 39 = some (zA 2 (fun _ => 0)) := by rw [z1 39 (by decide) (by decide) (by decide)]; exact b7
  refine ⟨C11, ?_, ⟨Or.inl rfl, o11, ⟨⟨0, 0, 0, 0, 0, (((z0 2 (by decide) (by decide)).trans u1_0)).trans ?_⟩, ((z0 3 (by decide) (by decide)).trans u1_1)⟩, H40, H61, Eo, ⟨⟨⟨_, ((z17 18 (by decide) (by decide)).trans u3_1)⟩, ⟨_, ((z17 19 (by decide) (by decide)).trans u3_2)⟩, ⟨_, ((z17 20 (by decide) (by decide)).trans u3_3)⟩, ⟨_, ((z17 21 (by decide) (by decide)).trans u3_4)⟩, ⟨fb2, ((z17 22 (by decide) (by decide)).trans e22), e22'⟩, fun q hq => ⟨_, ((z17 (23 + q) (by omega) (by omega)).trans (u3_6 q hq))⟩, ⟨_, ((z17 31 (by decide) (by decide)).trans u3_7)⟩⟩, Or.inl (E17)⟩, ⟨((z32 32 (by decide) (by decide)).trans u4_0), ⟨_, ((z32 33 (by decide) (by decide)).trans u4_1), fun i hi => absurd hi (Nat.not_lt_zero _)⟩, ⟨_, ((z32 34 (by decide) (by decide)).trans u4_2), fun i hi => absurd hi (Nat.not_lt_zero _)⟩⟩, ⟨((z35 35 (by decide) (by decide)).trans u5_0), ⟨_, ((z35 36 (by decide) (by decide)).trans u5_1), fun i hi => absurd hi (Nat.not_lt_zero _)⟩, ⟨_, ((z35 37 (by decide) (by decide)).trans u5_2), fun i hi => absurd hi (Nat.not_lt_zero _)⟩⟩, ⟨⟨_, r11, fun i hi => ?_⟩, k39, fun i hi => ⟨?_, fun e => absurd e (show ¬ (0 : Nat) = 1 by decide)⟩⟩⟩, c11, d11, ?_⟩
  · have x0 : ¬ nI 2 ≤ nI 0 := by decide
    have x1 : ¬ nI 2 ≤ nI 1 := by decide
    have x2 : nI 2 ≤ nI 2 := by decide
    have t1 : nI 0 + nI 1 = nI 1 := by decide
    have t2 : nI 1 + nI 1 = nI 2 := by decide
    show Run M_X8_init 0 [.ref 1, .null] [] h = _
    simp only [r_X8_init_0, r_X8_init_1, r_X8_init_4, r_X8_init_5, r_X8_init_8, r_X8_init_9, r_X8_init_12, ↓reduceIte, Option.isSome_some, Option.getD_some, rL_v, rL_n, cH_s, List.cons_append, List.nil_append, cat_i, cat_r, cat_n, ofN, h1, j1, pf1]
    simp only [r_X8_init_15, r_X8_init_16, r_X8_init_19, r_X8_init_20, r_X8_init_23, ↓reduceIte, Option.isSome_some, Option.getD_some, rL_v, rL_n, cH_s, List.cons_append, List.nil_append, cat_i, cat_r, cat_n, ofN, c1, j2, pf2]
    simp only [r_X8_init_26, r_X8_init_27, r_X8_init_30, r_X8_init_31, r_X8_init_34, ↓reduceIte, Option.isSome_some, Option.getD_some, rL_v, rL_n, cH_s, List.cons_append, List.nil_append, cat_i, cat_r, cat_n, ofN, c2, j3, pf3]
    simp only [r_X8_init_37, r_X8_init_38, r_X8_init_41, r_X8_init_42, r_X8_init_45, ↓reduceIte, Option.isSome_some, Option.getD_some, rL_v, rL_n, cH_s, List.cons_append, List.nil_append, cat_i, cat_r, cat_n, ofN, c3, j4, pf4]
    simp only [r_X8_init_48, r_X8_init_49, r_X8_init_52, r_X8_init_53, r_X8_init_56, ↓reduceIte, Option.isSome_some, Option.getD_some, rL_v, rL_n, cH_s, List.cons_append, List.nil_append, cat_i, cat_r, cat_n, ofN, c4, j5, pf5]
    simp only [r_X8_init_59, r_X8_init_60, r_X8_init_61, r_X8_init_64, r_X8_init_67, r_X8_init_68, r_X8_init_69, r_X8_init_71, ↓reduceIte, Option.isSome_some, Option.getD_some, rL_v, rL_n, cH_s, List.cons_append, List.nil_append, cat_i, cat_r, cat_n, ofN, c5, p6, c6, p7]
    simp only [r_X8_init_74, r_X8_init_75, r_X8_init_78, r_X8_init_79, r_X8_init_82, ↓reduceIte, Option.isSome_some, Option.getD_some, rL_v, rL_n, cH_s, List.cons_append, List.nil_append, cat_i, cat_r, cat_n, ofN, c7, j8, pf8]
    simp only [r_X8_init_85, r_X8_init_86, r_X8_init_89, r_X8_init_90, r_X8_init_93, r_X8_init_96, r_X8_init_97, ↓reduceIte, Option.isSome_some, Option.getD_some, rL_v, rL_n, cH_s, List.cons_append, List.nil_append, cat_i, cat_r, cat_n, ofN, c8, j9, pf9]
    rw [r_X8_init_98]
    simp only [r_X8_init_99, r_X8_init_100, r_X8_init_103, r_X8_init_104, r_X8_init_107, r_X8_init_108, r_X8_init_111, r_X8_init_112, r_X8_init_115, r_X8_init_116, r_X8_init_119, ↓reduceIte, Option.isSome_some, Option.getD_some, rL_v, rL_n, cH_s, List.cons_append, List.nil_append, cat_i, cat_r, cat_n, ofN, x0, g8_0 o9, g8_1 o9, g8_2 o9, g8_3 o9, g8_4 o9, g8_5 o9, g8_6 o9, g8_7 o9, g8_8 o9, ro8 o9, c9, j10, v10, t1]
    rw [r_X8_init_98]
    simp only [r_X8_init_99, r_X8_init_100, r_X8_init_103, r_X8_init_104, r_X8_init_107, r_X8_init_108, r_X8_init_111, r_X8_init_112, r_X8_init_115, r_X8_init_116, r_X8_init_119, ↓reduceIte, Option.isSome_some, Option.getD_some, rL_v, rL_n, cH_s, List.cons_append, List.nil_append, cat_i, cat_r, cat_n, ofN, x1, g8_0 o10, g8_1 o10, g8_2 o10, g8_3 o10, g8_4 o10, g8_5 o10, g8_6 o10, g8_7 o10, g8_8 o10, ro8 o10, c10, j11, v11, t2]
    rw [r_X8_init_98]
    simp only [r_X8_init_99, r_X8_init_100, r_X8_init_122, ↓reduceIte, Option.isSome_some, Option.getD_some, rL_v, rL_n, cH_s, List.cons_append, List.nil_append, cat_i, cat_r, cat_n, ofN, x2]
  · rw [show fI (Q0 0 12 6) = -1 from by decide]
    rfl
  · rcases (show i = 0 ∨ i = 1 by omega) with rfl | rfl
    · rfl
    · rfl
  · rcases (show i = 0 ∨ i = 1 by omega) with rfl | rfl
    · exact ⟨⟨_, _, _, _, _, _, _, _, _, by rw [q11 82 (by decide), g11 82 (by decide), q10 82 (by decide)]; exact y10⟩, ⟨_, by rw [q11 83 (by decide), g11 83 (by decide), q10 83 (by decide)]; exact ya10⟩, ⟨_, by rw [q11 84 (by decide), g11 84 (by decide), q10 84 (by decide)]; exact yb10⟩⟩
    · exact ⟨⟨_, _, _, _, _, _, _, _, _, by rw [q11 85 (by decide)]; exact y11⟩, ⟨_, by rw [q11 86 (by decide)]; exact ya11⟩, ⟨_, by rw [q11 87 (by decide)]; exact yb11⟩⟩
  · rw [z0 0 (by decide) (by decide), g1 0 (by decide)]
