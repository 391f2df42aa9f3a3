/-! ===== the constructor of Hall ===== -/
theorem pR_4 {h : AH} {a x i : Nat} {f : Nat → Option Nat} {fs : List Value} (ha : h.2.2 a = some (rA 4 7 f)) (hx : h.2.2 x = some (oB 6 fs)) (hi : i < 7) (h0 : a ≠ 0) : pR h a (nI i) x = some (hup h a (rA 4 7 (va_up f i (some x)))) := by
  unfold pR; rw [ha]; dsimp only; rw [hx]
  rw [if_pos ⟨rfl, inb_nI hi (by decide), h0⟩, clamp_nI hi (by decide)]
theorem pR_5 {h : AH} {a x i : Nat} {f : Nat → Option Nat} {fs : List Value} (ha : h.2.2 a = some (rA 5 2 f)) (hx : h.2.2 x = some (oB 0 fs)) (hi : i < 2) (h0 : a ≠ 0) : pR h a (nI i) x = some (hup h a (rA 5 2 (va_up f i (some x)))) := by
  unfold pR; rw [ha]; dsimp only; rw [hx]
  rw [if_pos ⟨rfl, inb_nI hi (by decide), h0⟩, clamp_nI hi (by decide)]
set_option maxHeartbeats 2000000 in
theorem i_X4 {h : AH} {a : Nat} (ha0 : 0 < a) (h1 : h.1 = a + 1) (ha : h.2.2 a = some (oB 4 [.int 0, .null, .int 0, .int 0, .null, .null, .null])) :
    ∃ h', Call M_X4_init h [.ref a] = some (h', none) ∧ HallR h' a (Q0 0) ∧ h'.1 = a + 21 ∧ h'.2.1 = h.2.1 + 101 ∧ ∀ x, x < a → h'.2.2 x = h.2.2 x := by
  obtain ⟨G1, p1, a1, b1, c1, d1, f1⟩ := mk1 (k := 1) (n := 7) (c := rA 4 7 (fun _ => none)) ha (by decide) (by omega)
  obtain ⟨G2, p2, a2, b2, c2, d2, f2⟩ := mk1 (k := 4) (n := 5) (c := iA 5 (fun _ => 0)) a1 (by simp) (by omega)
  obtain ⟨G3, p3, a3, b3, c3, d3, f3⟩ := mk1 (k := 5) (n := 5) (c := iA 5 (fun _ => 0)) a2 (by simp) (by omega)
  rw [h1] at p1 a1 b1 c1 f1
  rw [c1] at p2 a2 b2 c2 f2
  rw [c2] at p3 a3 b3 c3 f3
  rw [h1, c1] at a3
  obtain ⟨G4, i1, i2, i3, i4, i5, i6, i7⟩ := i_X0 (h := hnew G3 11 (oB 0 [.int 0, .int 0, .int 0, .int 0, .int 0, .null, .null, .int 0, .int 0, .int 0, .int 0])) (a := a + 4) (by show G3.1 + 1 = _; rw [c3]) (by rw [show a + 4 = G3.1 by rw [c3]]; exact hnew_get)
  have i8 : G4.2.1 = h.2.1 + 38 := by rw [i6]; show G3.2.1 + 11 + 10 = _; rw [d3, d2, d1]
  have f4 : ∀ x, x < a + 4 → G4.2.2 x = G3.2.2 x := fun x hx => (i7 x hx).trans (hnew_ne (by rw [c3]; omega))
  have a4 := (f4 a (by omega)).trans a3
  have p4 := pF_raw (k := 6) (v := .ref (a + 4)) a4 (by simp)
  generalize hG5 : hup G4 a (oB 4 (((([Value.int 0, .null, .int 0, .int 0, .null, .null, .null].set 1 (.ref (a + 1))).set 4 (.ref (a + 1 + 1))).set 5 (.ref (a + 1 + 1 + 1))).set 6 (.ref (a + 4)))) = G5 at p4
  have A0 : G5.2.2 a = some (oHa 0 (a + 1) 0 0 (a + 2) (a + 3) (a + 4)) := by rw [← hG5]; exact hup_get
  have Af : ∀ x, x ≠ a → G5.2.2 x = G4.2.2 x := fun x hx => by rw [← hG5]; exact hup_ne hx
  have A1 : G5.2.2 (a + 1) = some (rA 4 7 (fun _ => none)) := by rw [Af _ (by omega), f4 _ (by omega), f3 _ (by omega) (by omega), f2 _ (by omega) (by omega)]; exact b1
  have A2 : G5.2.2 (a + 2) = some (iA 5 (fun _ => 0)) := by rw [Af _ (by omega), f4 _ (by omega), f3 _ (by omega) (by omega)]; exact b2
  have A3 : G5.2.2 (a + 3) = some (iA 5 (fun _ => 0)) := by rw [Af _ (by omega), f4 _ (by omega)]; exact b3
  have A4 : G5.2.2 (a + 4) = some (oAg 0 0 0 0 0 (a + 4 + 1) (a + 4 + 2) 0 0 0 0) := (Af _ (by omega)).trans i2
  have A5 := (Af (a + 4 + 1) (by omega)).trans i3
  have A6 := (Af (a + 4 + 2) (by omega)).trans i4
  have Aa : ∀ x, x < a → G5.2.2 x = h.2.2 x := fun x hx => by rw [Af _ (by omega), f4 _ (by omega), f3 _ (by omega) (by omega), f2 _ (by omega) (by omega), f1 _ (by omega) (by omega)]
  have A7 : G5.1 = a + 7 := by rw [← hG5]; exact i5
  have A8 : G5.2.1 = h.2.1 + 38 := by rw [← hG5]; exact i8
  have L : ∀ (m p : Nat) (H : AH) (f : Nat → Option Nat), p + m = 7 → H.1 = a + 7 + 2 * p → H.2.1 = h.2.1 + 38 + 9 * p → H.2.2 (a + 1) = some (rA 4 7 f) → (∀ q, q < p → f q = some (a + 7 + 2 * q)) → (∀ q, q < p → H.2.2 (a + 7 + 2 * q) = some (oPa 0 0 0 0 (a + 8 + 2 * q)) ∧ H.2.2 (a + 8 + 2 * q) = some (iA 4 (fun _ => 0))) → (∀ x, x ≠ a + 1 → x < a + 7 → H.2.2 x = G5.2.2 x) →
      ∃ H' f', Run M_X4_init 40 [.ref a, .int (nI p)] [] H = Run M_X4_init 65 [.ref a, .int (nI 7)] [] H' ∧ H'.1 = a + 21 ∧ H'.2.1 = h.2.1 + 101 ∧ H'.2.2 (a + 1) = some (rA 4 7 f') ∧ (∀ q, q < 7 → f' q = some (a + 7 + 2 * q)) ∧ (∀ q, q < 7 → H'.2.2 (a + 7 + 2 * q) = some (oPa 0 0 0 0 (a + 8 + 2 * q)) ∧ H'.2.2 (a + 8 + 2 * q) = some (iA 4 (fun _ => 0))) ∧ ∀ x, x ≠ a + 1 → x < a + 7 → H'.2.2 x = G5.2.2 x := by
    intro m
    induction m with
    | zero =>
      intro p H f hp g1 g2 g3 g4 g5 g6
      have e : p = 7 := by omega
      subst e
      exact ⟨H, f, by simp only [r_X4_init_40, r_X4_init_41, r_X4_init_43, ↓reduceIte, Option.isSome_some, Option.getD_some, rL_v, rL_n, cH_s, List.cons_append, List.nil_append, cat_i, cat_r, cat_n, ofN, Int32.le_refl], by rw [g1], by rw [g2], g3, g4, g5, g6⟩
    | succ m ih =>
      intro p H f hp g1 g2 g3 g4 g5 g6
      have q0 : ¬ nI 7 ≤ nI p := by rw [nI_le' (by decide) (by omega)]; omega
      have g0 := (g6 a (by omega) (by omega)).trans A0
      obtain ⟨B, j1, j2, j3, j4, j5, j6⟩ := i_X6 (h := hnew H 5 (oB 6 [.int 0, .int 0, .int 0, .int 0, .null])) (a := a + 7 + 2 * p) (by show H.1 + 1 = _; rw [g1]) (by rw [← g1]; exact hnew_get)
      have Bf : ∀ x, x < a + 7 + 2 * p → B.2.2 x = H.2.2 x := fun x hx => (j6 x hx).trans (hnew_ne (by omega))
      have B1 := (Bf (a + 1) (by omega)).trans g3
      have pr := pR_4 B1 j2 (show p < 7 by omega) (show a + 1 ≠ 0 by omega)
      obtain ⟨H', f', k1, k2⟩ := ih (p + 1) (hup B (a + 1) (rA 4 7 (va_up f p (some (a + 7 + 2 * p))))) _ (by omega) (by show B.1 = _; rw [j4]; omega) (by show B.2.1 = _; rw [j5]; show H.2.1 + 5 + 4 = _; rw [g2]; omega) hup_get (fun q hq => by
        by_cases e : q = p
        · subst e; exact va_up_self _ _ _
        · rw [va_up_ne _ _ e]; exact g4 q (by omega)) (fun q hq => by
        rw [hup_ne (by omega), hup_ne (by omega)]
        by_cases e : q = p
        · subst e; rw [show a + 8 + 2 * q = a + 7 + 2 * q + 1 by omega]; exact ⟨j2, j3⟩
        · rw [Bf _ (by omega), Bf _ (by omega)]; exact g5 q (by omega)) (fun x u1 u2 => by rw [hup_ne u1, Bf x (by omega)]; exact g6 x u1 u2)
      refine ⟨H', f', ?_, k2⟩
      rw [← k1, r_X4_init_40]
      simp only [r_X4_init_41, r_X4_init_43, r_X4_init_46, r_X4_init_47, r_X4_init_50, r_X4_init_51, r_X4_init_54, r_X4_init_55, r_X4_init_58, r_X4_init_59, r_X4_init_62, ↓reduceIte, Option.isSome_some, Option.getD_some, rL_v, rL_n, cH_s, List.cons_append, List.nil_append, cat_i, cat_r, cat_n, ofN, q0, g4_0 g0, g4_1 g0, g4_2 g0, g4_3 g0, g4_4 g0, g4_5 g0, g4_6 g0, ro4 g0, g1, j1, pr, nI_add]
  obtain ⟨H, f, l1, l2, l3, l4, l5, l6, l7⟩ := L 7 0 G5 (fun _ => none) (by omega) (by omega) (by omega) A1 (fun q hq => by omega) (fun q hq => by omega) (fun _ _ _ => rfl)
  have H4 := (l7 (a + 4) (by omega) (by omega)).trans A4
  have H0 := (l7 a (by omega) (by omega)).trans A0
  have U := c_setUntold H4
  have fin : ∀ Y x, x ≠ a + 4 → (hup H (a + 4) Y).2.2 x = H.2.2 x := fun Y x hx => hup_ne hx
  refine ⟨_, ?_, ⟨(fin _ _ (by omega)).trans H0, ⟨f, (fin _ _ (by omega)).trans l4, l5⟩, ⟨_, (fin _ _ (by omega)).trans ((l7 _ (by omega) (by omega)).trans A2), fun i hi => absurd hi (Nat.not_lt_zero _)⟩, ⟨_, (fin _ _ (by omega)).trans ((l7 _ (by omega) (by omega)).trans A3), fun i hi => absurd hi (Nat.not_lt_zero _)⟩, ⟨hup_get, ⟨_, (fin _ _ (by omega)).trans ((l7 _ (by omega) (by omega)).trans A5), fun i hi => absurd hi (Nat.not_lt_zero _)⟩, ⟨_, (fin _ _ (by omega)).trans ((l7 _ (by omega) (by omega)).trans A6), fun i hi => absurd hi (Nat.not_lt_zero _)⟩⟩, fun p hp => ⟨⟨_, _, _, _, (fin _ _ (by omega)).trans (l6 p hp).1⟩, _, (fin _ _ (by omega)).trans (l6 p hp).2⟩, fun p hp => absurd hp (Nat.not_lt_zero _)⟩, l2, l3, fun x hx => (fin _ _ (by omega)).trans ((l7 x (by omega) (by omega)).trans (Aa x hx))⟩
  show Run M_X4_init 0 [.ref a, .null] [] h = _
  simp only [r_X4_init_0, r_X4_init_1, r_X4_init_4, r_X4_init_5, r_X4_init_7, r_X4_init_10, r_X4_init_13, r_X4_init_14, r_X4_init_15, r_X4_init_17, r_X4_init_20, r_X4_init_21, r_X4_init_22, r_X4_init_24, ↓reduceIte, Option.isSome_some, Option.getD_some, rL_v, rL_n, cH_s, List.cons_append, List.nil_append, cat_i, cat_r, cat_n, ofN, h1, p1, c1, p2, c2, p3]
  simp only [r_X4_init_27, r_X4_init_28, r_X4_init_31, r_X4_init_32, r_X4_init_35, r_X4_init_38, r_X4_init_39, ↓reduceIte, Option.isSome_some, Option.getD_some, rL_v, rL_n, cH_s, List.cons_append, List.nil_append, cat_i, cat_r, cat_n, ofN, c3, i1, p4]
  rw [l1]
  simp only [r_X4_init_65, r_X4_init_66, r_X4_init_69, r_X4_init_72, ↓reduceIte, Option.isSome_some, Option.getD_some, rL_v, rL_n, cH_s, List.cons_append, List.nil_append, cat_i, cat_r, cat_n, ofN, g4_0 H0, g4_1 H0, g4_2 H0, g4_3 H0, g4_4 H0, g4_5 H0, g4_6 H0, ro4 H0, ro0 H4, U]
  rfl
