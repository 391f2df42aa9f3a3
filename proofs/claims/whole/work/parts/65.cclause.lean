/-! ===== hall: the class reads a sign, costs, a player, an instrument ===== -/
def F2c (T : Nat → Nat) (n a x y : Nat) : Nat × Nat := oo (oo (nf T n (a + 1) 0 x) (nf T n (p2 T n a) 0 y)) (cf T n (p3 T n a))
abbrev e2c (T : Nat → Nat) (n a : Nat) : Nat := clA' T n (p3 T n a)
def F3c (T : Nat → Nat) (n a : Nat) : Nat × Nat := oo (oo (oo (nf T n (a + 1) 0 20) (nf T n (p2 T n a) 0 20)) (nf T n (p3 T n a) 0 20)) (cf T n (p4 T n a))
abbrev e3c (T : Nat → Nat) (n a : Nat) : Nat := clA' T n (p4 T n a)
theorem FOk_F2c {T : Nat → Nat} {n a x y : Nat} (ha : a < n) : FOk n (F2c T n a x y) := ((FOk_nf (by omega)).oo (FOk_nf (p_le ha).1)).oo (FOk_cf (p_le ha).2.1)
theorem FOk_F3c {T : Nat → Nat} {n a : Nat} (ha : a < n) : FOk n (F3c T n a) := (((FOk_nf (by omega)).oo (FOk_nf (p_le ha).1)).oo (FOk_nf (p_le ha).2.1)).oo (FOk_cf (p_le ha).2.2.1)
theorem e2c_le {T : Nat → Nat} {n a : Nat} (ha : a < n) : e2c T n a ≤ n ∧ a < e2c T n a := by
  have p := p_le (T := T) ha
  have c := clE_le (T := T) p.2.1
  exact ⟨c.1, by show a < clA' T n (p3 T n a); omega⟩
theorem e3c_le {T : Nat → Nat} {n a : Nat} (ha : a < n) : e3c T n a ≤ n ∧ a < e3c T n a := by
  have p := p_le (T := T) ha
  have c := clE_le (T := T) p.2.2.1
  exact ⟨c.1, by show a < clA' T n (p4 T n a); omega⟩
/-- two numbers and the end: what the reader's own cell comes to -/
theorem c_two {h : AH} {T : Nat → Nat} {n a x y : Nat} {na sg co : Int32} (hn : n ≤ 250) (hT : ∀ i, i < n → T i < 256) (ha : a < n) (hx : x ≤ 1000) (hy : y ≤ 1000) (h3 : h.2.2 3 = some (iA 250 (fun i => nI (T i)))) (h2 : h.2.2 2 = some (oRd 3 (nI n) (fI 0) (nI 0) (nI (a + 1)) na sg co)) :
    ∃ X1 X2 X3, (Call M_X7_number h [.ref 2, .int (nI 0), .int (nI x)] = some (hup h 2 X1, some (.int (nI (vl T n (a + 1)))))) ∧ (∀ H, H.2.2 2 = some X1 → H.2.2 3 = h.2.2 3 → Call M_X7_number H [.ref 2, .int (nI 0), .int (nI y)] = some (hup H 2 X2, some (.int (nI (vl T n (p2 T n a)))))) ∧ (∀ H, H.2.2 2 = some X2 → H.2.2 3 = h.2.2 3 → Call M_X7_close H [.ref 2] = some (hup H 2 X3, none)) ∧ X3 = oRd 3 (nI n) (fI (F2c T n a x y).2) (nI (F2c T n a x y).1) (nI (e2c T n a)) (nI (sk T n (p2 T n a))) sg co ∧ (∃ b c d e f g, X1 = oRd 3 b c d e f sg g) ∧ ∃ b c d e f g, X2 = oRd 3 b c d e f sg g := by
  obtain ⟨l2, l3, l4, l5, l6, l7⟩ := p_le (T := T) ha
  have o1 := FOk_nf (T := T) (n := n) (a := a + 1) (lo := 0) (hi := x) (by omega)
  have o2 := o1.oo (FOk_nf (T := T) (lo := 0) (hi := y) l2)
  have N1 := c_number (F := (0, 0)) (lo := 0) (hi := x) hn hT (by omega) FOk.z (by decide) hx h3 h2
  rw [oo_w rfl] at N1
  exact ⟨_, _, _, N1, fun H q2 q3 => c_number (lo := 0) (hi := y) hn hT l2 o1 (by decide) hy (q3.trans h3) q2, fun H q2 q3 => c_close hn hT l3 o2 (q3.trans h3) q2, rfl, ⟨_, _, _, _, _, _, rfl⟩, ⟨_, _, _, _, _, _, rfl⟩⟩
def Qsg (T : Nat → Nat) (n a : Nat) (Q : SS) : SS := va_up Q 0 (va_up (va_up (Q 0) 3 (vl T n (a + 1))) 4 (vl T n (p2 T n a)))
def Qco (T : Nat → Nat) (n a : Nat) (Q : SS) : SS := va_up Q 0 (va_up (va_up (va_up (Q 0) 0 (vl T n (a + 1))) 1 (vl T n (p2 T n a))) 2 (vl T n (p3 T n a)))
def Qpl (T : Nat → Nat) (n a : Nat) (Q : SS) : SS := va_up (va_up Q 0 (va_up (va_up (Q 0) (5 + 2 * Q 12 1) (vl T n (a + 1))) (5 + 2 * Q 12 1 + 1) (vl T n (p2 T n a)))) 12 (va_up (Q 12) 1 (Q 12 1 + 1))
def Qin (T : Nat → Nat) (n a : Nat) (Q : SS) : SS := va_up (va_up Q 8 (va_up (va_up (Q 8) (2 * Q 12 2) (vl T n (a + 1))) (2 * Q 12 2 + 1) (vl T n (p2 T n a)))) 12 (va_up (Q 12) 2 (Q 12 2 + 1))
theorem HallR.ag {h h' : AH} {o : Nat} {Q : SS} {g : Nat → Nat} (hS : Q 12 0 ≤ 7) (r : HallR h o Q) (hf : ∀ x, o ≤ x → x ≤ o + 20 → x < o + 4 ∨ o + 6 < x → h'.2.2 x = h.2.2 x) (ha : AgR h' (o + 4) g (Q 12 1)) : HallR h' o (va_up Q 0 g) := by
  obtain ⟨q1, q2, q3, q4, q5, q6, q7⟩ := r
  refine ⟨?_, q2.fr (hf _ (by omega) (by omega) (by omega)), ?_, ?_, ha, fun p hp => (q6 p hp).fr hp (fun x _ _ => hf x (by omega) (by omega) (by omega)), fun p (hp : p < Q 12 0) => (q7 p hp).fr (by omega) (fun x _ _ => hf x (by omega) (by omega) (by omega))⟩
  · rw [hf o (by omega) (by omega) (by omega)]; exact q1
  · rw [hf _ (by omega) (by omega) (by omega)]; exact q3
  · rw [hf _ (by omega) (by omega) (by omega)]; exact q4
theorem c_readSign {h : AH} {T : Nat → Nat} {n o a sg : Nat} {Q : SS} {na co : Int32} (hn : n ≤ 250) (hT : ∀ i, i < n → T i < 256) (ha : a < n) (ho : 31 < o) (hsg : sg ≤ 1) (hQ : Q 12 0 ≤ 7) (h3 : h.2.2 3 = some (iA 250 (fun i => nI (T i)))) (h2 : h.2.2 2 = some (oRd 3 (nI n) (fI 0) (nI 0) (nI a) na (nI sg) co)) (hH : HallR h o Q) :
    ∃ h', Call M_X7_readSign h [.ref 2, .ref (o + 4)] = some (h', none) ∧ ClC h h' T n o (if sg = 1 then (3, a + 1) else F2c T n a 8 8) (e2c T n a) (Qsg T n a Q) (nI 1) co := by
  have hx := hH.x
  by_cases q : sg = 1
  · subst q
    rw [if_pos rfl]
    have cF := c_fail (h := h) (F := (0, 0)) (c := 3) (p := a) (by decide) h2
    refine ⟨_, ?_, ClC.fail (T := T) (n := n) (F := (3, a + 1)) (a0 := a) (na := na) (sg := nI 1) (co := co) (show (3 : Nat) ≠ 0 by decide) (by omega) (by omega) hx⟩
    show Run M_X7_readSign 0 [.ref 2, .ref (o + 4), .null, .null] [] h = _
    simp only [r_X7_readSign_0, r_X7_readSign_1, r_X7_readSign_4, r_X7_readSign_7, r_X7_readSign_8, r_X7_readSign_9, r_X7_readSign_10, r_X7_readSign_13, r_X7_readSign_16, ↓reduceIte, Option.isSome_some, Option.getD_some, rL_v, rL_n, cH_s, List.cons_append, List.nil_append, cat_i, cat_r, cat_n, ofN, g7_0 h2, g7_1 h2, g7_2 h2, g7_3 h2, g7_4 h2, g7_5 h2, g7_6 h2, g7_7 h2, ro7 h2, ne10, ro7 h2, cF]
    rfl
  · have q0 : sg = 0 := by omega
    subst q0
    rw [if_neg q]
    have hA := hH.2.2.2.2.1
    have hA1 := hA.1
    obtain ⟨X1, X2, X3, N1, N2, N3, e3, ⟨b1, b2, b3, b4, b5, b6, e1⟩, ⟨c1, c2, c3, c4, c5, c6, e2⟩⟩ := c_two (h := hup h 2 (oRd 3 (nI n) (fI 0) (nI 0) (nI (a + 1)) na (nI 1) co)) (x := 8) (y := 8) hn hT ha (by decide) (by decide) ((hup_ne (by decide)).trans h3) hup_get
    have N2 := N2 (hup (hup h 2 (oRd 3 (nI n) (fI 0) (nI 0) (nI (a + 1)) na (nI 1) co)) 2 X1) hup_get (hup_ne (by decide))
    have N3 := N3 (hup (hup (hup h 2 (oRd 3 (nI n) (fI 0) (nI 0) (nI (a + 1)) na (nI 1) co)) 2 X1) 2 X2) hup_get (hup_ne (by decide))
    simp only [hup_hup] at N1 N2 N3
    have r1 : refO (hup h 2 X1) 7 (some (.ref 2)) = true := by rw [e1]; exact rou7
    have r2 : refO (hup h 2 X2) 7 (some (.ref 2)) = true := by rw [e2]; exact rou7
    have hA2 : (hup h 2 X3).2.2 (o + 4) = _ := (hup_ne (by omega)).trans hA1
    have hA' := AgR.scal (g' := va_up (va_up (Q 0) 3 (vl T n (a + 1))) 4 (vl T n (p2 T n a))) (hA.fr (h' := hup h 2 X3) (fun x _ _ => hup_ne (by omega))) (fun p => Or.inl ⟨by rw [va_up_ne _ _ (by omega), va_up_ne _ _ (by omega)], by rw [va_up_ne _ _ (by omega), va_up_ne _ _ (by omega)]⟩)
    have hR := HallR.ag hQ hH (fun x y z w => by rw [hup_ne (by omega), hup_ne (by omega)]) hA'
    refine ⟨_, ?_, ⟨_, e2c T n a, by rw [hup_ne (by omega), hup_get, e3], (e2c_le ha).1, fun _ => rfl⟩, hR.x, fun _ => hR, fun x y z => by rw [hup_ne (by omega), hup_ne y], rfl, rfl⟩
    show Run M_X7_readSign 0 [.ref 2, .ref (o + 4), .null, .null] [] h = _
    simp only [r_X7_readSign_0, r_X7_readSign_1, r_X7_readSign_4, r_X7_readSign_17, r_X7_readSign_18, r_X7_readSign_19_0, r_X7_readSign_19_1, r_X7_readSign_22, r_X7_readSign_23, r_X7_readSign_24, r_X7_readSign_27, r_X7_readSign_28, r_X7_readSign_29, r_X7_readSign_32, r_X7_readSign_33, r_X7_readSign_34, r_X7_readSign_36, r_X7_readSign_39, r_X7_readSign_40, r_X7_readSign_41, r_X7_readSign_42, r_X7_readSign_44, r_X7_readSign_47, r_X7_readSign_48, r_X7_readSign_49, r_X7_readSign_52, r_X7_readSign_53, r_X7_readSign_54, r_X7_readSign_55, r_X7_readSign_58, ↓reduceIte, Option.isSome_some, Option.getD_some, rL_v, rL_n, cH_s, List.cons_append, List.nil_append, cat_i, cat_r, cat_n, ofN, g7_0 h2, p7_0 h2, g7_1 h2, p7_1 h2, g7_2 h2, p7_2 h2, g7_3 h2, p7_3 h2, g7_4 h2, p7_4 h2, g7_5 h2, p7_5 h2, g7_6 h2, p7_6 h2, g7_7 h2, p7_7 h2, ro7 h2, rou7, gu7_0, pu7_0, gu7_1, pu7_1, gu7_2, pu7_2, gu7_3, pu7_3, gu7_4, pu7_4, gu7_5, pu7_5, gu7_6, pu7_6, gu7_7, pu7_7, nI_add, N1, r1, N2, r2, N3, ro0 hA2, c_setSign hA2]
    rfl
theorem c_readCosts {h : AH} {T : Nat → Nat} {n o a co : Nat} {Q : SS} {na sg : Int32} (hn : n ≤ 250) (hT : ∀ i, i < n → T i < 256) (ha : a < n) (ho : 31 < o) (hco : co ≤ 1) (hQ : Q 12 0 ≤ 7) (h3 : h.2.2 3 = some (iA 250 (fun i => nI (T i)))) (h2 : h.2.2 2 = some (oRd 3 (nI n) (fI 0) (nI 0) (nI a) na sg (nI co))) (hH : HallR h o Q) :
    ∃ h', Call M_X7_readCosts h [.ref 2, .ref (o + 4)] = some (h', none) ∧ ClC h h' T n o (if co = 1 then (3, a + 1) else F3c T n a) (e3c T n a) (Qco T n a Q) sg (nI 1) := by
  have hx := hH.x
  by_cases q : co = 1
  · subst q
    rw [if_pos rfl]
    have cF := c_fail (h := h) (F := (0, 0)) (c := 3) (p := a) (by decide) h2
    refine ⟨_, ?_, ClC.fail (T := T) (n := n) (F := (3, a + 1)) (a0 := a) (na := na) (sg := sg) (co := nI 1) (show (3 : Nat) ≠ 0 by decide) (by omega) (by omega) hx⟩
    show Run M_X7_readCosts 0 [.ref 2, .ref (o + 4), .null, .null, .null] [] h = _
    simp only [r_X7_readCosts_0, r_X7_readCosts_1, r_X7_readCosts_4, r_X7_readCosts_7, r_X7_readCosts_8, r_X7_readCosts_9, r_X7_readCosts_10, r_X7_readCosts_13, r_X7_readCosts_16, ↓reduceIte, Option.isSome_some, Option.getD_some, rL_v, rL_n, cH_s, List.cons_append, List.nil_append, cat_i, cat_r, cat_n, ofN, g7_0 h2, g7_1 h2, g7_2 h2, g7_3 h2, g7_4 h2, g7_5 h2, g7_6 h2, g7_7 h2, ro7 h2, ne10, ro7 h2, cF]
    rfl
  · have q0 : co = 0 := by omega
    subst q0
    rw [if_neg q]
    have hA := hH.2.2.2.2.1
    have hA1 := hA.1
    obtain ⟨l2, l3, l4, l5, l6, l7⟩ := p_le (T := T) ha
    have o1 := FOk_nf (T := T) (n := n) (a := a + 1) (lo := 0) (hi := 20) (by omega)
    have o2 := o1.oo (FOk_nf (T := T) (lo := 0) (hi := 20) l2)
    have o3 := o2.oo (FOk_nf (T := T) (lo := 0) (hi := 20) l3)
    have N1 := c_number (h := hup h 2 (oRd 3 (nI n) (fI 0) (nI 0) (nI (a + 1)) na sg (nI 1))) (F := (0, 0)) (a := a + 1) (lo := 0) (hi := 20) (na := na) (sg := sg) (co := nI 1) hn hT (by omega) FOk.z (by decide) (by decide) ((hup_ne (by decide)).trans h3) hup_get
    rw [oo_w rfl, hup_hup] at N1
    have N2 := c_number (h := hup h 2 (oRd 3 (nI n) (fI (nf T n (a + 1) 0 20).2) (nI (nf T n (a + 1) 0 20).1) (nI (nb T n (a + 1))) (nI (sk T n (a + 1))) sg (nI 1))) (lo := 0) (hi := 20) hn hT l2 o1 (by decide) (by decide) ((hup_ne (by decide)).trans h3) hup_get
    rw [hup_hup] at N2
    generalize hf2 : oo (nf T n (a + 1) 0 20) (nf T n (p2 T n a) 0 20) = f2 at N2 o2 o3
    have N3 := c_number (h := hup h 2 (oRd 3 (nI n) (fI f2.2) (nI f2.1) (nI (nb T n (p2 T n a))) (nI (sk T n (p2 T n a))) sg (nI 1))) (lo := 0) (hi := 20) hn hT l3 o2 (by decide) (by decide) ((hup_ne (by decide)).trans h3) hup_get
    rw [hup_hup] at N3
    generalize hf3 : oo f2 (nf T n (p3 T n a) 0 20) = f3 at N3 o3
    have N4 := c_close (h := hup h 2 (oRd 3 (nI n) (fI f3.2) (nI f3.1) (nI (nb T n (p3 T n a))) (nI (sk T n (p3 T n a))) sg (nI 1))) hn hT l4 o3 ((hup_ne (by decide)).trans h3) hup_get
    rw [hup_hup] at N4
    have eF : oo f3 (cf T n (p4 T n a)) = F3c T n a := by rw [← hf3, ← hf2]; rfl
    rw [eF] at N4
    generalize hX4 : oRd 3 (nI n) (fI (F3c T n a).2) (nI (F3c T n a).1) (nI (clA' T n (p4 T n a))) (nI (sk T n (p3 T n a))) sg (nI 1) = X4 at N4
    have hA2 : (hup h 2 X4).2.2 (o + 4) = _ := (hup_ne (by omega)).trans hA1
    have hA' := AgR.scal (g' := va_up (va_up (va_up (Q 0) 0 (vl T n (a + 1))) 1 (vl T n (p2 T n a))) 2 (vl T n (p3 T n a))) (hA.fr (h' := hup h 2 X4) (fun x _ _ => hup_ne (by omega))) (fun p => Or.inl ⟨by rw [va_up_ne _ _ (by omega), va_up_ne _ _ (by omega), va_up_ne _ _ (by omega)], by rw [va_up_ne _ _ (by omega), va_up_ne _ _ (by omega), va_up_ne _ _ (by omega)]⟩)
    have hR := HallR.ag hQ hH (fun x y z w => by rw [hup_ne (by omega), hup_ne (by omega)]) hA'
    refine ⟨_, ?_, ⟨_, e3c T n a, by rw [hup_ne (by omega), hup_get, ← hX4], (e3c_le ha).1, fun _ => rfl⟩, hR.x, fun _ => hR, fun x y z => by rw [hup_ne (by omega), hup_ne y], rfl, rfl⟩
    show Run M_X7_readCosts 0 [.ref 2, .ref (o + 4), .null, .null, .null] [] h = _
    simp only [r_X7_readCosts_0, r_X7_readCosts_1, r_X7_readCosts_4, r_X7_readCosts_17, r_X7_readCosts_18, r_X7_readCosts_19_0, r_X7_readCosts_19_1, r_X7_readCosts_22, r_X7_readCosts_23, r_X7_readCosts_24, r_X7_readCosts_27, r_X7_readCosts_28, r_X7_readCosts_29, r_X7_readCosts_32, r_X7_readCosts_33, r_X7_readCosts_34, r_X7_readCosts_36, r_X7_readCosts_39, r_X7_readCosts_40, r_X7_readCosts_41, r_X7_readCosts_42, r_X7_readCosts_44, r_X7_readCosts_47, r_X7_readCosts_48, r_X7_readCosts_49, r_X7_readCosts_50, r_X7_readCosts_52, r_X7_readCosts_55, r_X7_readCosts_57, r_X7_readCosts_58, r_X7_readCosts_61, r_X7_readCosts_62, r_X7_readCosts_63, r_X7_readCosts_64, r_X7_readCosts_66, r_X7_readCosts_69, ↓reduceIte, Option.isSome_some, Option.getD_some, rL_v, rL_n, cH_s, List.cons_append, List.nil_append, cat_i, cat_r, cat_n, ofN, g7_0 h2, p7_0 h2, g7_1 h2, p7_1 h2, g7_2 h2, p7_2 h2, g7_3 h2, p7_3 h2, g7_4 h2, p7_4 h2, g7_5 h2, p7_5 h2, g7_6 h2, p7_6 h2, g7_7 h2, p7_7 h2, ro7 h2, rou7, gu7_0, pu7_0, gu7_1, pu7_1, gu7_2, pu7_2, gu7_3, pu7_3, gu7_4, pu7_4, gu7_5, pu7_5, gu7_6, pu7_6, gu7_7, pu7_7, nI_add, N1, N2, N3, N4, ro0 hA2, c_setCosts hA2]
    rfl
