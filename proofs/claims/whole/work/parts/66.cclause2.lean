/-! ===== hall: the class reads a player, an instrument, a clause ===== -/
set_option maxHeartbeats 2000000 in
theorem c_readPlayer {h : AH} {T : Nat → Nat} {n o a : Nat} {Q : SS} {na sg co : Int32} (hn : n ≤ 250) (hT : ∀ i, i < n → T i < 256) (ha : a < n) (ho : 31 < o) (hQ : Q 12 0 ≤ 7) (hQ1 : Q 12 1 ≤ 5) (h3 : h.2.2 3 = some (iA 250 (fun i => nI (T i)))) (h2 : h.2.2 2 = some (oRd 3 (nI n) (fI 0) (nI 0) (nI a) na sg co)) (hH : HallR h o Q) :
    ∃ h', Call M_X7_readPlayer h [.ref 2, .ref o] = some (h', none) ∧ ClC h h' T n o (if 5 ≤ Q 12 1 then (3, a + 1) else F2c T n a 30 30) (e2c T n a) (Qpl T n a Q) sg co := by
  have hx := hH.x
  obtain ⟨q1, q2, q3, q4, q5, q6, q7⟩ := id hH
  have c5 : (nI (Q 12 1) < nI 5) = (Q 12 1 < 5) := nI_lt' (by omega) (by decide)
  by_cases q : 5 ≤ Q 12 1
  · have q' : ¬ Q 12 1 < 5 := by omega
    rw [if_pos q]
    have cF := c_fail (h := h) (F := (0, 0)) (c := 3) (p := a) (by decide) h2
    refine ⟨_, ?_, ClC.fail (T := T) (n := n) (F := (3, a + 1)) (a0 := a) (na := na) (sg := sg) (co := co) (show (3 : Nat) ≠ 0 by decide) (by omega) (by omega) hx⟩
    show Run M_X7_readPlayer 0 [.ref 2, .ref o] [] h = _
    simp only [r_X7_readPlayer_0, r_X7_readPlayer_1, r_X7_readPlayer_4, r_X7_readPlayer_5, r_X7_readPlayer_8, r_X7_readPlayer_9, r_X7_readPlayer_10, r_X7_readPlayer_11, r_X7_readPlayer_14, r_X7_readPlayer_17, ↓reduceIte, Option.isSome_some, Option.getD_some, rL_v, rL_n, cH_s, List.cons_append, List.nil_append, cat_i, cat_r, cat_n, ofN, g7_0 h2, g7_1 h2, g7_2 h2, g7_3 h2, g7_4 h2, g7_5 h2, g7_6 h2, g7_7 h2, ro7 h2, g4_0 q1, g4_1 q1, g4_2 q1, g4_3 q1, g4_4 q1, g4_5 q1, g4_6 q1, ro4 q1, c5, q', ro7 h2, cF]
    rfl
  · have q' : Q 12 1 < 5 := by omega
    rw [if_neg q]
    obtain ⟨hA1, ⟨f1, b1, c1⟩, ⟨f2, b2, c2⟩⟩ := id q5
    obtain ⟨X1, X2, X3, N1, N2, N3, e3, ⟨y1, y2, y3, y4, y5, y6, e1⟩, ⟨z1, z2, z3, z4, z5, z6, e2⟩⟩ := c_two (h := hup h 2 (oRd 3 (nI n) (fI 0) (nI 0) (nI (a + 1)) na sg co)) (x := 30) (y := 30) hn hT ha (by decide) (by decide) ((hup_ne (by decide)).trans h3) hup_get
    rw [hup_hup] at N1
    generalize hG1 : hup (hup h 2 X1) (o + 4 + 1) (iA 5 (upd f1 (Q 12 1) (nI (vl T n (a + 1))))) = G1
    have A2 : G1.2.2 2 = some X1 := by rw [← hG1, hup_ne (by omega)]; exact hup_get
    have Af : ∀ x, x ≠ 2 → x ≠ o + 4 + 1 → G1.2.2 x = h.2.2 x := fun x y z => by rw [← hG1, hup_ne z, hup_ne y]
    have N2 := N2 G1 A2 (by rw [Af 3 (by omega) (by omega), hup_ne (by decide)])
    generalize hG2 : hup (hup G1 2 X2) (o + 4 + 2) (iA 5 (upd f2 (Q 12 1) (nI (vl T n (p2 T n a))))) = G2
    have B2 : G2.2.2 2 = some X2 := by rw [← hG2, hup_ne (by omega)]; exact hup_get
    have Bf : ∀ x, x ≠ 2 → x ≠ o + 4 + 1 → x ≠ o + 4 + 2 → G2.2.2 x = h.2.2 x := fun x y z w => by rw [← hG2, hup_ne w, hup_ne y]; exact Af x y z
    have B5 : G2.2.2 (o + 4 + 1) = some (iA 5 (upd f1 (Q 12 1) (nI (vl T n (a + 1))))) := by rw [← hG2, hup_ne (by omega), hup_ne (by omega), ← hG1]; exact hup_get
    have B6 : G2.2.2 (o + 4 + 2) = some (iA 5 (upd f2 (Q 12 1) (nI (vl T n (p2 T n a))))) := by rw [← hG2]; exact hup_get
    have N3 := N3 G2 B2 (by rw [Bf 3 (by omega) (by omega) (by omega), hup_ne (by decide)])
    have r1 : refO G1 7 (some (.ref 2)) = true := by rw [e1] at A2; exact ro7 A2
    have r2 : refO G2 7 (some (.ref 2)) = true := by rw [e2] at B2; exact ro7 B2
    have C1 : (hup G2 2 X3).2.2 o = some (oHa (nI (Q 12 0)) (o + 1) (nI (Q 12 1)) (nI (Q 12 2)) (o + 2) (o + 3) (o + 4)) := by rw [hup_ne (by omega), Bf o (by omega) (by omega) (by omega)]; exact q1
    generalize hG3 : hup (hup G2 2 X3) o (oHa (nI (Q 12 0)) (o + 1) (nI (Q 12 1 + 1)) (nI (Q 12 2)) (o + 2) (o + 3) (o + 4)) = G3
    have D2 : G3.2.2 2 = some X3 := by rw [← hG3, hup_ne (by omega)]; exact hup_get
    have Do : G3.2.2 o = some (oHa (nI (Q 12 0)) (o + 1) (nI (Q 12 1 + 1)) (nI (Q 12 2)) (o + 2) (o + 3) (o + 4)) := by rw [← hG3]; exact hup_get
    have Df : ∀ x, x ≠ 2 → x ≠ o + 4 + 1 → x ≠ o + 4 + 2 → x ≠ o → G3.2.2 x = h.2.2 x := fun x y z w v => by rw [← hG3, hup_ne v, hup_ne y]; exact Bf x y z w
    have D5 : G3.2.2 (o + 4 + 1) = some (iA 5 (upd f1 (Q 12 1) (nI (vl T n (a + 1))))) := by rw [← hG3, hup_ne (by omega), hup_ne (by omega)]; exact B5
    have D6 : G3.2.2 (o + 4 + 2) = some (iA 5 (upd f2 (Q 12 1) (nI (vl T n (p2 T n a))))) := by rw [← hG3, hup_ne (by omega), hup_ne (by omega)]; exact B6
    have E : ∀ k, k ≠ 5 + 2 * Q 12 1 → k ≠ 5 + 2 * Q 12 1 + 1 → va_up (va_up (Q 0) (5 + 2 * Q 12 1) (vl T n (a + 1))) (5 + 2 * Q 12 1 + 1) (vl T n (p2 T n a)) k = Q 0 k := fun k y z => by rw [va_up_ne _ _ z, va_up_ne _ _ y]
    have hA' : AgR G3 (o + 4) (va_up (va_up (Q 0) (5 + 2 * Q 12 1) (vl T n (a + 1))) (5 + 2 * Q 12 1 + 1) (vl T n (p2 T n a))) (Q 12 1 + 1) := by
      refine ⟨?_, ⟨_, D5, fun p hp => ?_⟩, ⟨_, D6, fun p hp => ?_⟩⟩
      · rw [E 0 (by omega) (by omega), E 1 (by omega) (by omega), E 2 (by omega) (by omega), E 3 (by omega) (by omega), E 4 (by omega) (by omega), E 15 (by omega) (by omega), E 16 (by omega) (by omega), E 17 (by omega) (by omega), E 18 (by omega) (by omega), Df _ (by omega) (by omega) (by omega) (by omega)]
        exact hA1
      · by_cases e : p = Q 12 1
        · subst e; rw [pk_us, va_up_ne _ _ (by omega), va_up_self]
        · rw [pk_un e, E _ (by omega) (by omega)]; exact c1 p (by omega)
      · by_cases e : p = Q 12 1
        · subst e; rw [pk_us, va_up_self]
        · rw [pk_un e, E _ (by omega) (by omega)]; exact c2 p (by omega)
    have hR : HallR G3 o (Qpl T n a Q) := by
      refine ⟨Do, q2.fr (Df _ (by omega) (by omega) (by omega) (by omega)), ?_, ?_, hA', fun p hp => (q6 p hp).fr hp (fun x _ _ => Df x (by omega) (by omega) (by omega) (by omega)), fun p (hp : p < Q 12 0) => (q7 p hp).fr (by omega) (fun x _ _ => Df x (by omega) (by omega) (by omega) (by omega))⟩
      · rw [Df _ (by omega) (by omega) (by omega) (by omega)]; exact q3
      · rw [Df _ (by omega) (by omega) (by omega) (by omega)]; exact q4
    refine ⟨G3, ?_, ⟨_, e2c T n a, by rw [D2, e3], (e2c_le ha).1, fun _ => rfl⟩, hR.x, fun _ => hR, fun x y z => Df x y (by omega) (by omega) (by omega), by rw [← hG3, ← hG2, ← hG1]; rfl, by rw [← hG3, ← hG2, ← hG1]; rfl⟩
    have q1a : ∀ X, (hup h 2 X).2.2 o = _ := fun X => (hup_ne (by omega)).trans q1
    have hAa : ∀ X, (hup h 2 X).2.2 (o + 4) = _ := fun X => (hup_ne (by omega)).trans hA1
    have b1a : ∀ X, (hup h 2 X).2.2 (o + 4 + 1) = _ := fun X => (hup_ne (by omega)).trans b1
    have q1b := (Af o (by omega) (by omega)).trans q1
    have hAb := (Af (o + 4) (by omega) (by omega)).trans hA1
    have b2b : (hup G1 2 X2).2.2 (o + 4 + 2) = some (iA 5 f2) := by rw [hup_ne (by omega), Af _ (by omega) (by omega)]; exact b2
    show Run M_X7_readPlayer 0 [.ref 2, .ref o] [] h = _
    simp only [r_X7_readPlayer_0, r_X7_readPlayer_1, r_X7_readPlayer_4, r_X7_readPlayer_5, r_X7_readPlayer_18, r_X7_readPlayer_19, r_X7_readPlayer_20, r_X7_readPlayer_23, r_X7_readPlayer_24, r_X7_readPlayer_25, r_X7_readPlayer_28, r_X7_readPlayer_29, r_X7_readPlayer_32, r_X7_readPlayer_35, r_X7_readPlayer_36, r_X7_readPlayer_39, r_X7_readPlayer_40, r_X7_readPlayer_41, r_X7_readPlayer_43, ↓reduceIte, Option.isSome_some, Option.getD_some, rL_v, rL_n, cH_s, List.cons_append, List.nil_append, cat_i, cat_r, cat_n, ofN, g7_0 h2, p7_0 h2, g7_1 h2, p7_1 h2, g7_2 h2, p7_2 h2, g7_3 h2, p7_3 h2, g7_4 h2, p7_4 h2, g7_5 h2, p7_5 h2, g7_6 h2, p7_6 h2, g7_7 h2, p7_7 h2, ro7 h2, g4_0 q1, g4_1 q1, g4_2 q1, g4_3 q1, g4_4 q1, g4_5 q1, g4_6 q1, ro4 q1, c5, q', nI_add, g4_0 (q1a _), g4_1 (q1a _), g4_2 (q1a _), g4_3 (q1a _), g4_4 (q1a _), g4_5 (q1a _), g4_6 (q1a _), ro4 (q1a _), g0_0 (hAa _), g0_1 (hAa _), g0_2 (hAa _), g0_3 (hAa _), g0_4 (hAa _), g0_5 (hAa _), g0_6 (hAa _), g0_7 (hAa _), g0_8 (hAa _), g0_9 (hAa _), g0_10 (hAa _), ro0 (hAa _), rou7, gu7_0, pu7_0, gu7_1, pu7_1, gu7_2, pu7_2, gu7_3, pu7_3, gu7_4, pu7_4, gu7_5, pu7_5, gu7_6, pu7_6, gu7_7, pu7_7, N1]
    simp only [r_X7_readPlayer_46, r_X7_readPlayer_47, r_X7_readPlayer_48, r_X7_readPlayer_51, r_X7_readPlayer_54, r_X7_readPlayer_55, r_X7_readPlayer_58, r_X7_readPlayer_59, r_X7_readPlayer_60, r_X7_readPlayer_62, ↓reduceIte, Option.isSome_some, Option.getD_some, rL_v, rL_n, cH_s, List.cons_append, List.nil_append, cat_i, cat_r, cat_n, ofN, pI_nI (b1a _) (by decide) (show o + 4 + 1 ≠ 0 by omega) (show Q 12 1 < 5 by omega), hG1, g4_0 q1b, g4_1 q1b, g4_2 q1b, g4_3 q1b, g4_4 q1b, g4_5 q1b, g4_6 q1b, ro4 q1b, g0_0 hAb, g0_1 hAb, g0_2 hAb, g0_3 hAb, g0_4 hAb, g0_5 hAb, g0_6 hAb, g0_7 hAb, g0_8 hAb, g0_9 hAb, g0_10 hAb, ro0 hAb, r1, N2]
    simp only [r_X7_readPlayer_65, r_X7_readPlayer_66, r_X7_readPlayer_67, r_X7_readPlayer_70, r_X7_readPlayer_71, r_X7_readPlayer_72, r_X7_readPlayer_75, r_X7_readPlayer_76, r_X7_readPlayer_77, r_X7_readPlayer_80, ↓reduceIte, Option.isSome_some, Option.getD_some, rL_v, rL_n, cH_s, List.cons_append, List.nil_append, cat_i, cat_r, cat_n, ofN, pI_nI b2b (by decide) (show o + 4 + 2 ≠ 0 by omega) (show Q 12 1 < 5 by omega), hG2, r2, N3, g4_0 C1, p4_0 C1, g4_1 C1, p4_1 C1, g4_2 C1, p4_2 C1, g4_3 C1, p4_3 C1, g4_4 C1, p4_4 C1, g4_5 C1, p4_5 C1, g4_6 C1, p4_6 C1, ro4 C1, nI_add, hG3]
set_option maxHeartbeats 2000000 in
theorem c_readInstrument {h : AH} {T : Nat → Nat} {n o a : Nat} {Q : SS} {na sg co : Int32} (hn : n ≤ 250) (hT : ∀ i, i < n → T i < 256) (ha : a < n) (ho : 31 < o) (hQ : Q 12 0 ≤ 7) (hQ2 : Q 12 2 ≤ 5) (h3 : h.2.2 3 = some (iA 250 (fun i => nI (T i)))) (h2 : h.2.2 2 = some (oRd 3 (nI n) (fI 0) (nI 0) (nI a) na sg co)) (hH : HallR h o Q) :
    ∃ h', Call M_X7_readInstrument h [.ref 2, .ref o] = some (h', none) ∧ ClC h h' T n o (if 5 ≤ Q 12 2 then (3, a + 1) else F2c T n a 11 99) (e2c T n a) (Qin T n a Q) sg co := by
  have hx := hH.x
  obtain ⟨q1, q2, ⟨f1, b1, c1⟩, ⟨f2, b2, c2⟩, q5, q6, q7⟩ := id hH
  have c5 : (nI (Q 12 2) < nI 5) = (Q 12 2 < 5) := nI_lt' (by omega) (by decide)
  by_cases q : 5 ≤ Q 12 2
  · have q' : ¬ Q 12 2 < 5 := by omega
    rw [if_pos q]
    have cF := c_fail (h := h) (F := (0, 0)) (c := 3) (p := a) (by decide) h2
    refine ⟨_, ?_, ClC.fail (T := T) (n := n) (F := (3, a + 1)) (a0 := a) (na := na) (sg := sg) (co := co) (show (3 : Nat) ≠ 0 by decide) (by omega) (by omega) hx⟩
    show Run M_X7_readInstrument 0 [.ref 2, .ref o] [] h = _
    simp only [r_X7_readInstrument_0, r_X7_readInstrument_1, r_X7_readInstrument_4, r_X7_readInstrument_5, r_X7_readInstrument_8, r_X7_readInstrument_9, r_X7_readInstrument_10, r_X7_readInstrument_11, r_X7_readInstrument_14, r_X7_readInstrument_17, ↓reduceIte, Option.isSome_some, Option.getD_some, rL_v, rL_n, cH_s, List.cons_append, List.nil_append, cat_i, cat_r, cat_n, ofN, g7_0 h2, g7_1 h2, g7_2 h2, g7_3 h2, g7_4 h2, g7_5 h2, g7_6 h2, g7_7 h2, ro7 h2, g4_0 q1, g4_1 q1, g4_2 q1, g4_3 q1, g4_4 q1, g4_5 q1, g4_6 q1, ro4 q1, c5, q', ro7 h2, cF]
    rfl
  · have q' : Q 12 2 < 5 := by omega
    rw [if_neg q]
    obtain ⟨X1, X2, X3, N1, N2, N3, e3, ⟨y1, y2, y3, y4, y5, y6, e1⟩, ⟨z1, z2, z3, z4, z5, z6, e2⟩⟩ := c_two (h := hup h 2 (oRd 3 (nI n) (fI 0) (nI 0) (nI (a + 1)) na sg co)) (x := 11) (y := 99) hn hT ha (by decide) (by decide) ((hup_ne (by decide)).trans h3) hup_get
    rw [hup_hup] at N1
    generalize hG1 : hup (hup h 2 X1) (o + 2) (iA 5 (upd f1 (Q 12 2) (nI (vl T n (a + 1))))) = G1
    have A2 : G1.2.2 2 = some X1 := by rw [← hG1, hup_ne (by omega)]; exact hup_get
    have Af : ∀ x, x ≠ 2 → x ≠ o + 2 → G1.2.2 x = h.2.2 x := fun x y z => by rw [← hG1, hup_ne z, hup_ne y]
    have N2 := N2 G1 A2 (by rw [Af 3 (by omega) (by omega), hup_ne (by decide)])
    generalize hG2 : hup (hup G1 2 X2) (o + 3) (iA 5 (upd f2 (Q 12 2) (nI (vl T n (p2 T n a))))) = G2
    have B2 : G2.2.2 2 = some X2 := by rw [← hG2, hup_ne (by omega)]; exact hup_get
    have Bf : ∀ x, x ≠ 2 → x ≠ o + 2 → x ≠ o + 3 → G2.2.2 x = h.2.2 x := fun x y z w => by rw [← hG2, hup_ne w, hup_ne y]; exact Af x y z
    have B5 : G2.2.2 (o + 2) = some (iA 5 (upd f1 (Q 12 2) (nI (vl T n (a + 1))))) := by rw [← hG2, hup_ne (by omega), hup_ne (by omega), ← hG1]; exact hup_get
    have B6 : G2.2.2 (o + 3) = some (iA 5 (upd f2 (Q 12 2) (nI (vl T n (p2 T n a))))) := by rw [← hG2]; exact hup_get
    have N3 := N3 G2 B2 (by rw [Bf 3 (by omega) (by omega) (by omega), hup_ne (by decide)])
    have r1 : refO G1 7 (some (.ref 2)) = true := by rw [e1] at A2; exact ro7 A2
    have r2 : refO G2 7 (some (.ref 2)) = true := by rw [e2] at B2; exact ro7 B2
    have C1 : (hup G2 2 X3).2.2 o = some (oHa (nI (Q 12 0)) (o + 1) (nI (Q 12 1)) (nI (Q 12 2)) (o + 2) (o + 3) (o + 4)) := by rw [hup_ne (by omega), Bf o (by omega) (by omega) (by omega)]; exact q1
    generalize hG3 : hup (hup G2 2 X3) o (oHa (nI (Q 12 0)) (o + 1) (nI (Q 12 1)) (nI (Q 12 2 + 1)) (o + 2) (o + 3) (o + 4)) = G3
    have D2 : G3.2.2 2 = some X3 := by rw [← hG3, hup_ne (by omega)]; exact hup_get
    have Do : G3.2.2 o = some (oHa (nI (Q 12 0)) (o + 1) (nI (Q 12 1)) (nI (Q 12 2 + 1)) (o + 2) (o + 3) (o + 4)) := by rw [← hG3]; exact hup_get
    have Df : ∀ x, x ≠ 2 → x ≠ o + 2 → x ≠ o + 3 → x ≠ o → G3.2.2 x = h.2.2 x := fun x y z w v => by rw [← hG3, hup_ne v, hup_ne y]; exact Bf x y z w
    have D5 : G3.2.2 (o + 2) = some (iA 5 (upd f1 (Q 12 2) (nI (vl T n (a + 1))))) := by rw [← hG3, hup_ne (by omega), hup_ne (by omega)]; exact B5
    have D6 : G3.2.2 (o + 3) = some (iA 5 (upd f2 (Q 12 2) (nI (vl T n (p2 T n a))))) := by rw [← hG3, hup_ne (by omega), hup_ne (by omega)]; exact B6
    have E : ∀ k, k ≠ 2 * Q 12 2 → k ≠ 2 * Q 12 2 + 1 → va_up (va_up (Q 8) (2 * Q 12 2) (vl T n (a + 1))) (2 * Q 12 2 + 1) (vl T n (p2 T n a)) k = Q 8 k := fun k y z => by rw [va_up_ne _ _ z, va_up_ne _ _ y]
    have hR : HallR G3 o (Qin T n a Q) := by
      refine ⟨Do, q2.fr (Df _ (by omega) (by omega) (by omega) (by omega)), ⟨_, D5, fun i hi => ?_⟩, ⟨_, D6, fun i hi => ?_⟩, q5.fr (fun x _ _ => Df x (by omega) (by omega) (by omega) (by omega)), fun p hp => (q6 p hp).fr hp (fun x _ _ => Df x (by omega) (by omega) (by omega) (by omega)), fun p (hp : p < Q 12 0) => (q7 p hp).fr (by omega) (fun x _ _ => Df x (by omega) (by omega) (by omega) (by omega))⟩
      · have hi' : i < Q 12 2 + 1 := hi
        show upd f1 (Q 12 2) (nI (vl T n (a + 1))) i = nI (va_up (va_up (Q 8) (2 * Q 12 2) (vl T n (a + 1))) (2 * Q 12 2 + 1) (vl T n (p2 T n a)) (2 * i))
        by_cases e : i = Q 12 2
        · subst e; rw [pk_us, va_up_ne _ _ (by omega), va_up_self]
        · rw [pk_un e, E _ (by omega) (by omega)]; exact c1 i (by omega)
      · have hi' : i < Q 12 2 + 1 := hi
        show upd f2 (Q 12 2) (nI (vl T n (p2 T n a))) i = nI (va_up (va_up (Q 8) (2 * Q 12 2) (vl T n (a + 1))) (2 * Q 12 2 + 1) (vl T n (p2 T n a)) (2 * i + 1))
        by_cases e : i = Q 12 2
        · subst e; rw [pk_us, va_up_self]
        · rw [pk_un e, E _ (by omega) (by omega)]; exact c2 i (by omega)
    refine ⟨G3, ?_, ⟨_, e2c T n a, by rw [D2, e3], (e2c_le ha).1, fun _ => rfl⟩, hR.x, fun _ => hR, fun x y z => Df x y (by omega) (by omega) (by omega), by rw [← hG3, ← hG2, ← hG1]; rfl, by rw [← hG3, ← hG2, ← hG1]; rfl⟩
    have q1a : ∀ X, (hup h 2 X).2.2 o = _ := fun X => (hup_ne (by omega)).trans q1
    have b1a : ∀ X, (hup h 2 X).2.2 (o + 2) = _ := fun X => (hup_ne (by omega)).trans b1
    have q1b := (Af o (by omega) (by omega)).trans q1
    have b2b : (hup G1 2 X2).2.2 (o + 3) = some (iA 5 f2) := by rw [hup_ne (by omega), Af _ (by omega) (by omega)]; exact b2
    show Run M_X7_readInstrument 0 [.ref 2, .ref o] [] h = _
    simp only [r_X7_readInstrument_0, r_X7_readInstrument_1, r_X7_readInstrument_4, r_X7_readInstrument_5, r_X7_readInstrument_18, r_X7_readInstrument_19, r_X7_readInstrument_20, r_X7_readInstrument_23, r_X7_readInstrument_24, r_X7_readInstrument_25, r_X7_readInstrument_28, r_X7_readInstrument_29, r_X7_readInstrument_32, r_X7_readInstrument_33, r_X7_readInstrument_36, r_X7_readInstrument_37, r_X7_readInstrument_38, r_X7_readInstrument_40, ↓reduceIte, Option.isSome_some, Option.getD_some, rL_v, rL_n, cH_s, List.cons_append, List.nil_append, cat_i, cat_r, cat_n, ofN, g7_0 h2, p7_0 h2, g7_1 h2, p7_1 h2, g7_2 h2, p7_2 h2, g7_3 h2, p7_3 h2, g7_4 h2, p7_4 h2, g7_5 h2, p7_5 h2, g7_6 h2, p7_6 h2, g7_7 h2, p7_7 h2, ro7 h2, g4_0 q1, g4_1 q1, g4_2 q1, g4_3 q1, g4_4 q1, g4_5 q1, g4_6 q1, ro4 q1, c5, q', nI_add, g4_0 (q1a _), g4_1 (q1a _), g4_2 (q1a _), g4_3 (q1a _), g4_4 (q1a _), g4_5 (q1a _), g4_6 (q1a _), ro4 (q1a _), rou7, gu7_0, pu7_0, gu7_1, pu7_1, gu7_2, pu7_2, gu7_3, pu7_3, gu7_4, pu7_4, gu7_5, pu7_5, gu7_6, pu7_6, gu7_7, pu7_7, N1]
    simp only [r_X7_readInstrument_43, r_X7_readInstrument_44, r_X7_readInstrument_45, r_X7_readInstrument_48, r_X7_readInstrument_49, r_X7_readInstrument_52, r_X7_readInstrument_53, r_X7_readInstrument_54, r_X7_readInstrument_56, ↓reduceIte, Option.isSome_some, Option.getD_some, rL_v, rL_n, cH_s, List.cons_append, List.nil_append, cat_i, cat_r, cat_n, ofN, pI_nI (b1a _) (by decide) (show o + 2 ≠ 0 by omega) (show Q 12 2 < 5 by omega), hG1, g4_0 q1b, g4_1 q1b, g4_2 q1b, g4_3 q1b, g4_4 q1b, g4_5 q1b, g4_6 q1b, ro4 q1b, r1, N2]
    simp only [r_X7_readInstrument_59, r_X7_readInstrument_60, r_X7_readInstrument_61, r_X7_readInstrument_64, r_X7_readInstrument_65, r_X7_readInstrument_66, r_X7_readInstrument_69, r_X7_readInstrument_70, r_X7_readInstrument_71, r_X7_readInstrument_74, ↓reduceIte, Option.isSome_some, Option.getD_some, rL_v, rL_n, cH_s, List.cons_append, List.nil_append, cat_i, cat_r, cat_n, ofN, pI_nI b2b (by decide) (show o + 3 ≠ 0 by omega) (show Q 12 2 < 5 by omega), hG2, r2, N3, g4_0 C1, p4_0 C1, g4_1 C1, p4_1 C1, g4_2 C1, p4_2 C1, g4_3 C1, p4_3 C1, g4_4 C1, p4_4 C1, g4_5 C1, p4_5 C1, g4_6 C1, p4_6 C1, ro4 C1, nI_add, hG3]
/-! a clause: its fault, where it ends, what it says -/
def Fcl (T : Nat → Nat) (n a : Nat) (Q : SS) (sg co : Nat) : Nat × Nat := if T a = 112 then Fp T n a Q else if T a = 115 then (if sg = 1 then (3, a + 1) else F2c T n a 8 8) else if T a = 99 then (if co = 1 then (3, a + 1) else F3c T n a) else if T a = 108 then (if 5 ≤ Q 12 1 then (3, a + 1) else F2c T n a 30 30) else if T a = 105 then (if 5 ≤ Q 12 2 then (3, a + 1) else F2c T n a 11 99) else (1, a + 1)
def acl (T : Nat → Nat) (n a : Nat) : Nat := if T a = 112 then apt T n a else if T a = 99 then e3c T n a else e2c T n a
def Qcl (T : Nat → Nat) (n a : Nat) (Q : SS) : SS := if T a = 112 then Qpt T n a Q else if T a = 115 then Qsg T n a Q else if T a = 99 then Qco T n a Q else if T a = 108 then Qpl T n a Q else Qin T n a Q
def scl (T : Nat → Nat) (a sg : Nat) : Nat := if T a = 115 then 1 else sg
def ccl (T : Nat → Nat) (a co : Nat) : Nat := if T a = 99 then 1 else co
theorem acl_le {T : Nat → Nat} {n a : Nat} (ha : a < n) : acl T n a ≤ n ∧ a < acl T n a := by
  unfold acl
  split
  · exact apt_le ha
  · split
    · exact e3c_le ha
    · exact e2c_le ha
theorem FOk_Fcl {T : Nat → Nat} {n a : Nat} {Q : SS} {sg co : Nat} (ha : a < n) : FOk n (Fcl T n a Q sg co) := by
  have m3 : FOk n (3, a + 1) := FOk.mk (by decide) (by decide) (by omega)
  unfold Fcl
  by_cases e1 : T a = 112
  · rw [if_pos e1]; exact FOk_Fp ha
  rw [if_neg e1]
  by_cases e2 : T a = 115
  · rw [if_pos e2]
    by_cases q : sg = 1
    · rw [if_pos q]; exact m3
    · rw [if_neg q]; exact FOk_F2c ha
  rw [if_neg e2]
  by_cases e3 : T a = 99
  · rw [if_pos e3]
    by_cases q : co = 1
    · rw [if_pos q]; exact m3
    · rw [if_neg q]; exact FOk_F3c ha
  rw [if_neg e3]
  by_cases e4 : T a = 108
  · rw [if_pos e4]
    by_cases q : 5 ≤ Q 12 1
    · rw [if_pos q]; exact m3
    · rw [if_neg q]; exact FOk_F2c ha
  rw [if_neg e4]
  by_cases e5 : T a = 105
  · rw [if_pos e5]
    by_cases q : 5 ≤ Q 12 2
    · rw [if_pos q]; exact m3
    · rw [if_neg q]; exact FOk_F2c ha
  rw [if_neg e5]
  exact FOk.mk (by decide) (by decide) (by omega)
theorem c_readClause {h : AH} {T : Nat → Nat} {n o a sg co : Nat} {Q : SS} {na : Int32} (hn : n ≤ 250) (hT : ∀ i, i < n → T i < 256) (ha : a < n) (ho : 31 < o) (hsg : sg ≤ 1) (hco : co ≤ 1) (hQ : HOk Q) (hQ1 : Q 12 1 ≤ 5) (hQ2 : Q 12 2 ≤ 5) (h3 : h.2.2 3 = some (iA 250 (fun i => nI (T i)))) (h2 : h.2.2 2 = some (oRd 3 (nI n) (fI 0) (nI 0) (nI a) na (nI sg) (nI co))) (hH : HallR h o Q) :
    ∃ h', Call M_X7_readClause h [.ref 2, .ref o] = some (h', none) ∧ ClC h h' T n o (Fcl T n a Q sg co) (acl T n a) (Qcl T n a Q) (nI (scl T a sg)) (nI (ccl T a co)) := by
  have t := hT a ha
  have hh := c_here (T := T) hn (by omega) h3 h2
  have eh : hrL T n a = nI (T a) := by unfold hrL; rw [if_pos ha]
  rw [eh] at hh
  have cc : ∀ c, c < 256 → (nI (T a) = nI c) = (T a = c) := fun c hc => nI_inj (by omega) (by omega)
  have k1 := cc 99 (by decide)
  have k2 := cc 105 (by decide)
  have k3 := cc 108 (by decide)
  have k4 := cc 112 (by decide)
  have k5 := cc 115 (by decide)
  have hH1 := hH.1
  have start : ∀ X, Run M_X7_readClause 4 [.ref 2, .ref o] [.int (nI (T a))] h = X → Call M_X7_readClause h [.ref 2, .ref o] = X := by
    intro X hX
    show Run M_X7_readClause 0 [.ref 2, .ref o] [] h = _
    simp only [r_X7_readClause_0, r_X7_readClause_1, ↓reduceIte, Option.isSome_some, Option.getD_some, rL_v, rL_n, cH_s, List.cons_append, List.nil_append, cat_i, cat_r, cat_n, ofN, ro7 h2, hh]
    exact hX
  unfold Fcl acl Qcl scl ccl
  by_cases e1 : T a = 112
  · obtain ⟨h', p1, p2⟩ := c_readPart hn hT ha ho hQ h3 h2 hH
    rw [if_pos e1, if_pos e1, if_pos e1, if_neg (show ¬ T a = 115 by omega), if_neg (show ¬ T a = 99 by omega)]
    refine ⟨h', start _ ?_, p2⟩
    rw [r_X7_readClause_4, if_neg (by rw [k1]; omega), if_neg (by rw [k2]; omega), if_neg (by rw [k3]; omega), if_pos (by rw [k4]; exact e1)]
    simp only [r_X7_readClause_56, r_X7_readClause_57, r_X7_readClause_58, r_X7_readClause_61, r_X7_readClause_111, ↓reduceIte, Option.isSome_some, Option.getD_some, rL_v, rL_n, cH_s, List.cons_append, List.nil_append, cat_i, cat_r, cat_n, ofN, ro7 h2, p1]
  rw [if_neg e1, if_neg e1, if_neg e1]
  by_cases e2 : T a = 115
  · obtain ⟨h', p1, p2⟩ := c_readSign hn hT ha ho hsg hQ.1 h3 h2 hH
    rw [if_pos e2, if_pos e2, if_pos e2, if_neg (show ¬ T a = 99 by omega), if_neg (show ¬ T a = 99 by omega)]
    refine ⟨h', start _ ?_, p2⟩
    rw [r_X7_readClause_4, if_neg (by rw [k1]; omega), if_neg (by rw [k2]; omega), if_neg (by rw [k3]; omega), if_neg (by rw [k4]; exact e1), if_pos (by rw [k5]; exact e2)]
    simp only [r_X7_readClause_64, r_X7_readClause_65, r_X7_readClause_66, r_X7_readClause_69, r_X7_readClause_72, r_X7_readClause_111, ↓reduceIte, Option.isSome_some, Option.getD_some, rL_v, rL_n, cH_s, List.cons_append, List.nil_append, cat_i, cat_r, cat_n, ofN, g4_0 hH1, g4_1 hH1, g4_2 hH1, g4_3 hH1, g4_4 hH1, g4_5 hH1, g4_6 hH1, ro4 hH1, ro7 h2, p1]
  rw [if_neg e2, if_neg e2, if_neg e2]
  by_cases e3 : T a = 99
  · obtain ⟨h', p1, p2⟩ := c_readCosts hn hT ha ho hco hQ.1 h3 h2 hH
    rw [if_pos e3, if_pos e3, if_pos e3, if_pos e3]
    refine ⟨h', start _ ?_, p2⟩
    simp only [r_X7_readClause_4, r_X7_readClause_75, r_X7_readClause_76, r_X7_readClause_77, r_X7_readClause_80, r_X7_readClause_83, r_X7_readClause_111, ↓reduceIte, Option.isSome_some, Option.getD_some, rL_v, rL_n, cH_s, List.cons_append, List.nil_append, cat_i, cat_r, cat_n, ofN, k1, e3, g4_0 hH1, g4_1 hH1, g4_2 hH1, g4_3 hH1, g4_4 hH1, g4_5 hH1, g4_6 hH1, ro4 hH1, ro7 h2, p1]
  rw [if_neg e3, if_neg e3, if_neg e3, if_neg e3]
  by_cases e4 : T a = 108
  · obtain ⟨h', p1, p2⟩ := c_readPlayer hn hT ha ho hQ.1 hQ1 h3 h2 hH
    rw [if_pos e4, if_pos e4]
    refine ⟨h', start _ ?_, p2⟩
    rw [r_X7_readClause_4, if_neg (by rw [k1]; omega), if_neg (by rw [k2]; omega), if_pos (by rw [k3]; exact e4)]
    simp only [r_X7_readClause_86, r_X7_readClause_87, r_X7_readClause_88, r_X7_readClause_91, r_X7_readClause_111, ↓reduceIte, Option.isSome_some, Option.getD_some, rL_v, rL_n, cH_s, List.cons_append, List.nil_append, cat_i, cat_r, cat_n, ofN, ro7 h2, p1]
  rw [if_neg e4, if_neg e4]
  by_cases e5 : T a = 105
  · obtain ⟨h', p1, p2⟩ := c_readInstrument hn hT ha ho hQ.1 hQ2 h3 h2 hH
    rw [if_pos e5]
    refine ⟨h', start _ ?_, p2⟩
    rw [r_X7_readClause_4, if_neg (by rw [k1]; omega), if_pos (by rw [k2]; exact e5)]
    simp only [r_X7_readClause_94, r_X7_readClause_95, r_X7_readClause_96, r_X7_readClause_99, r_X7_readClause_111, ↓reduceIte, Option.isSome_some, Option.getD_some, rL_v, rL_n, cH_s, List.cons_append, List.nil_append, cat_i, cat_r, cat_n, ofN, ro7 h2, p1]
  rw [if_neg e5]
  have cF := c_fail (h := h) (F := (0, 0)) (c := 1) (p := a) (by decide) h2
  refine ⟨_, start _ ?_, ClC.fail (T := T) (n := n) (F := (1, a + 1)) (a0 := a) (na := na) (sg := nI sg) (co := nI co) (show (1 : Nat) ≠ 0 by decide) (by omega) (by omega) hH.x⟩
  simp only [r_X7_readClause_4, r_X7_readClause_102, r_X7_readClause_103, r_X7_readClause_104, r_X7_readClause_105, r_X7_readClause_108, r_X7_readClause_111, ↓reduceIte, Option.isSome_some, Option.getD_some, rL_v, rL_n, cH_s, List.cons_append, List.nil_append, cat_i, cat_r, cat_n, ofN, k1, k2, k3, k4, k5, e1, e2, e3, e4, e5, g7_0 h2, g7_1 h2, g7_2 h2, g7_3 h2, g7_4 h2, g7_5 h2, g7_6 h2, g7_7 h2, ro7 h2, ro7 h2, cF]
  rfl
