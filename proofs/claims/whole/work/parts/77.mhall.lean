/-! ===== hall: the model's call ===== -/
theorem Inv.op {S Q S' : SS} (hI : Inv S) (hQ : QOk Q) (h : Sop S Q S') : Inv S' := by
  obtain ⟨hO, hTo, hG, hImO, hEnO, hBkO, t1, t2, t3⟩ := hI
  obtain ⟨⟨d0, d1, d2, d3, d4, d5, d6⟩, dp, dt, dk, dl, ⟨d15, d16, d17, d18⟩, d9, dI⟩ := h
  obtain ⟨qH, ⟨u1, u2, u3⟩, ⟨a1, a2, a3, a4, a5⟩, qL, -⟩ := hQ
  refine ⟨⟨by rw [d0]; exact qH.1, fun p hp => ?_⟩, ⟨by rw [d1]; exact u1, by rw [d2]; exact u2, fun i hi => ?_⟩, ⟨⟨?_, ?_, ?_, ?_, ?_⟩, fun p hp => ?_, ?_, ?_, ?_⟩, fun i hi => ?_, ⟨?_, fun i hi => ?_⟩, ⟨?_, fun i hi => ?_⟩, ?_, fun i hi => ?_, ?_⟩
  · rw [d0] at hp
    obtain ⟨e3, e4, e5, e6, e7⟩ := dp p hp
    rw [e3, e4, e5, e6]
    obtain ⟨k1, k2, k3, k4, k5, k6⟩ := qH.2 p hp
    exact ⟨k1, k2, k3, k4, k5, fun i hi => by rw [e7 i hi]; exact k6 i hi⟩
  · rw [d2] at hi
    rw [(dt i hi).1, (dt i hi).2]
    exact u3 i hi
  · rw [dk 0 (by decide)]; exact a1
  · rw [dk 1 (by decide)]; exact a2
  · rw [dk 2 (by decide)]; exact a3
  · rw [dk 3 (by decide)]; exact a4
  · rw [dk 4 (by decide)]; exact a5
  · rw [d1] at hp
    rw [(dl p hp).1, (dl p hp).2]
    exact qL p hp
  · rw [d15]; exact Nat.two_pow_pos _
  · rw [d16]; exact Nat.zero_le _
  · rw [d18]; exact hG.2.2.2.2
  · have i0 : S' 2 i = 0 := by
      rw [dI]
      rcases (show i = 0 ∨ i = 1 by omega) with rfl | rfl
      · rfl
      · rfl
    rw [i0]
    exact ⟨by decide, fun e => absurd e (by decide)⟩
  · rw [d4]; exact Nat.zero_le _
  · rw [d4] at hi; omega
  · rw [d5]; exact Nat.zero_le _
  · rw [d5] at hi; omega
  · rw [d3]; exact Nat.zero_le _
  · rw [d3] at hi; omega
  · rw [d6]; exact Nat.zero_le _
theorem Inv.ft {S : SS} {p : Nat} (hI : Inv S) (hp : p ≤ 251) : Inv (Sft S p) := by
  obtain ⟨hO, hTo, hG, hImO, hEnO, hBkO, t1, t2, t3⟩ := hI
  exact ⟨hO, hTo, hG, hImO, hEnO, hBkO, Nat.zero_le _, fun i hi => absurd hi (Nat.not_lt_zero _), hp⟩
theorem m_read {h : AH} {S : SS} {x : Nat} (hI : Inv S) (hr : RepM h S) : ∃ h', Call M_X9_hall h [.ref 88] = Run M_X9_hall 101 [.ref 88] [] h' ∧ ReM h h' S (Ro S x) := by
  obtain ⟨hO, hTo, hG, hImO, hEnO, hBkO, t1, t2, t3⟩ := id hI
  obtain ⟨⟨a, b, c, d, e, f, sp, spl, stl, sg, co, hm⟩, hA, sc1, ⟨f5, q5⟩, ⟨f6, q6⟩, ⟨f7, q7⟩, ⟨f8, q8⟩, -, -⟩ := id hr
  obtain ⟨f1, q1⟩ := sc1 99 (by decide) (by decide)
  obtain ⟨f2, q2⟩ := sc1 100 (by decide) (by decide)
  obtain ⟨f3, q3⟩ := sc1 101 (by decide) (by decide)
  obtain ⟨f4, q4⟩ := sc1 102 (by decide) (by decide)
  have h98 := hA 98 _ rfl
  generalize hG0 : hup h 88 (oMk (bS S 0 0 0 0 0) (nI 0) b c d e (nI 0) (fI 0)) = G0
  have Z88 : G0.2.2 88 = some (oMk (bS S 0 0 0 0 0) (nI 0) b c d e (nI 0) (fI 0)) := by rw [← hG0]; exact hup_get
  have Zf : ∀ y, y ≠ 88 → G0.2.2 y = h.2.2 y := fun y hy => by rw [← hG0]; exact hup_ne hy
  have Z106 := (Zf 106 (by decide)).trans q8
  have z88 : ∀ Y, (hup G0 106 Y).2.2 88 = _ := fun Y => (hup_ne (by decide)).trans Z88
  generalize hG1 : hup G0 106 (iA 5 (upd (upd (upd (upd (upd f8 0 (nI 3)) 1 (nI 2)) 2 (nI 1)) 3 (nI 8)) 4 (nI 0))) = G1
  have A88 : G1.2.2 88 = some (oMk (bS S 0 0 0 0 0) (nI 0) b c d e (nI 0) (fI 0)) := by rw [← hG1]; exact z88 _
  have A106 : G1.2.2 106 = some (iA 5 (upd (upd (upd (upd (upd f8 0 (nI 3)) 1 (nI 2)) 2 (nI 1)) 3 (nI 8)) 4 (nI 0))) := by rw [← hG1]; exact hup_get
  have Af : ∀ y, y ≠ 88 → y ≠ 106 → G1.2.2 y = h.2.2 y := fun y u1 u2 => by rw [← hG1, hup_ne u2]; exact Zf y u1
  obtain ⟨a2, pl2, tk2, v2, e2, n1, n2⟩ := c_next (T := S 9) (n := S 12 3) (a := 0) (b := bS S 0 0 0 0 0) t1 t2 (Nat.zero_le _) rfl ((Af 98 (by decide) (by decide)).trans h98) A88
  generalize hG2 : hup G1 88 (oMk (bS S 0 0 0 0 0) a2 pl2 tk2 v2 e2 (nI 0) (fI 0)) = G2 at n1
  have B88 : G2.2.2 88 = some (oMk (bS S ((Q0 x) 12 0) ((Q0 x) 12 1) ((Q0 x) 12 2) 0 0) a2 pl2 tk2 v2 e2 (nI 0) (fI 0)) := by rw [← hG2]; exact hup_get
  have Bf : ∀ y, y ≠ 88 → G2.2.2 y = G1.2.2 y := fun y hy => by rw [← hG2]; exact hup_ne hy
  have Bg : ∀ y, y ≠ 88 → y ≠ 106 → G2.2.2 y = h.2.2 y := fun y u1 u2 => (Bf y u1).trans (Af y u1 u2)
  have SR : SaR G2 (Q0 x) := by
    refine ⟨⟨f1, (Bg _ (by decide) (by decide)).trans q1, fun p hp => absurd hp (Nat.not_lt_zero _)⟩, ⟨f2, (Bg _ (by decide) (by decide)).trans q2, fun p hp => absurd hp (Nat.not_lt_zero _)⟩, ⟨f3, (Bg _ (by decide) (by decide)).trans q3, fun p hp => absurd hp (Nat.not_lt_zero _)⟩, ⟨f4, (Bg _ (by decide) (by decide)).trans q4, fun p hp => absurd hp (Nat.not_lt_zero _)⟩, ⟨f5, (Bg _ (by decide) (by decide)).trans q5, fun p hp => absurd hp (Nat.not_lt_zero _)⟩, ⟨f6, (Bg _ (by decide) (by decide)).trans q6, fun p hp => absurd hp (Nat.not_lt_zero _)⟩, ⟨f7, (Bg _ (by decide) (by decide)).trans q7, fun p hp => absurd hp (Nat.not_lt_zero _)⟩, ⟨_, (Bf 106 (by decide)).trans A106, fun k hk => ?_⟩⟩
    rcases (show k = 0 ∨ k = 1 ∨ k = 2 ∨ k = 3 ∨ k = 4 by omega) with rfl | rfl | rfl | rfl | rfl
    · rw [pk_un (by decide), pk_un (by decide), pk_un (by decide), pk_un (by decide), pk_us]; rfl
    · rw [pk_un (by decide), pk_un (by decide), pk_un (by decide), pk_us]; rfl
    · rw [pk_un (by decide), pk_un (by decide), pk_us]; rfl
    · rw [pk_un (by decide), pk_us]; rfl
    · rw [pk_us]; rfl
  have s0 := sk_le (T := S 9) (Nat.zero_le (S 12 3))
  obtain ⟨h', l1, l2, l3, l4, l5, l6, l7⟩ := m_loop (T := S 9) (n := S 12 3) (S := S) t1 t2 rfl (S 12 3) (sk (S 9) (S 12 3) 0) (Q0 x) 0 0 G2 a2 pl2 tk2 v2 e2 (by omega) s0 (sk_sk (Nat.zero_le _)) (by decide) (by decide) (QOk_Q0 x) ((Bg 98 (by decide) (by decide)).trans h98) B88 (n2.sk (Nat.zero_le _)) SR
  refine ⟨h', ?_, l2, l3, l4, fun y u1 u2 => (l5 y u1 u2).trans (Bg y u1 (by omega)), ?_, ?_⟩
  · rw [← l1]
    have em : (-1 : Int32) = fI 0 := by decide
    have eX : hup h 88 (oMo (nI (S 12 0)) (nI (S 12 1)) (nI (S 12 2)) (nI (S 12 3)) (nI 0) b c d e (nI 0) (fI 0) (nI 0) (nI 0) (nI 0) (nI 0) (nI 0) (nI (S 12 4)) (nI (S 12 5))) = G0 := hG0
    show Run M_X9_hall 0 [.ref 88] [] h = _
    simp only [r_X9_hall_0, r_X9_hall_1, r_X9_hall_2, r_X9_hall_5, r_X9_hall_6, r_X9_hall_7, r_X9_hall_10, r_X9_hall_11, r_X9_hall_12, r_X9_hall_15, r_X9_hall_16, r_X9_hall_17, r_X9_hall_20, r_X9_hall_21, r_X9_hall_22, r_X9_hall_25, r_X9_hall_26, r_X9_hall_27, r_X9_hall_30, r_X9_hall_31, r_X9_hall_32_0, r_X9_hall_32_1, r_X9_hall_35, r_X9_hall_36, r_X9_hall_37_0, r_X9_hall_37_1, ↓reduceIte, Option.isSome_some, Option.getD_some, rL_v, rL_n, cH_s, List.cons_append, List.nil_append, cat_i, cat_r, cat_n, ofN, g9_0 hm, g9_1 hm, g9_2 hm, g9_3 hm, p9_3 hm, g9_4 hm, g9_5 hm, g9_6 hm, g9_7 hm, g9_8 hm, g9_9 hm, p9_9 hm, g9_10 hm, p9_10 hm, g9_11 hm, g9_12 hm, g9_13 hm, p9_13 hm, g9_14 hm, p9_14 hm, g9_15 hm, p9_15 hm, g9_16 hm, p9_16 hm, g9_17 hm, p9_17 hm, g9_18 hm, p9_18 hm, g9_19 hm, p9_19 hm, g9_20 hm, p9_20 hm, g9_21 hm, p9_21 hm, g9_22 hm, g9_23 hm, g9_24 hm, g9_25 hm, g9_26 hm, g9_27 hm, p9_27 hm, g9_28 hm, g9_29 hm, p9_29 hm, g9_30 hm, g9_31 hm, g9_32 hm, p9_32 hm, g9_33 hm, p9_33 hm, g9_34 hm, g9_35 hm, g9_36 hm, p9_36 hm, g9_37 hm, g9_38 hm, p9_38 hm, g9_39 hm, ro9 hm, rou9, gu9_0, gu9_1, gu9_2, gu9_3, pu9_3, gu9_4, gu9_5, gu9_6, gu9_7, gu9_8, gu9_9, pu9_9, gu9_10, pu9_10, gu9_11, gu9_12, gu9_13, pu9_13, gu9_14, pu9_14, gu9_15, pu9_15, gu9_16, pu9_16, gu9_17, pu9_17, gu9_18, pu9_18, gu9_19, pu9_19, gu9_20, pu9_20, gu9_21, pu9_21, gu9_22, gu9_23, gu9_24, gu9_25, gu9_26, gu9_27, pu9_27, gu9_28, gu9_29, pu9_29, gu9_30, gu9_31, gu9_32, pu9_32, gu9_33, pu9_33, gu9_34, gu9_35, gu9_36, pu9_36, gu9_37, gu9_38, pu9_38, gu9_39, em, eX]
    simp only [r_X9_hall_40, r_X9_hall_41, r_X9_hall_44, r_X9_hall_45, r_X9_hall_46, ↓reduceIte, Option.isSome_some, Option.getD_some, rL_v, rL_n, cH_s, List.cons_append, List.nil_append, cat_i, cat_r, cat_n, ofN, g9_0 Z88, g9_1 Z88, g9_2 Z88, g9_3 Z88, g9_4 Z88, g9_5 Z88, g9_6 Z88, g9_7 Z88, g9_8 Z88, g9_9 Z88, g9_10 Z88, g9_11 Z88, g9_12 Z88, g9_13 Z88, g9_14 Z88, g9_15 Z88, g9_16 Z88, g9_17 Z88, g9_18 Z88, g9_19 Z88, g9_20 Z88, g9_21 Z88, g9_22 Z88, g9_23 Z88, g9_24 Z88, g9_25 Z88, g9_26 Z88, g9_27 Z88, g9_28 Z88, g9_29 Z88, g9_30 Z88, g9_31 Z88, g9_32 Z88, g9_33 Z88, g9_34 Z88, g9_35 Z88, g9_36 Z88, g9_37 Z88, g9_38 Z88, g9_39 Z88, ro9 Z88, pI_nI Z106 (by decide) (show 106 ≠ 0 by decide) (show 0 < 5 by decide)]
    simp only [r_X9_hall_47, r_X9_hall_48, r_X9_hall_51, r_X9_hall_52, r_X9_hall_53, r_X9_hall_54, r_X9_hall_55, r_X9_hall_58, r_X9_hall_59, r_X9_hall_60, r_X9_hall_61, r_X9_hall_62, r_X9_hall_65, r_X9_hall_66, r_X9_hall_68, r_X9_hall_69, r_X9_hall_70, r_X9_hall_73, r_X9_hall_74, r_X9_hall_75, ↓reduceIte, Option.isSome_some, Option.getD_some, rL_v, rL_n, cH_s, List.cons_append, List.nil_append, cat_i, cat_r, cat_n, ofN, g9_0 (z88 _), g9_1 (z88 _), g9_2 (z88 _), g9_3 (z88 _), g9_4 (z88 _), g9_5 (z88 _), g9_6 (z88 _), g9_7 (z88 _), g9_8 (z88 _), g9_9 (z88 _), g9_10 (z88 _), g9_11 (z88 _), g9_12 (z88 _), g9_13 (z88 _), g9_14 (z88 _), g9_15 (z88 _), g9_16 (z88 _), g9_17 (z88 _), g9_18 (z88 _), g9_19 (z88 _), g9_20 (z88 _), g9_21 (z88 _), g9_22 (z88 _), g9_23 (z88 _), g9_24 (z88 _), g9_25 (z88 _), g9_26 (z88 _), g9_27 (z88 _), g9_28 (z88 _), g9_29 (z88 _), g9_30 (z88 _), g9_31 (z88 _), g9_32 (z88 _), g9_33 (z88 _), g9_34 (z88 _), g9_35 (z88 _), g9_36 (z88 _), g9_37 (z88 _), g9_38 (z88 _), g9_39 (z88 _), ro9 (z88 _), pI_u (show 5 < 2147483648 by decide) (show 106 ≠ 0 by decide) (show 1 < 5 by decide), pI_u (show 5 < 2147483648 by decide) (show 106 ≠ 0 by decide) (show 2 < 5 by decide), pI_u (show 5 < 2147483648 by decide) (show 106 ≠ 0 by decide) (show 3 < 5 by decide), pI_u (show 5 < 2147483648 by decide) (show 106 ≠ 0 by decide) (show 4 < 5 by decide), hG1]
    simp only [r_X9_hall_76, r_X9_hall_77, ↓reduceIte, Option.isSome_some, Option.getD_some, rL_v, rL_n, cH_s, List.cons_append, List.nil_append, cat_i, cat_r, cat_n, ofN, ro9 A88, n1]
  · rw [l6, ← hG2, ← hG1, ← hG0]; rfl
  · rw [l7, ← hG2, ← hG1, ← hG0]; rfl
theorem SaX.sc {h h' : AH} (r : SaX h') (hs : ScR h) (hf : ∀ x, 106 < x → h'.2.2 x = h.2.2 x) : ScR h' := by
  obtain ⟨r1, r2, r3, r4, r5⟩ := r
  obtain ⟨-, -, -, -, -, s7, s8⟩ := hs
  exact ⟨r1, r2, r3, r4, r5, by rw [hf 107 (by decide)]; exact s7, by rw [hf 108 (by decide)]; exact s8⟩
theorem m_hallF {h : AH} {S : SS} {x : Nat} (hI : Inv S) (hr : RepM h S) (q : (Ro S x).1.1 ≠ 0) : ∃ h2, Call M_X9_hall h [.ref 88] = some (h2, some (.int (-10 - nI (Ro S x).1.1))) ∧ RepM h2 (Sft S (Ro S x).1.2) ∧ frM h h2 := by
  obtain ⟨h', c1, ⟨at', pl, tk, v, f, np, npl, ntl, sg, co, m1, -⟩, rX, -, rf, z1, z2⟩ := m_read (x := x) hI hr
  have ok : FOk (S 12 3) (Ro S x).1 := (RO_ok (T := S 9) (n := S 12 3) (S 12 3) (sk (S 9) (S 12 3) 0) (Q0 x) 0 0 (sk_le (Nat.zero_le _)) (QOk_Q0 x)).1
  generalize Ro S x = R at *
  generalize hX : oMo (nI (S 12 0)) (nI (S 12 1)) (nI (S 12 2)) (nI 0) at' pl tk v f (nI R.1.1) (fI R.1.2) (nI np) (nI npl) (nI ntl) (nI sg) (nI co) (nI (S 12 4)) (nI (S 12 5)) = X
  have hm2 : (hup h' 88 X).2.2 88 = some (oMk (fun k => if k = 3 then nI 0 else bS S np npl ntl sg co k) at' pl tk v f (nI R.1.1) (fI R.1.2)) := by rw [hup_get, ← hX]; rfl
  have w := c_isWell ok.1 hm2
  rw [bI_f q] at w
  have eX : hup h' 88 (oMo (bS S np npl ntl sg co 0) (bS S np npl ntl sg co 1) (bS S np npl ntl sg co 2) (nI 0) at' pl tk v f (nI R.1.1) (fI R.1.2) (bS S np npl ntl sg co 4) (bS S np npl ntl sg co 5) (bS S np npl ntl sg co 6) (bS S np npl ntl sg co 7) (bS S np npl ntl sg co 8) (bS S np npl ntl sg co 9) (bS S np npl ntl sg co 10)) = hup h' 88 X := by rw [← hX]; rfl
  obtain ⟨-, hA, hs⟩ := id hr
  refine ⟨hup h' 88 X, ?_, ⟨⟨at', pl, tk, v, f, nI R.1.1, nI np, nI npl, nI ntl, nI sg, nI co, by rw [hup_get, ← hX]; rfl⟩, fun a c hc => ?_, ?_⟩, fun a ha => by rw [hup_ne (by omega)]; exact rf a (by omega) (by omega), z1, z2⟩
  · rw [c1]
    simp only [r_X9_hall_101, r_X9_hall_102, r_X9_hall_103, ↓reduceIte, Option.isSome_some, Option.getD_some, rL_v, rL_n, cH_s, List.cons_append, List.nil_append, cat_i, cat_r, cat_n, ofN, g9_0 m1, g9_1 m1, g9_2 m1, g9_3 m1, p9_3 m1, g9_4 m1, g9_5 m1, g9_6 m1, g9_7 m1, g9_8 m1, g9_9 m1, p9_9 m1, g9_10 m1, p9_10 m1, g9_11 m1, g9_12 m1, g9_13 m1, p9_13 m1, g9_14 m1, p9_14 m1, g9_15 m1, p9_15 m1, g9_16 m1, p9_16 m1, g9_17 m1, p9_17 m1, g9_18 m1, p9_18 m1, g9_19 m1, p9_19 m1, g9_20 m1, p9_20 m1, g9_21 m1, p9_21 m1, g9_22 m1, g9_23 m1, g9_24 m1, g9_25 m1, g9_26 m1, g9_27 m1, p9_27 m1, g9_28 m1, g9_29 m1, p9_29 m1, g9_30 m1, g9_31 m1, g9_32 m1, p9_32 m1, g9_33 m1, p9_33 m1, g9_34 m1, g9_35 m1, g9_36 m1, p9_36 m1, g9_37 m1, g9_38 m1, p9_38 m1, g9_39 m1, ro9 m1, eX]
    simp only [r_X9_hall_106, r_X9_hall_107, r_X9_hall_110, r_X9_hall_113, r_X9_hall_115, r_X9_hall_116, r_X9_hall_119, r_X9_hall_120, ↓reduceIte, Option.isSome_some, Option.getD_some, rL_v, rL_n, cH_s, List.cons_append, List.nil_append, cat_i, cat_r, cat_n, ofN, g9_0 hm2, g9_1 hm2, g9_2 hm2, g9_3 hm2, g9_4 hm2, g9_5 hm2, g9_6 hm2, g9_7 hm2, g9_8 hm2, g9_9 hm2, g9_10 hm2, g9_11 hm2, g9_12 hm2, g9_13 hm2, g9_14 hm2, g9_15 hm2, g9_16 hm2, g9_17 hm2, g9_18 hm2, g9_19 hm2, g9_20 hm2, g9_21 hm2, g9_22 hm2, g9_23 hm2, g9_24 hm2, g9_25 hm2, g9_26 hm2, g9_27 hm2, g9_28 hm2, g9_29 hm2, g9_30 hm2, g9_31 hm2, g9_32 hm2, g9_33 hm2, g9_34 hm2, g9_35 hm2, g9_36 hm2, g9_37 hm2, g9_38 hm2, g9_39 hm2, ro9 hm2, w]
  · have lt := cM_lt hc
    have e : cM (Sft S R.1.2) a = cM S a := by
      unfold cM
      split <;> rfl
    rw [e] at hc
    rw [hup_ne (by omega), rf a (by omega) (by omega)]
    exact hA a c hc
  · exact (rX.fr (fun y _ _ => hup_ne (by omega))).sc hs (fun y hy => by rw [hup_ne (by omega)]; exact rf y (by omega) (by omega))
set_option maxHeartbeats 2000000 in
theorem m_hallW {h : AH} {S : SS} {x : Nat} (hI : Inv S) (hr : RepM h S) (q : (Ro S x).1.1 = 0) : ∃ h2 S', Call M_X9_hall h [.ref 88] = some (h2, some (.int (nI ((Ro S x).2 12 0)))) ∧ Sop S (Ro S x).2 S' ∧ Inv S' ∧ RepM h2 S' ∧ frM h h2 := by
  obtain ⟨h', c1, ⟨at', pl, tk, v, f, np, npl, ntl, sg, co, m1, m2⟩, rX, rS, rf, z1, z2⟩ := m_read (x := x) hI hr
  have ok : FOk (S 12 3) (Ro S x).1 ∧ ((Ro S x).1.1 = 0 → QOk (Ro S x).2) := RO_ok (T := S 9) (n := S 12 3) (S 12 3) (sk (S 9) (S 12 3) 0) (Q0 x) 0 0 (sk_le (Nat.zero_le _)) (QOk_Q0 x)
  generalize Ro S x = R at *
  obtain ⟨e1, e2, e3⟩ := m2 q
  subst e1 e2 e3
  have eR := ok.1.2.1 q
  have oQ := ok.2 q
  have SR := rS q
  obtain ⟨-, hA, hs⟩ := id hr
  generalize hX : oMo (nI (S 12 0)) (nI (S 12 1)) (nI (S 12 2)) (nI 0) at' pl tk v f (nI 0) (fI 0) (nI (R.2 12 0)) (nI (R.2 12 1)) (nI (R.2 12 2)) (nI sg) (nI co) (nI (S 12 4)) (nI (S 12 5)) = X
  have hm2 : (hup h' 88 X).2.2 88 = some (oMk (bS (va_up S 12 (va_up (S 12) 3 0)) (R.2 12 0) (R.2 12 1) (R.2 12 2) sg co) at' pl tk v f (nI 0) (fI 0)) := by rw [hup_get, ← hX]; rfl
  have w := c_isWell (F := (0, 0)) (by decide) hm2
  rw [bI_t rfl] at w
  have hA2 : RepA (hup h' 88 X) (va_up S 12 (va_up (S 12) 3 0)) := by
    intro a c hc
    have lt := cM_lt hc
    have e : cM (va_up S 12 (va_up (S 12) 3 0)) a = cM S a := by
      unfold cM
      split <;> rfl
    rw [e] at hc
    rw [hup_ne (by omega), rf a (by omega) (by omega)]
    exact hA a c hc
  have SR2 := SR.fr (h' := hup h' 88 X) (fun y _ _ => hup_ne (by omega))
  obtain ⟨⟨f1, q1, q1'⟩, ⟨f2, q2, q2'⟩, ⟨f3, q3, q3'⟩, ⟨f4, q4, q4'⟩, ⟨f5, q5, q5'⟩, ⟨f6, q6, q6'⟩, ⟨f7, q7, q7'⟩, ⟨f8, q8, q8'⟩⟩ := id SR2
  obtain ⟨h2, s1, s88, s89, s91, s92, s93, s94, s95, s96, s97, sf, y1, y2⟩ := m_settles hm2 hA2 q1 q2 q3 q4 q5 q6 q7 q8
  obtain ⟨g1, w1, w1'⟩ := irep f1 (R.2 3) (fun p => p < R.2 12 0) q1'
  obtain ⟨g2, w2, w2'⟩ := irep f2 (R.2 4) (fun p => p < R.2 12 0) q2'
  obtain ⟨g3, w3, w3'⟩ := irep f3 (R.2 5) (fun p => p < R.2 12 0) q3'
  obtain ⟨g4, w4, w4'⟩ := irep f4 (R.2 6) (fun p => p < R.2 12 0) q4'
  obtain ⟨g5, w5, w5'⟩ := irep f5 (R.2 7) (fun y => ∃ p i, p < R.2 12 0 ∧ i < R.2 6 p ∧ y = 4 * p + i) (fun y hy => by obtain ⟨p, i, u1, u2, rfl⟩ := hy; exact q5' p u1 i u2)
  obtain ⟨g6, w6, w6'⟩ := irep f6 (fun y => R.2 0 (5 + y)) (fun y => ∃ p, p < R.2 12 1 ∧ (y = 2 * p ∨ y = 2 * p + 1)) (fun y hy => by
    obtain ⟨p, u1, u2⟩ := hy
    rcases u2 with rfl | rfl
    · exact (q6' p u1).1
    · exact (q6' p u1).2)
  obtain ⟨g7, w7, w7'⟩ := irep f7 (R.2 8) (fun y => ∃ p, p < R.2 12 2 ∧ (y = 2 * p ∨ y = 2 * p + 1)) (fun y hy => by
    obtain ⟨p, u1, u2⟩ := hy
    rcases u2 with rfl | rfl
    · exact (q7' p u1).1
    · exact (q7' p u1).2)
  obtain ⟨g8, w8, w8'⟩ := irep f8 (R.2 0) (fun k => k < 5) q8'
  have cp : ∀ (F G : Nat → Nat) (k : Nat), cpI (fun t => nI (F t)) (fun i => nI (G i)) k = fun i => nI (if i < k then F i else G i) := fun F G k => by
    funext i; unfold cpI; split <;> rfl
  generalize hS' : (fun (k : Nat) (i : Nat) => if k = 0 then (if i = 15 ∨ i = 16 ∨ i = 17 then 0 else if 5 ≤ i ∧ i < 15 then g6 (i - 5) else if i < 5 then g8 i else S 0 i) else if k = 2 then (if i = 0 ∨ i = 1 then 0 else S 2 i) else if k = 3 then (if i < 7 then g1 i else S 3 i) else if k = 4 then (if i < 7 then g2 i else S 4 i) else if k = 5 then (if i < 7 then g3 i else S 5 i) else if k = 6 then (if i < 7 then g4 i else S 6 i) else if k = 7 then (if i < 28 then g5 i else S 7 i) else if k = 8 then (if i < 10 then g7 i else S 8 i) else if k = 12 then (if i = 0 then R.2 12 0 else if i = 1 then R.2 12 1 else if i = 2 then R.2 12 2 else 0) else S k i) = S'
  have b0 : S' 0 = fun i => if i = 15 ∨ i = 16 ∨ i = 17 then 0 else if 5 ≤ i ∧ i < 15 then g6 (i - 5) else if i < 5 then g8 i else S 0 i := by rw [← hS']; rfl
  have b1 : S' 1 = S 1 := by rw [← hS']; rfl
  have b2 : S' 2 = fun i => if i = 0 ∨ i = 1 then 0 else S 2 i := by rw [← hS']; rfl
  have b3 : S' 3 = fun i => if i < 7 then g1 i else S 3 i := by rw [← hS']; rfl
  have b4 : S' 4 = fun i => if i < 7 then g2 i else S 4 i := by rw [← hS']; rfl
  have b5 : S' 5 = fun i => if i < 7 then g3 i else S 5 i := by rw [← hS']; rfl
  have b6 : S' 6 = fun i => if i < 7 then g4 i else S 6 i := by rw [← hS']; rfl
  have b7 : S' 7 = fun i => if i < 28 then g5 i else S 7 i := by rw [← hS']; rfl
  have b8 : S' 8 = fun i => if i < 10 then g7 i else S 8 i := by rw [← hS']; rfl
  have b9 : S' 9 = S 9 := by rw [← hS']; rfl
  have b10 : S' 10 = S 10 := by rw [← hS']; rfl
  have b11 : S' 11 = S 11 := by rw [← hS']; rfl
  have b12 : S' 12 = fun i => if i = 0 then R.2 12 0 else if i = 1 then R.2 12 1 else if i = 2 then R.2 12 2 else 0 := by rw [← hS']; rfl
  clear hS'
  have p7 := oQ.1.1
  have hop : Sop S R.2 S' := by
    refine ⟨⟨by rw [b12]; rfl, by rw [b12]; rfl, by rw [b12]; rfl, by rw [b12]; rfl, by rw [b12]; rfl, by rw [b12]; rfl, by rw [b12]; rfl⟩, fun p hp => ⟨?_, ?_, ?_, ?_, fun i hi => ?_⟩, fun i hi => ⟨?_, ?_⟩, fun k hk => ?_, fun p hp => ⟨?_, ?_⟩, ⟨by rw [b0]; rfl, by rw [b0]; rfl, by rw [b0]; rfl, by rw [b0]; rfl⟩, b9, ?_⟩
    · rw [b3]; dsimp only; rw [if_pos (by omega)]; exact w1' p hp
    · rw [b4]; dsimp only; rw [if_pos (by omega)]; exact w2' p hp
    · rw [b5]; dsimp only; rw [if_pos (by omega)]; exact w3' p hp
    · rw [b6]; dsimp only; rw [if_pos (by omega)]; exact w4' p hp
    · have := (oQ.1.2 p hp).2.2.2.2.1
      rw [b7]; dsimp only; rw [if_pos (by omega)]; exact w5' _ ⟨p, i, hp, hi, rfl⟩
    · have := oQ.2.1.2.1
      rw [b8]; dsimp only; rw [if_pos (by omega)]; exact w7' _ ⟨i, hi, Or.inl rfl⟩
    · have := oQ.2.1.2.1
      rw [b8]; dsimp only; rw [if_pos (by omega)]; exact w7' _ ⟨i, hi, Or.inr rfl⟩
    · rw [b0]; dsimp only; rw [if_neg (by omega), if_neg (by omega), if_pos hk]; exact w8' k hk
    · have := oQ.2.1.1
      rw [b0]; dsimp only; rw [if_neg (by omega), if_pos (by omega), show 5 + 2 * p - 5 = 2 * p by omega]; exact w6' _ ⟨p, hp, Or.inl rfl⟩
    · have := oQ.2.1.1
      rw [b0]; dsimp only; rw [if_neg (by omega), if_pos (by omega), show 5 + 2 * p + 1 - 5 = 2 * p + 1 by omega]
      have := w6' (2 * p + 1) ⟨p, hp, Or.inr rfl⟩
      exact this
    · rw [b2]
      funext i
      dsimp only [va_up]
      by_cases u1 : i = 1
      · rw [if_pos (Or.inr u1), if_pos u1]
      · rw [if_neg u1]
        by_cases u0 : i = 0
        · rw [if_pos (Or.inl u0), if_pos u0]
        · rw [if_neg u0, if_neg (by omega)]
  have hsc : ScR h2 := by
    refine (SR2.x.fr (fun y u1 u2 => sf y (by omega))).sc hs (fun y hy => ?_)
    rw [sf y (by omega), hup_ne (by omega)]; exact rf y (by omega) (by omega)
  have s89 : h2.2.2 89 = some (iA 19 (upd (upd (upd (cpL f6 (cpI f8 (fun i => nI (S 0 i)) 5) 10) 15 (nI 0)) 16 (nI 0)) 17 (nI 0))) := s89
  have s91 : h2.2.2 91 = some (zA 2 (upd (upd (fun i => nI (S 2 i)) 0 (nI 0)) 1 (nI 0))) := s91
  have s92 : h2.2.2 92 = some (iA 7 (cpI f1 (fun i => nI (S 3 i)) 7)) := s92
  have s93 : h2.2.2 93 = some (iA 7 (cpI f2 (fun i => nI (S 4 i)) 7)) := s93
  have s94 : h2.2.2 94 = some (iA 7 (cpI f3 (fun i => nI (S 5 i)) 7)) := s94
  have s95 : h2.2.2 95 = some (iA 7 (cpI f4 (fun i => nI (S 6 i)) 7)) := s95
  have s96 : h2.2.2 96 = some (iA 28 (cpI f5 (fun i => nI (S 7 i)) 28)) := s96
  have s97 : h2.2.2 97 = some (iA 10 (cpI f7 (fun i => nI (S 8 i)) 10)) := s97
  have e89 : upd (upd (upd (cpL f6 (cpI f8 (fun i => nI (S 0 i)) 5) 10) 15 (nI 0)) 16 (nI 0)) 17 (nI 0) = fun i => nI (S' 0 i) := by
    funext i
    rw [b0, w6, w8]
    dsimp only [upd, cpL, cpI]
    by_cases u17 : i = 17
    · rw [if_pos u17, if_pos (by omega)]
    · rw [if_neg u17]
      by_cases u16 : i = 16
      · rw [if_pos u16, if_pos (by omega)]
      · rw [if_neg u16]
        by_cases u15 : i = 15
        · rw [if_pos u15, if_pos (by omega)]
        · rw [if_neg u15, if_neg (show ¬ (i = 15 ∨ i = 16 ∨ i = 17) by omega)]
          by_cases u5 : 5 ≤ i ∧ i < 5 + 10
          · rw [if_pos u5, if_pos (show 5 ≤ i ∧ i < 15 by omega)]
          · rw [if_neg u5, if_neg (show ¬ (5 ≤ i ∧ i < 15) by omega)]
            by_cases u4 : i < 5
            · rw [if_pos u4, if_pos u4]
            · rw [if_neg u4, if_neg u4]
  have e91 : upd (upd (fun i => nI (S 2 i)) 0 (nI 0)) 1 (nI 0) = fun i => nI (S' 2 i) := by
    funext i
    rw [b2]
    dsimp only [upd]
    by_cases u1 : i = 1
    · rw [if_pos u1, if_pos (by omega)]
    · rw [if_neg u1]
      by_cases u0 : i = 0
      · rw [if_pos u0, if_pos (by omega)]
      · rw [if_neg u0, if_neg (by omega)]
  rw [e89] at s89
  rw [e91] at s91
  rw [w1, cp g1 (S 3) 7] at s92
  rw [w2, cp g2 (S 4) 7] at s93
  rw [w3, cp g3 (S 5) 7] at s94
  rw [w4, cp g4 (S 6) 7] at s95
  rw [w5, cp g5 (S 7) 28] at s96
  rw [w7, cp g7 (S 8) 10] at s97
  refine ⟨h2, S', ?_, hop, hI.op oQ hop, ⟨⟨at', pl, tk, v, f, nI 0, nI (R.2 12 0), nI (R.2 12 1), nI (R.2 12 2), nI sg, nI co, by rw [s88, b12]; rfl⟩, fun a c hc => ?_, hsc⟩, fun a ha => ?_, y1.trans z1, y2.trans z2⟩
  · rw [c1]
    rw [eR] at m1
    have eX : hup h' 88 (oMo (bS S (R.2 12 0) (R.2 12 1) (R.2 12 2) sg co 0) (bS S (R.2 12 0) (R.2 12 1) (R.2 12 2) sg co 1) (bS S (R.2 12 0) (R.2 12 1) (R.2 12 2) sg co 2) (nI 0) at' pl tk v f (nI 0) (fI 0) (bS S (R.2 12 0) (R.2 12 1) (R.2 12 2) sg co 4) (bS S (R.2 12 0) (R.2 12 1) (R.2 12 2) sg co 5) (bS S (R.2 12 0) (R.2 12 1) (R.2 12 2) sg co 6) (bS S (R.2 12 0) (R.2 12 1) (R.2 12 2) sg co 7) (bS S (R.2 12 0) (R.2 12 1) (R.2 12 2) sg co 8) (bS S (R.2 12 0) (R.2 12 1) (R.2 12 2) sg co 9) (bS S (R.2 12 0) (R.2 12 1) (R.2 12 2) sg co 10)) = hup h' 88 X := by rw [← hX]; rfl
    simp only [r_X9_hall_101, r_X9_hall_102, r_X9_hall_103, ↓reduceIte, Option.isSome_some, Option.getD_some, rL_v, rL_n, cH_s, List.cons_append, List.nil_append, cat_i, cat_r, cat_n, ofN, g9_0 m1, g9_1 m1, g9_2 m1, g9_3 m1, p9_3 m1, g9_4 m1, g9_5 m1, g9_6 m1, g9_7 m1, g9_8 m1, g9_9 m1, p9_9 m1, g9_10 m1, p9_10 m1, g9_11 m1, g9_12 m1, g9_13 m1, p9_13 m1, g9_14 m1, p9_14 m1, g9_15 m1, p9_15 m1, g9_16 m1, p9_16 m1, g9_17 m1, p9_17 m1, g9_18 m1, p9_18 m1, g9_19 m1, p9_19 m1, g9_20 m1, p9_20 m1, g9_21 m1, p9_21 m1, g9_22 m1, g9_23 m1, g9_24 m1, g9_25 m1, g9_26 m1, g9_27 m1, p9_27 m1, g9_28 m1, g9_29 m1, p9_29 m1, g9_30 m1, g9_31 m1, g9_32 m1, p9_32 m1, g9_33 m1, p9_33 m1, g9_34 m1, g9_35 m1, g9_36 m1, p9_36 m1, g9_37 m1, g9_38 m1, p9_38 m1, g9_39 m1, ro9 m1, eX]
    simp only [r_X9_hall_106, r_X9_hall_107, r_X9_hall_110, r_X9_hall_121, r_X9_hall_122, r_X9_hall_125, r_X9_hall_126, r_X9_hall_129, ↓reduceIte, Option.isSome_some, Option.getD_some, rL_v, rL_n, cH_s, List.cons_append, List.nil_append, cat_i, cat_r, cat_n, ofN, ro9 hm2, w, ne10, s1, g9_0 s88, g9_1 s88, g9_2 s88, g9_3 s88, g9_4 s88, g9_5 s88, g9_6 s88, g9_7 s88, g9_8 s88, g9_9 s88, g9_10 s88, g9_11 s88, g9_12 s88, g9_13 s88, g9_14 s88, g9_15 s88, g9_16 s88, g9_17 s88, g9_18 s88, g9_19 s88, g9_20 s88, g9_21 s88, g9_22 s88, g9_23 s88, g9_24 s88, g9_25 s88, g9_26 s88, g9_27 s88, g9_28 s88, g9_29 s88, g9_30 s88, g9_31 s88, g9_32 s88, g9_33 s88, g9_34 s88, g9_35 s88, g9_36 s88, g9_37 s88, g9_38 s88, g9_39 s88, ro9 s88]
  · have ee : ∀ y, y = 90 ∨ 97 < y → h2.2.2 y = (hup h' 88 X).2.2 y := fun y hy => sf y (by omega)
    unfold cM at hc
    split at hc
    · cases hc; exact s89
    · cases hc; rw [ee 90 (by decide), b1]; exact hA2 90 _ rfl
    · cases hc; exact s91
    · cases hc; rw [b3]; exact s92
    · cases hc; rw [b4]; exact s93
    · cases hc; rw [b5]; exact s94
    · cases hc; rw [b6]; exact s95
    · cases hc; rw [b7]; exact s96
    · cases hc; rw [b8]; exact s97
    · cases hc; rw [ee 98 (by decide), b9]; exact hA2 98 _ rfl
    · cases hc; rw [ee 109 (by decide), b10]; exact hA2 109 _ rfl
    · cases hc; rw [ee 110 (by decide), b11]; exact hA2 110 _ rfl
    · cases hc
  · rw [sf a (by omega), hup_ne (by omega)]; exact rf a (by omega) (by omega)
theorem op_hall {S : SS} (hI : Inv S) : OpW M_X8_hall M_X9_hall [] S := by
  intro h ⟨o, rc⟩ rm
  obtain ⟨x, h1, c1, c2, c3⟩ := c_hall hI rc
  have rm1 : RepM h1 S := rm.fr (fun y hy => c3.1 y (Or.inr hy))
  by_cases q : (Ro S x).1.1 = 0
  · obtain ⟨d1, d2⟩ := c2 q
    obtain ⟨h2, S', m1, m2, m3, m4, m5⟩ := m_hallW hI rm1 q
    have rc1 := d2 S' m2
    exact ⟨_, S', h1, h2, m3, d1, m1, rc1, rc1.fr m3.1.1 (fun a ha => m5.1 a ha), m4, c3, m5⟩
  · obtain ⟨d1, d2⟩ := c1 q
    obtain ⟨h2, m1, m2, m3⟩ := m_hallF hI rm1 q
    have ok : FOk (S 12 3) (Ro S x).1 := (RO_ok (T := S 9) (n := S 12 3) (S 12 3) (sk (S 9) (S 12 3) 0) (Q0 x) 0 0 (sk_le (Nat.zero_le _)) (QOk_Q0 x)).1
    have iF := hI.ft (p := (Ro S x).1.2) (by have := ok.2.2; have := hI.2.2.2.2.2.2.1; omega)
    exact ⟨_, _, h1, h2, iF, d1, m1, d2, d2.fr iF.1.1 (fun a ha => m3.1 a ha), m2, c3, m3⟩
