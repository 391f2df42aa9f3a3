/-! ===== calls that change what is agreed, the text, the records ===== -/
theorem op_mk {mc mm : MI} {av : List Value} {S : SS} {r : Value} {S' : SS} (hI : Inv S') (hC : ∀ h o, RepCo h S o → ∃ h', Call mc h (.ref 1 :: av) = some (h', some r) ∧ RepCo h' S' o ∧ frC h h') (hM : ∀ h, RepM h S → ∃ h', Call mm h (.ref 88 :: av) = some (h', some r) ∧ RepM h' S' ∧ frM h h') : OpV mc mm av S :=
  ⟨r, S', hI, fun h ⟨o, hr⟩ => by obtain ⟨h', a, b, c⟩ := hC h o hr; exact ⟨h', a, ⟨o, b⟩, c⟩, hM⟩
theorem c_rput {h : AH} {n j : Nat} {f : Nat → Nat} {fa fl a b c d : Int32} (h2 : h.2.2 2 = some (oRd 3 (nI n) fa fl a b c d)) (h3 : h.2.2 3 = some (iA 250 (fun i => nI (f i)))) (hn : n < 250) : Call M_X7_put h [.ref 2, .int (nI j)] = some (hup (hup h 3 (iA 250 (fun i => nI (va_up f n j i)))) 2 (oRd 3 (nI (n + 1)) fa fl a b c d), some (.int (nI 1))) := by
  have q : nI n < nI 250 := by rw [nI_lt' (by omega) (by decide)]; exact hn
  have h2' : (hup h 3 (iA 250 (fun i => nI (va_up f n j i)))).2.2 2 = some (oRd 3 (nI n) fa fl a b c d) := (hup_ne (by decide)).trans h2
  show Run M_X7_put 0 [.ref 2, .int (nI j)] [] h = _
  simp only [r_X7_put_0, r_X7_put_1, r_X7_put_4, r_X7_put_7, r_X7_put_10, r_X7_put_11_0, r_X7_put_11_1, r_X7_put_11_c, r_X7_put_12, r_X7_put_13, r_X7_put_16, r_X7_put_17, r_X7_put_20, r_X7_put_21, r_X7_put_22, r_X7_put_23, r_X7_put_24, r_X7_put_27, r_X7_put_28, r_X7_put_29, r_X7_put_32, r_X7_put_33_0, r_X7_put_33_1, r_X7_put_33_c, ↓reduceIte, Option.isSome_some, Option.getD_some, rL_v, rL_n, cH_s, List.cons_append, List.nil_append, cat_i, cat_r, cat_n, ofN, g7_0 h2, p7_0 h2, g7_1 h2, p7_1 h2, g7_2 h2, p7_2 h2, g7_3 h2, p7_3 h2, g7_4 h2, p7_4 h2, g7_5 h2, p7_5 h2, g7_6 h2, p7_6 h2, g7_7 h2, p7_7 h2, ro7 h2, q, pI_nI h3 (by decide) (by decide) hn, upd_nI, g7_0 h2', p7_0 h2', g7_1 h2', p7_1 h2', g7_2 h2', p7_2 h2', g7_3 h2', p7_3 h2', g7_4 h2', p7_4 h2', g7_5 h2', p7_5 h2', g7_6 h2', p7_6 h2', g7_7 h2', p7_7 h2', ro7 h2', nI_add]
theorem c_rputN {h : AH} {n x : Int32} {fa fl a b c d : Int32} (h2 : h.2.2 2 = some (oRd 3 n fa fl a b c d)) (hn : ¬ n < nI 250) : Call M_X7_put h [.ref 2, .int x] = some (h, some (.int (nI 0))) := by
  show Run M_X7_put 0 [.ref 2, .int x] [] h = _
  simp only [r_X7_put_0, r_X7_put_1, r_X7_put_4, r_X7_put_7, r_X7_put_10, r_X7_put_11_0, r_X7_put_11_1, r_X7_put_11_c, r_X7_put_12, r_X7_put_13, r_X7_put_16, r_X7_put_17, r_X7_put_20, r_X7_put_21, r_X7_put_22, r_X7_put_23, r_X7_put_24, r_X7_put_27, r_X7_put_28, r_X7_put_29, r_X7_put_32, r_X7_put_33_0, r_X7_put_33_1, r_X7_put_33_c, ↓reduceIte, Option.isSome_some, Option.getD_some, rL_v, rL_n, cH_s, List.cons_append, List.nil_append, cat_i, cat_r, cat_n, ofN, g7_0 h2, g7_1 h2, g7_2 h2, g7_3 h2, g7_4 h2, g7_5 h2, g7_6 h2, g7_7 h2, ro7 h2, hn]
theorem ne10 : ¬ nI 1 = nI 0 := by decide
theorem op_feed {S : SS} (hI : Inv S) (x : Int32) : OpV M_X8_feed M_X9_feed [.int x] S := by
  obtain ⟨hH, hT, hG, hIm, hE, hB, t1, t2, t3⟩ := id hI
  have hn := hH.1
  by_cases hx : nI 0 ≤ x ∧ x ≤ nI 255
  · obtain ⟨j, hj, rfl⟩ := rng (by decide) hx
    by_cases hf : S 12 3 = 250
    · have q1 : ¬ nI (S 12 3) < nI 250 := by rw [hf]; decide
      have q2 : nI (S 12 3) = nI 250 := by rw [hf]
      refine OpV.read (r := .int (-1000000004)) hI (fun h hr => ?_) (fun h hr => ?_)
      · obtain ⟨o, h0, h1, ⟨⟨fl, a, b, c, d, h2⟩, -⟩, -⟩ := hr
        show Run M_X8_feed 0 [.ref 1, .int (nI j)] [] h = _
        simp only [r_X8_feed_0, r_X8_feed_1, r_X8_feed_2, r_X8_feed_5, r_X8_feed_8, r_X8_feed_11, r_X8_feed_13, r_X8_feed_14, r_X8_feed_15, r_X8_feed_18, r_X8_feed_19, r_X8_feed_22, r_X8_feed_25, r_X8_feed_26, r_X8_feed_29, r_X8_feed_32, r_X8_feed_35, r_X8_feed_37, ↓reduceIte, Option.isSome_some, Option.getD_some, rL_v, rL_n, cH_s, List.cons_append, List.nil_append, cat_i, cat_r, cat_n, ofN, g8_0 h1, g8_1 h1, g8_2 h1, g8_3 h1, g8_4 h1, g8_5 h1, g8_6 h1, g8_7 h1, g8_8 h1, ro8 h1, g7_0 h2, g7_1 h2, g7_2 h2, g7_3 h2, g7_4 h2, g7_5 h2, g7_6 h2, g7_7 h2, ro7 h2, c_within, ite_bI, hx, and_self, c_rputN h2 q1]
      · obtain ⟨⟨_, _, _, _, _, _, _, _, _, _, _, hm⟩, hA, -⟩ := hr
        show Run M_X9_feed 0 [.ref 88, .int (nI j)] [] h = _
        simp only [r_X9_feed_0, r_X9_feed_1, r_X9_feed_2, r_X9_feed_5, r_X9_feed_8, r_X9_feed_11, r_X9_feed_13, r_X9_feed_14, r_X9_feed_15, r_X9_feed_18, r_X9_feed_21, r_X9_feed_24, r_X9_feed_26, r_X9_feed_27, r_X9_feed_28, r_X9_feed_31, r_X9_feed_32, r_X9_feed_35, r_X9_feed_36, r_X9_feed_37, r_X9_feed_38, r_X9_feed_39, r_X9_feed_42, r_X9_feed_43, r_X9_feed_44, r_X9_feed_47, r_X9_feed_48, r_X9_feed_51, ↓reduceIte, Option.isSome_some, Option.getD_some, rL_v, rL_n, cH_s, List.cons_append, List.nil_append, cat_i, cat_r, cat_n, ofN, g9_0 hm, g9_1 hm, g9_2 hm, g9_3 hm, g9_4 hm, g9_5 hm, g9_6 hm, g9_7 hm, g9_8 hm, g9_9 hm, g9_10 hm, g9_11 hm, g9_12 hm, g9_13 hm, g9_14 hm, g9_15 hm, g9_16 hm, g9_17 hm, g9_18 hm, g9_19 hm, g9_20 hm, g9_21 hm, g9_22 hm, g9_23 hm, g9_24 hm, g9_25 hm, g9_26 hm, g9_27 hm, g9_28 hm, g9_29 hm, g9_30 hm, g9_31 hm, g9_32 hm, g9_33 hm, g9_34 hm, g9_35 hm, g9_36 hm, g9_37 hm, g9_38 hm, g9_39 hm, ro9 hm, c_in, ite_bI, hx, and_self, q2]
    · have hlt : S 12 3 < 250 := by omega
      have q2 : ¬ nI (S 12 3) = nI 250 := by rw [nI_inj (by omega) (by decide)]; exact hf
      refine op_mk (r := .int (nI (S 12 3 + 1))) (S' := va_up (va_up S 9 (va_up (S 9) (S 12 3) j)) 12 (va_up (S 12) 3 (S 12 3 + 1))) ⟨hH, hT, hG, hIm, hE, hB, ?_, fun i hi => ?_, t3⟩ (fun h o hr => ?_) (fun h hr => ?_)
      · show S 12 3 + 1 ≤ 250; omega
      · show va_up (S 9) (S 12 3) j i < 256
        have hi' : i < S 12 3 + 1 := hi
        by_cases e : i = S 12 3
        · subst e; rw [va_up_self]; omega
        · rw [va_up_ne _ _ e]; exact t2 i (by omega)
      · obtain ⟨h0, h1, ⟨⟨fl, a, b, c, d, h2⟩, h3⟩, -⟩ := id hr
        have h1' : (hup (hup h 3 (iA 250 (fun i => nI (va_up (S 9) (S 12 3) j i)))) 2 (oRd 3 (nI (S 12 3 + 1)) (fI (S 12 6)) fl a b c d)).2.2 1 = some (oCz 2 4 17 32 35 38 39 o (101 - o)) := by rw [hup_ne (by decide), hup_ne (by decide)]; exact h1
        refine ⟨_, ?_, RepCo.rd hn hr (h' := hup (hup h 3 (iA 250 (fun i => nI (va_up (S 9) (S 12 3) j i)))) 2 (oRd 3 (nI (S 12 3 + 1)) (fI (S 12 6)) fl a b c d)) (fun x hx => by rw [hup_ne (by omega), hup_ne (by omega)]) (fun k q1 q2 => by rw [va_up_ne _ _ q2, va_up_ne _ _ q1]) (fun i q1 q2 => by show va_up (S 12) 3 _ i = _; rw [va_up_ne _ _ q1]) ⟨⟨fl, a, b, c, d, hup_get⟩, (hup_ne (by decide)).trans hup_get⟩, fun a ha => by rw [hup_ne (by omega), hup_ne (by omega)], rfl, rfl⟩
        show Run M_X8_feed 0 [.ref 1, .int (nI j)] [] h = _
        simp only [r_X8_feed_0, r_X8_feed_1, r_X8_feed_2, r_X8_feed_5, r_X8_feed_8, r_X8_feed_11, r_X8_feed_13, r_X8_feed_14, r_X8_feed_15, r_X8_feed_18, r_X8_feed_19, r_X8_feed_22, r_X8_feed_25, r_X8_feed_26, r_X8_feed_29, r_X8_feed_32, r_X8_feed_35, r_X8_feed_37, ↓reduceIte, Option.isSome_some, Option.getD_some, rL_v, rL_n, cH_s, List.cons_append, List.nil_append, cat_i, cat_r, cat_n, ofN, g8_0 h1, g8_1 h1, g8_2 h1, g8_3 h1, g8_4 h1, g8_5 h1, g8_6 h1, g8_7 h1, g8_8 h1, ro8 h1, g7_0 h2, g7_1 h2, g7_2 h2, g7_3 h2, g7_4 h2, g7_5 h2, g7_6 h2, g7_7 h2, ro7 h2, c_within, ite_bI, hx, and_self, c_rput h2 h3 hlt, ne10, g8_0 h1', g8_1 h1', g8_2 h1', g8_3 h1', g8_4 h1', g8_5 h1', g8_6 h1', g8_7 h1', g8_8 h1', ro8 h1', rou7, gu7_0, pu7_0, gu7_1, pu7_1, gu7_2, pu7_2, gu7_3, pu7_3, gu7_4, pu7_4, gu7_5, pu7_5, gu7_6, pu7_6, gu7_7, pu7_7]
      · obtain ⟨⟨a, b, c, d, e, f, g, i1, i2, i3, i4, hm⟩, hA, -⟩ := id hr
        have t := hA 98 _ rfl
        have r1 := hr.arr (k := 9) (f := va_up (S 9) (S 12 3) j) (by decide) rfl
        have r2 := r1.obj (f := va_up (S 12) 3 (S 12 3 + 1)) (at' := a) (pl := b) (tk := c) (vl := d) (fg := e) (fl := f) (sp := g) (spl := i1) (stl := i2) (sg := i3) (co := i4)
        have hm' : (hup h 98 (iA 250 (fun i => nI (va_up (S 9) (S 12 3) j i)))).2.2 88 = some (oMo (nI (S 12 0)) (nI (S 12 1)) (nI (S 12 2)) (nI (S 12 3)) a b c d e f (fI (S 12 6)) g i1 i2 i3 i4 (nI (S 12 4)) (nI (S 12 5))) := (hup_ne (by decide)).trans hm
        refine ⟨_, ?_, r2, fun a ha => by rw [hup_ne (by omega), hup_ne (by simp only [adr]; omega)], rfl, rfl⟩
        show Run M_X9_feed 0 [.ref 88, .int (nI j)] [] h = _
        simp only [r_X9_feed_0, r_X9_feed_1, r_X9_feed_2, r_X9_feed_5, r_X9_feed_8, r_X9_feed_11, r_X9_feed_13, r_X9_feed_14, r_X9_feed_15, r_X9_feed_18, r_X9_feed_21, r_X9_feed_24, r_X9_feed_26, r_X9_feed_27, r_X9_feed_28, r_X9_feed_31, r_X9_feed_32, r_X9_feed_35, r_X9_feed_36, r_X9_feed_37, r_X9_feed_38, r_X9_feed_39, r_X9_feed_42, r_X9_feed_43, r_X9_feed_44, r_X9_feed_47, r_X9_feed_48, r_X9_feed_51, ↓reduceIte, Option.isSome_some, Option.getD_some, rL_v, rL_n, cH_s, List.cons_append, List.nil_append, cat_i, cat_r, cat_n, ofN, g9_0 hm, g9_1 hm, g9_2 hm, g9_3 hm, g9_4 hm, g9_5 hm, g9_6 hm, g9_7 hm, g9_8 hm, g9_9 hm, g9_10 hm, g9_11 hm, g9_12 hm, g9_13 hm, g9_14 hm, g9_15 hm, g9_16 hm, g9_17 hm, g9_18 hm, g9_19 hm, g9_20 hm, g9_21 hm, g9_22 hm, g9_23 hm, g9_24 hm, g9_25 hm, g9_26 hm, g9_27 hm, g9_28 hm, g9_29 hm, g9_30 hm, g9_31 hm, g9_32 hm, g9_33 hm, g9_34 hm, g9_35 hm, g9_36 hm, g9_37 hm, g9_38 hm, g9_39 hm, ro9 hm, c_in, ite_bI, hx, and_self, q2, pI_nI t (by decide) (by decide) (show S 12 3 < 250 by omega), upd_nI, g9_13 hm', p9_13 hm', nI_add, gu9_13]
        rfl
  · refine OpV.read (r := .int (-1000000002)) hI (fun h hr => ?_) (fun h hr => ?_)
    · obtain ⟨o, h0, h1, -⟩ := hr
      show Run M_X8_feed 0 [.ref 1, .int x] [] h = _
      simp only [r_X8_feed_0, r_X8_feed_1, r_X8_feed_2, r_X8_feed_5, r_X8_feed_8, r_X8_feed_11, r_X8_feed_13, r_X8_feed_14, r_X8_feed_15, r_X8_feed_18, r_X8_feed_19, r_X8_feed_22, r_X8_feed_25, r_X8_feed_26, r_X8_feed_29, r_X8_feed_32, r_X8_feed_35, r_X8_feed_37, ↓reduceIte, Option.isSome_some, Option.getD_some, rL_v, rL_n, cH_s, List.cons_append, List.nil_append, cat_i, cat_r, cat_n, ofN, g8_0 h1, g8_1 h1, g8_2 h1, g8_3 h1, g8_4 h1, g8_5 h1, g8_6 h1, g8_7 h1, g8_8 h1, ro8 h1, c_within, ite_bI, hx]
    · obtain ⟨⟨_, _, _, _, _, _, _, _, _, _, _, hm⟩, hA, -⟩ := hr
      show Run M_X9_feed 0 [.ref 88, .int x] [] h = _
      simp only [r_X9_feed_0, r_X9_feed_1, r_X9_feed_2, r_X9_feed_5, r_X9_feed_8, r_X9_feed_11, r_X9_feed_13, r_X9_feed_14, r_X9_feed_15, r_X9_feed_18, r_X9_feed_21, r_X9_feed_24, r_X9_feed_26, r_X9_feed_27, r_X9_feed_28, r_X9_feed_31, r_X9_feed_32, r_X9_feed_35, r_X9_feed_36, r_X9_feed_37, r_X9_feed_38, r_X9_feed_39, r_X9_feed_42, r_X9_feed_43, r_X9_feed_44, r_X9_feed_47, r_X9_feed_48, r_X9_feed_51, ↓reduceIte, Option.isSome_some, Option.getD_some, rL_v, rL_n, cH_s, List.cons_append, List.nil_append, cat_i, cat_r, cat_n, ofN, c_in, ite_bI, hx]
theorem c_setCosts {h : AH} {a f5 f6 : Nat} {e l v f0 f1 f2 f3 f4 f7 f8 f9 f10 : Int32} (ha : h.2.2 a = some (oAg f0 f1 f2 f3 f4 f5 f6 f7 f8 f9 f10)) : Call M_X0_setCosts h [.ref a, .int e, .int l, .int v] = some (hup h a (oAg e l v f3 f4 f5 f6 f7 f8 f9 f10), none) := by
  show Run M_X0_setCosts 0 [.ref a, .int e, .int l, .int v] [] h = _
  simp only [r_X0_setCosts_0, r_X0_setCosts_1, r_X0_setCosts_2, r_X0_setCosts_5, r_X0_setCosts_6, r_X0_setCosts_7, r_X0_setCosts_10, r_X0_setCosts_11, r_X0_setCosts_12, r_X0_setCosts_15, ↓reduceIte, Option.isSome_some, Option.getD_some, rL_v, rL_n, cH_s, List.cons_append, List.nil_append, cat_i, cat_r, cat_n, ofN, g0_0 ha, p0_0 ha, g0_1 ha, p0_1 ha, g0_2 ha, p0_2 ha, g0_3 ha, p0_3 ha, g0_4 ha, p0_4 ha, g0_5 ha, p0_5 ha, g0_6 ha, p0_6 ha, g0_7 ha, p0_7 ha, g0_8 ha, p0_8 ha, g0_9 ha, p0_9 ha, g0_10 ha, p0_10 ha, ro0 ha, rou0, gu0_0, pu0_0, gu0_1, pu0_1, gu0_2, pu0_2, gu0_3, pu0_3, gu0_4, pu0_4, gu0_5, pu0_5, gu0_6, pu0_6, gu0_7, pu0_7, gu0_8, pu0_8, gu0_9, pu0_9, gu0_10, pu0_10]
theorem c_setSign {h : AH} {a f5 f6 : Nat} {e l f0 f1 f2 f3 f4 f7 f8 f9 f10 : Int32} (ha : h.2.2 a = some (oAg f0 f1 f2 f3 f4 f5 f6 f7 f8 f9 f10)) : Call M_X0_setSign h [.ref a, .int e, .int l] = some (hup h a (oAg f0 f1 f2 e l f5 f6 f7 f8 f9 f10), none) := by
  show Run M_X0_setSign 0 [.ref a, .int e, .int l] [] h = _
  simp only [r_X0_setSign_0, r_X0_setSign_1, r_X0_setSign_2, r_X0_setSign_5, r_X0_setSign_6, r_X0_setSign_7, r_X0_setSign_10, ↓reduceIte, Option.isSome_some, Option.getD_some, rL_v, rL_n, cH_s, List.cons_append, List.nil_append, cat_i, cat_r, cat_n, ofN, g0_0 ha, p0_0 ha, g0_1 ha, p0_1 ha, g0_2 ha, p0_2 ha, g0_3 ha, p0_3 ha, g0_4 ha, p0_4 ha, g0_5 ha, p0_5 ha, g0_6 ha, p0_6 ha, g0_7 ha, p0_7 ha, g0_8 ha, p0_8 ha, g0_9 ha, p0_9 ha, g0_10 ha, p0_10 ha, ro0 ha, rou0, gu0_0, pu0_0, gu0_1, pu0_1, gu0_2, pu0_2, gu0_3, pu0_3, gu0_4, pu0_4, gu0_5, pu0_5, gu0_6, pu0_6, gu0_7, pu0_7, gu0_8, pu0_8, gu0_9, pu0_9, gu0_10, pu0_10]
/-- fields of what is agreed that are no lags -/
theorem AgR.scal {h : AH} {a n : Nat} {g g' : Nat → Nat} (r : AgR h a g n) (hg : ∀ p, g' (5 + 2 * p) = g (5 + 2 * p) ∧ g' (5 + 2 * p + 1) = g (5 + 2 * p + 1) ∨ n ≤ p) : AgR (hup h a (oAg (nI (g' 0)) (nI (g' 1)) (nI (g' 2)) (nI (g' 3)) (nI (g' 4)) (a + 1) (a + 2) (nI (g' 15)) (nI (g' 16)) (nI (g' 17)) (nI (g' 18)))) a g' n := by
  obtain ⟨h1, ⟨f1, b1, c1⟩, ⟨f2, b2, c2⟩⟩ := r
  refine ⟨hup_get, ⟨f1, by rw [hup_ne (by omega)]; exact b1, fun p hp => ?_⟩, ⟨f2, by rw [hup_ne (by omega)]; exact b2, fun p hp => ?_⟩⟩
  · rcases hg p with q | q
    · rw [q.1]; exact c1 p hp
    · omega
  · rcases hg p with q | q
    · rw [q.2]; exact c2 p hp
    · omega
theorem op_costs {S : SS} (hI : Inv S) (x y z : Int32) : OpV M_X8_costs M_X9_costs [.int x, .int y, .int z] S := by
  obtain ⟨hH, hT, ⟨⟨a1, a2, a3, a4, a5⟩, hL, a6, a7, a8⟩, hIm, hR⟩ := id hI
  have hn := hH.1
  have hp5 := hT.1
  by_cases hx : (nI 0 ≤ x ∧ x ≤ nI 20) ∧ (nI 0 ≤ y ∧ y ≤ nI 20) ∧ (nI 0 ≤ z ∧ z ≤ nI 20)
  · obtain ⟨hx, hy, hz⟩ := hx
    obtain ⟨e, he, rfl⟩ := rng (by decide) hx
    obtain ⟨l, hl, rfl⟩ := rng (by decide) hy
    obtain ⟨v, hv, rfl⟩ := rng (by decide) hz
    have hg : ∀ p, (va_up (va_up (va_up (S 0) 0 e) 1 l) 2 v) (5 + 2 * p) = S 0 (5 + 2 * p) ∧ (va_up (va_up (va_up (S 0) 0 e) 1 l) 2 v) (5 + 2 * p + 1) = S 0 (5 + 2 * p + 1) := fun p => ⟨by rw [va_up_ne _ _ (by omega), va_up_ne _ _ (by omega), va_up_ne _ _ (by omega)], by rw [va_up_ne _ _ (by omega), va_up_ne _ _ (by omega), va_up_ne _ _ (by omega)]⟩
    refine op_mk (r := .int (nI (S 0 0))) (S' := va_up S 0 (va_up (va_up (va_up (S 0) 0 e) 1 l) 2 v)) ⟨hH, hT, ⟨⟨he, hl, hv, a4, a5⟩, fun p hp => ?_, a6, a7, a8⟩, hIm, hR⟩ (fun h o hr => ?_) (fun h hr => ?_)
    · have := hL p hp
      exact ⟨by show (va_up (va_up (va_up (S 0) 0 e) 1 l) 2 v) _ ≤ 30; rw [(hg p).1]; exact this.1, by show (va_up (va_up (va_up (S 0) 0 e) 1 l) 2 v) _ ≤ 30; rw [(hg p).2]; exact this.2⟩
    · obtain ⟨h0, h1, -, ⟨hH1, -, -, -, hA, -⟩, -⟩ := id hr
      have hA1 := hA.1
      have hA' := hA.scal (g' := va_up (va_up (va_up (S 0) 0 e) 1 l) 2 v) (fun p => Or.inl (hg p))
      refine ⟨_, ?_, RepCo.ag hn hr (fun x hx => hup_ne (by omega)) hA', fun a ha => hup_ne (by omega), rfl, rfl⟩
      show Run M_X8_costs 0 [.ref 1, .int (nI e), .int (nI l), .int (nI v), .null] [] h = _
      simp only [r_X8_costs_0, r_X8_costs_1, r_X8_costs_2, r_X8_costs_4, r_X8_costs_7, r_X8_costs_10, r_X8_costs_11, r_X8_costs_12, r_X8_costs_14, r_X8_costs_17, r_X8_costs_20, r_X8_costs_21, r_X8_costs_22, r_X8_costs_24, r_X8_costs_27, r_X8_costs_30, r_X8_costs_32, r_X8_costs_33, r_X8_costs_34, r_X8_costs_37, r_X8_costs_40, r_X8_costs_43, r_X8_costs_45, r_X8_costs_46, r_X8_costs_49, r_X8_costs_52, r_X8_costs_53, r_X8_costs_54, r_X8_costs_55, r_X8_costs_58, r_X8_costs_60, ↓reduceIte, Option.isSome_some, Option.getD_some, rL_v, rL_n, cH_s, List.cons_append, List.nil_append, cat_i, cat_r, cat_n, ofN, g8_0 h1, g8_1 h1, g8_2 h1, g8_3 h1, g8_4 h1, g8_5 h1, g8_6 h1, g8_7 h1, g8_8 h1, ro8 h1, g4_0 hH1, g4_1 hH1, g4_2 hH1, g4_3 hH1, g4_4 hH1, g4_5 hH1, g4_6 hH1, ro4 hH1, g0_0 hA1, g0_1 hA1, g0_2 hA1, g0_3 hA1, g0_4 hA1, g0_5 hA1, g0_6 hA1, g0_7 hA1, g0_8 hA1, g0_9 hA1, g0_10 hA1, ro0 hA1, c_within, ite_bI, hx, hy, hz, and_self, c_setCosts hA1]
      rfl
    · obtain ⟨⟨a, b, c, d, e', f, g, i1, i2, i3, i4, hm⟩, hA, -⟩ := id hr
      have s := hA 89 _ rfl
      have r1 := hr.arr (k := 0) (f := va_up (va_up (va_up (S 0) 0 e) 1 l) 2 v) (by decide) rfl
      refine ⟨_, ?_, r1, fun a ha => hup_ne (by simp only [adr]; omega), rfl, rfl⟩
      show Run M_X9_costs 0 [.ref 88, .int (nI e), .int (nI l), .int (nI v), .null] [] h = _
      simp only [r_X9_costs_0, r_X9_costs_1, r_X9_costs_2, r_X9_costs_4, r_X9_costs_7, r_X9_costs_10, r_X9_costs_11, r_X9_costs_12, r_X9_costs_14, r_X9_costs_17, r_X9_costs_20, r_X9_costs_21, r_X9_costs_22, r_X9_costs_24, r_X9_costs_27, r_X9_costs_30, r_X9_costs_32, r_X9_costs_33, r_X9_costs_34, r_X9_costs_37, r_X9_costs_38, r_X9_costs_39, r_X9_costs_41, r_X9_costs_42, r_X9_costs_45, r_X9_costs_46, r_X9_costs_47, r_X9_costs_48, r_X9_costs_49, r_X9_costs_52, r_X9_costs_53, r_X9_costs_54, r_X9_costs_55, r_X9_costs_56, r_X9_costs_59, r_X9_costs_60, r_X9_costs_61, r_X9_costs_62, r_X9_costs_64, ↓reduceIte, Option.isSome_some, Option.getD_some, rL_v, rL_n, cH_s, List.cons_append, List.nil_append, cat_i, cat_r, cat_n, ofN, g9_0 hm, g9_1 hm, g9_2 hm, g9_3 hm, g9_4 hm, g9_5 hm, g9_6 hm, g9_7 hm, g9_8 hm, g9_9 hm, g9_10 hm, g9_11 hm, g9_12 hm, g9_13 hm, g9_14 hm, g9_15 hm, g9_16 hm, g9_17 hm, g9_18 hm, g9_19 hm, g9_20 hm, g9_21 hm, g9_22 hm, g9_23 hm, g9_24 hm, g9_25 hm, g9_26 hm, g9_27 hm, g9_28 hm, g9_29 hm, g9_30 hm, g9_31 hm, g9_32 hm, g9_33 hm, g9_34 hm, g9_35 hm, g9_36 hm, g9_37 hm, g9_38 hm, g9_39 hm, ro9 hm, c_in, ite_bI, hx, hy, hz, and_self, gI_nI s (by decide) (show 0 < 19 by decide), pI_nI s (by decide) (by decide) (show 0 < 19 by decide), upd_nI, gF_h (show 88 ≠ 89 by decide), pI_u (show 19 < 2147483648 by decide) (show 89 ≠ 0 by decide) (show 1 < 19 by decide), pI_u (show 19 < 2147483648 by decide) (show 89 ≠ 0 by decide) (show 2 < 19 by decide)]
      rfl
  · refine OpV.read (r := .int (-1000000002)) hI (fun h hr => ?_) (fun h hr => ?_)
    · obtain ⟨o, h0, h1, -⟩ := hr
      show Run M_X8_costs 0 [.ref 1, .int x, .int y, .int z, .null] [] h = _
      by_cases q1 : nI 0 ≤ x ∧ x ≤ nI 20
      · by_cases q2 : nI 0 ≤ y ∧ y ≤ nI 20
        · have q3 : ¬ (nI 0 ≤ z ∧ z ≤ nI 20) := fun q => hx ⟨q1, q2, q⟩
          simp only [r_X8_costs_0, r_X8_costs_1, r_X8_costs_2, r_X8_costs_4, r_X8_costs_7, r_X8_costs_10, r_X8_costs_11, r_X8_costs_12, r_X8_costs_14, r_X8_costs_17, r_X8_costs_20, r_X8_costs_21, r_X8_costs_22, r_X8_costs_24, r_X8_costs_27, r_X8_costs_30, r_X8_costs_32, ↓reduceIte, Option.isSome_some, Option.getD_some, rL_v, rL_n, cH_s, List.cons_append, List.nil_append, cat_i, cat_r, cat_n, ofN, c_within, ite_bI, q1, q2, q3, and_self]
        · simp only [r_X8_costs_0, r_X8_costs_1, r_X8_costs_2, r_X8_costs_4, r_X8_costs_7, r_X8_costs_10, r_X8_costs_11, r_X8_costs_12, r_X8_costs_14, r_X8_costs_17, r_X8_costs_20, r_X8_costs_21, r_X8_costs_22, r_X8_costs_24, r_X8_costs_27, r_X8_costs_30, r_X8_costs_32, ↓reduceIte, Option.isSome_some, Option.getD_some, rL_v, rL_n, cH_s, List.cons_append, List.nil_append, cat_i, cat_r, cat_n, ofN, c_within, ite_bI, q1, q2, and_self]
      · simp only [r_X8_costs_0, r_X8_costs_1, r_X8_costs_2, r_X8_costs_4, r_X8_costs_7, r_X8_costs_10, r_X8_costs_11, r_X8_costs_12, r_X8_costs_14, r_X8_costs_17, r_X8_costs_20, r_X8_costs_21, r_X8_costs_22, r_X8_costs_24, r_X8_costs_27, r_X8_costs_30, r_X8_costs_32, ↓reduceIte, Option.isSome_some, Option.getD_some, rL_v, rL_n, cH_s, List.cons_append, List.nil_append, cat_i, cat_r, cat_n, ofN, c_within, ite_bI, q1]
    · show Run M_X9_costs 0 [.ref 88, .int x, .int y, .int z, .null] [] h = _
      by_cases q1 : nI 0 ≤ x ∧ x ≤ nI 20
      · by_cases q2 : nI 0 ≤ y ∧ y ≤ nI 20
        · have q3 : ¬ (nI 0 ≤ z ∧ z ≤ nI 20) := fun q => hx ⟨q1, q2, q⟩
          simp only [r_X9_costs_0, r_X9_costs_1, r_X9_costs_2, r_X9_costs_4, r_X9_costs_7, r_X9_costs_10, r_X9_costs_11, r_X9_costs_12, r_X9_costs_14, r_X9_costs_17, r_X9_costs_20, r_X9_costs_21, r_X9_costs_22, r_X9_costs_24, r_X9_costs_27, r_X9_costs_30, r_X9_costs_32, ↓reduceIte, Option.isSome_some, Option.getD_some, rL_v, rL_n, cH_s, List.cons_append, List.nil_append, cat_i, cat_r, cat_n, ofN, c_in, ite_bI, q1, q2, q3, and_self]
        · simp only [r_X9_costs_0, r_X9_costs_1, r_X9_costs_2, r_X9_costs_4, r_X9_costs_7, r_X9_costs_10, r_X9_costs_11, r_X9_costs_12, r_X9_costs_14, r_X9_costs_17, r_X9_costs_20, r_X9_costs_21, r_X9_costs_22, r_X9_costs_24, r_X9_costs_27, r_X9_costs_30, r_X9_costs_32, ↓reduceIte, Option.isSome_some, Option.getD_some, rL_v, rL_n, cH_s, List.cons_append, List.nil_append, cat_i, cat_r, cat_n, ofN, c_in, ite_bI, q1, q2, and_self]
      · simp only [r_X9_costs_0, r_X9_costs_1, r_X9_costs_2, r_X9_costs_4, r_X9_costs_7, r_X9_costs_10, r_X9_costs_11, r_X9_costs_12, r_X9_costs_14, r_X9_costs_17, r_X9_costs_20, r_X9_costs_21, r_X9_costs_22, r_X9_costs_24, r_X9_costs_27, r_X9_costs_30, r_X9_costs_32, ↓reduceIte, Option.isSome_some, Option.getD_some, rL_v, rL_n, cH_s, List.cons_append, List.nil_append, cat_i, cat_r, cat_n, ofN, c_in, ite_bI, q1]
theorem op_sign {S : SS} (hI : Inv S) (x y : Int32) : OpV M_X8_sign M_X9_sign [.int x, .int y] S := by
  obtain ⟨hH, hT, ⟨⟨a1, a2, a3, a4, a5⟩, hL, a6, a7, a8⟩, hIm, hR⟩ := id hI
  have hn := hH.1
  have hp5 := hT.1
  by_cases hx : nI 0 ≤ x ∧ x ≤ nI 8
  · by_cases hy : nI 0 ≤ y ∧ y ≤ nI 8
    · obtain ⟨e, he, rfl⟩ := rng (by decide) hx
      obtain ⟨l, hl, rfl⟩ := rng (by decide) hy
      have hg : ∀ p, (va_up (va_up (S 0) 3 e) 4 l) (5 + 2 * p) = S 0 (5 + 2 * p) ∧ (va_up (va_up (S 0) 3 e) 4 l) (5 + 2 * p + 1) = S 0 (5 + 2 * p + 1) := fun p => ⟨by rw [va_up_ne _ _ (by omega), va_up_ne _ _ (by omega)], by rw [va_up_ne _ _ (by omega), va_up_ne _ _ (by omega)]⟩
      refine op_mk (r := .int (nI (S 0 3))) (S' := va_up S 0 (va_up (va_up (S 0) 3 e) 4 l)) ⟨hH, hT, ⟨⟨a1, a2, a3, he, hl⟩, fun p hp => ?_, a6, a7, a8⟩, hIm, hR⟩ (fun h o hr => ?_) (fun h hr => ?_)
      · have := hL p hp
        exact ⟨by show (va_up (va_up (S 0) 3 e) 4 l) _ ≤ 30; rw [(hg p).1]; exact this.1, by show (va_up (va_up (S 0) 3 e) 4 l) _ ≤ 30; rw [(hg p).2]; exact this.2⟩
      · obtain ⟨h0, h1, -, ⟨hH1, -, -, -, hA, -⟩, -⟩ := id hr
        have hA1 := hA.1
        have hA' := hA.scal (g' := va_up (va_up (S 0) 3 e) 4 l) (fun p => Or.inl (hg p))
        refine ⟨_, ?_, RepCo.ag hn hr (fun x hx => hup_ne (by omega)) hA', fun a ha => hup_ne (by omega), rfl, rfl⟩
        show Run M_X8_sign 0 [.ref 1, .int (nI e), .int (nI l), .null] [] h = _
        simp only [r_X8_sign_0, r_X8_sign_1, r_X8_sign_2, r_X8_sign_4, r_X8_sign_7, r_X8_sign_10, r_X8_sign_11, r_X8_sign_12, r_X8_sign_14, r_X8_sign_17, r_X8_sign_20, r_X8_sign_22, r_X8_sign_23, r_X8_sign_24, r_X8_sign_27, r_X8_sign_30, r_X8_sign_33, r_X8_sign_34, r_X8_sign_35, r_X8_sign_38, r_X8_sign_41, r_X8_sign_42, r_X8_sign_43, r_X8_sign_46, r_X8_sign_47, ↓reduceIte, Option.isSome_some, Option.getD_some, rL_v, rL_n, cH_s, List.cons_append, List.nil_append, cat_i, cat_r, cat_n, ofN, g8_0 h1, g8_1 h1, g8_2 h1, g8_3 h1, g8_4 h1, g8_5 h1, g8_6 h1, g8_7 h1, g8_8 h1, ro8 h1, g4_0 hH1, g4_1 hH1, g4_2 hH1, g4_3 hH1, g4_4 hH1, g4_5 hH1, g4_6 hH1, ro4 hH1, g0_0 hA1, g0_1 hA1, g0_2 hA1, g0_3 hA1, g0_4 hA1, g0_5 hA1, g0_6 hA1, g0_7 hA1, g0_8 hA1, g0_9 hA1, g0_10 hA1, ro0 hA1, c_within, ite_bI, hx, hy, and_self, c_setSign hA1]
        rfl
      · obtain ⟨⟨a, b, c, d, e', f, g, i1, i2, i3, i4, hm⟩, hA, -⟩ := id hr
        have s := hA 89 _ rfl
        have r1 := hr.arr (k := 0) (f := va_up (va_up (S 0) 3 e) 4 l) (by decide) rfl
        refine ⟨_, ?_, r1, fun a ha => hup_ne (by simp only [adr]; omega), rfl, rfl⟩
        show Run M_X9_sign 0 [.ref 88, .int (nI e), .int (nI l), .null] [] h = _
        simp only [r_X9_sign_0, r_X9_sign_1, r_X9_sign_2, r_X9_sign_4, r_X9_sign_7, r_X9_sign_10, r_X9_sign_11, r_X9_sign_12, r_X9_sign_14, r_X9_sign_17, r_X9_sign_20, r_X9_sign_22, r_X9_sign_23, r_X9_sign_24, r_X9_sign_27, r_X9_sign_28, r_X9_sign_29, r_X9_sign_30, r_X9_sign_31, r_X9_sign_34, r_X9_sign_35, r_X9_sign_36, r_X9_sign_37, r_X9_sign_38, r_X9_sign_41, r_X9_sign_42, r_X9_sign_43, r_X9_sign_44, r_X9_sign_45, ↓reduceIte, Option.isSome_some, Option.getD_some, rL_v, rL_n, cH_s, List.cons_append, List.nil_append, cat_i, cat_r, cat_n, ofN, g9_0 hm, g9_1 hm, g9_2 hm, g9_3 hm, g9_4 hm, g9_5 hm, g9_6 hm, g9_7 hm, g9_8 hm, g9_9 hm, g9_10 hm, g9_11 hm, g9_12 hm, g9_13 hm, g9_14 hm, g9_15 hm, g9_16 hm, g9_17 hm, g9_18 hm, g9_19 hm, g9_20 hm, g9_21 hm, g9_22 hm, g9_23 hm, g9_24 hm, g9_25 hm, g9_26 hm, g9_27 hm, g9_28 hm, g9_29 hm, g9_30 hm, g9_31 hm, g9_32 hm, g9_33 hm, g9_34 hm, g9_35 hm, g9_36 hm, g9_37 hm, g9_38 hm, g9_39 hm, ro9 hm, c_in, ite_bI, hx, hy, and_self, gI_nI s (by decide) (show 3 < 19 by decide), pI_nI s (by decide) (by decide) (show 3 < 19 by decide), upd_nI, gF_h (show 88 ≠ 89 by decide), pI_u (show 19 < 2147483648 by decide) (show 89 ≠ 0 by decide) (show 4 < 19 by decide)]
        rfl
    · refine OpV.read (r := .int (-1000000002)) hI (fun h hr => ?_) (fun h hr => ?_)
      · show Run M_X8_sign 0 [.ref 1, .int x, .int y, .null] [] h = _
        simp only [r_X8_sign_0, r_X8_sign_1, r_X8_sign_2, r_X8_sign_4, r_X8_sign_7, r_X8_sign_10, r_X8_sign_11, r_X8_sign_12, r_X8_sign_14, r_X8_sign_17, r_X8_sign_20, r_X8_sign_22, ↓reduceIte, Option.isSome_some, Option.getD_some, rL_v, rL_n, cH_s, List.cons_append, List.nil_append, cat_i, cat_r, cat_n, ofN, c_within, ite_bI, hx, hy, and_self]
      · show Run M_X9_sign 0 [.ref 88, .int x, .int y, .null] [] h = _
        simp only [r_X9_sign_0, r_X9_sign_1, r_X9_sign_2, r_X9_sign_4, r_X9_sign_7, r_X9_sign_10, r_X9_sign_11, r_X9_sign_12, r_X9_sign_14, r_X9_sign_17, r_X9_sign_20, r_X9_sign_22, ↓reduceIte, Option.isSome_some, Option.getD_some, rL_v, rL_n, cH_s, List.cons_append, List.nil_append, cat_i, cat_r, cat_n, ofN, c_in, ite_bI, hx, hy, and_self]
  · refine OpV.read (r := .int (-1000000002)) hI (fun h hr => ?_) (fun h hr => ?_)
    · show Run M_X8_sign 0 [.ref 1, .int x, .int y, .null] [] h = _
      simp only [r_X8_sign_0, r_X8_sign_1, r_X8_sign_2, r_X8_sign_4, r_X8_sign_7, r_X8_sign_10, r_X8_sign_11, r_X8_sign_12, r_X8_sign_14, r_X8_sign_17, r_X8_sign_20, r_X8_sign_22, ↓reduceIte, Option.isSome_some, Option.getD_some, rL_v, rL_n, cH_s, List.cons_append, List.nil_append, cat_i, cat_r, cat_n, ofN, c_within, ite_bI, hx]
    · show Run M_X9_sign 0 [.ref 88, .int x, .int y, .null] [] h = _
      simp only [r_X9_sign_0, r_X9_sign_1, r_X9_sign_2, r_X9_sign_4, r_X9_sign_7, r_X9_sign_10, r_X9_sign_11, r_X9_sign_12, r_X9_sign_14, r_X9_sign_17, r_X9_sign_20, r_X9_sign_22, ↓reduceIte, Option.isSome_some, Option.getD_some, rL_v, rL_n, cH_s, List.cons_append, List.nil_append, cat_i, cat_r, cat_n, ofN, c_in, ite_bI, hx]
theorem shl1 {n : Nat} (hn : n ≤ 7) : nI 1 <<< (nI n &&& 31) = nI (2 ^ n) := by
  rcases (show n = 0 ∨ n = 1 ∨ n = 2 ∨ n = 3 ∨ n = 4 ∨ n = 5 ∨ n = 6 ∨ n = 7 by omega) with rfl | rfl | rfl | rfl | rfl | rfl | rfl | rfl <;> decide
theorem two_le {n : Nat} (hn : n ≤ 7) : 1 ≤ 2 ^ n ∧ 2 ^ n ≤ 128 := by
  rcases (show n = 0 ∨ n = 1 ∨ n = 2 ∨ n = 3 ∨ n = 4 ∨ n = 5 ∨ n = 6 ∨ n = 7 by omega) with rfl | rfl | rfl | rfl | rfl | rfl | rfl | rfl <;> decide
theorem c_everyPlayer {h : AH} {o r ck nt ag n : Nat} {p tl : Int32} (ho : h.2.2 o = some (oHa p r (nI n) tl ck nt ag)) (hn : n ≤ 7) : Call M_X4_everyPlayer h [.ref o] = some (h, some (.int (nI (2 ^ n) - nI 1))) := by
  show Run M_X4_everyPlayer 0 [.ref o] [] h = _
  simp only [r_X4_everyPlayer_0, r_X4_everyPlayer_1, r_X4_everyPlayer_2, r_X4_everyPlayer_5, r_X4_everyPlayer_6, r_X4_everyPlayer_7, r_X4_everyPlayer_8, ↓reduceIte, Option.isSome_some, Option.getD_some, rL_v, rL_n, cH_s, List.cons_append, List.nil_append, cat_i, cat_r, cat_n, ofN, g4_0 ho, g4_1 ho, g4_2 ho, g4_3 ho, g4_4 ho, g4_5 ho, g4_6 ho, ro4 ho, shl1 hn]
theorem op_lead {S : SS} (hI : Inv S) (x : Int32) : OpV M_X8_lead M_X9_lead [.int x] S := by
  obtain ⟨hH, hT, ⟨⟨a1, a2, a3, a4, a5⟩, hL, a6, a7, a8⟩, hIm, hR⟩ := id hI
  have hn := hH.1
  have hp5 := hT.1
  have h2 := two_le (show S 12 1 ≤ 7 by omega)
  by_cases hx : nI 0 ≤ x ∧ x ≤ nI (2 ^ S 12 1) - nI 1
  · obtain ⟨e, he, rfl⟩ := rngP (by omega) hx
    have hg : ∀ p, (va_up (S 0) 15 e) (5 + 2 * p) = S 0 (5 + 2 * p) ∧ (va_up (S 0) 15 e) (5 + 2 * p + 1) = S 0 (5 + 2 * p + 1) ∨ S 12 1 ≤ p := fun p => by
      by_cases h9 : S 12 1 ≤ p
      · exact Or.inr h9
      · exact Or.inl ⟨by rw [va_up_ne _ _ (by omega)], by rw [va_up_ne _ _ (by omega)]⟩
    refine op_mk (r := .int (nI (S 0 15))) (S' := va_up S 0 (va_up (S 0) 15 e)) ⟨hH, hT, ⟨⟨a1, a2, a3, a4, a5⟩, fun p hp => ?_, he, a7, a8⟩, hIm, hR⟩ (fun h o hr => ?_) (fun h hr => ?_)
    · have := hL p hp
      have hp' : p < S 12 1 := hp
      exact ⟨by show (va_up (S 0) 15 e) _ ≤ 30; rw [va_up_ne _ _ (by omega)]; exact this.1, by show (va_up (S 0) 15 e) _ ≤ 30; rw [va_up_ne _ _ (by omega)]; exact this.2⟩
    · obtain ⟨h0, h1, -, ⟨hH1, -, -, -, hA, -⟩, -⟩ := id hr
      have hA1 := hA.1
      have hA' := hA.scal (g' := va_up (S 0) 15 e) hg
      refine ⟨_, ?_, RepCo.ag hn hr (fun x hx => hup_ne (by omega)) hA', fun a ha => hup_ne (by omega), rfl, rfl⟩
      show Run M_X8_lead 0 [.ref 1, .int (nI e), .null] [] h = _
      simp only [r_X8_lead_0, r_X8_lead_1, r_X8_lead_2, r_X8_lead_3, r_X8_lead_6, r_X8_lead_9, r_X8_lead_12, r_X8_lead_15, r_X8_lead_17, r_X8_lead_18, r_X8_lead_19, r_X8_lead_22, r_X8_lead_25, r_X8_lead_28, r_X8_lead_29, r_X8_lead_30, r_X8_lead_33, r_X8_lead_36, r_X8_lead_37, r_X8_lead_40, r_X8_lead_41, ↓reduceIte, Option.isSome_some, Option.getD_some, rL_v, rL_n, cH_s, List.cons_append, List.nil_append, cat_i, cat_r, cat_n, ofN, g8_0 h1, g8_1 h1, g8_2 h1, g8_3 h1, g8_4 h1, g8_5 h1, g8_6 h1, g8_7 h1, g8_8 h1, ro8 h1, g4_0 hH1, g4_1 hH1, g4_2 hH1, g4_3 hH1, g4_4 hH1, g4_5 hH1, g4_6 hH1, ro4 hH1, g0_0 hA1, p0_0 hA1, g0_1 hA1, p0_1 hA1, g0_2 hA1, p0_2 hA1, g0_3 hA1, p0_3 hA1, g0_4 hA1, p0_4 hA1, g0_5 hA1, p0_5 hA1, g0_6 hA1, p0_6 hA1, g0_7 hA1, p0_7 hA1, g0_8 hA1, p0_8 hA1, g0_9 hA1, p0_9 hA1, g0_10 hA1, p0_10 hA1, ro0 hA1, c_everyPlayer hH1 (show S 12 1 ≤ 7 by omega), c_within, ite_bI, hx, and_self]
      rfl
    · obtain ⟨⟨a, b, c, d, e', f, g, i1, i2, i3, i4, hm⟩, hA, -⟩ := id hr
      have s := hA 89 _ rfl
      have r1 := hr.arr (k := 0) (f := va_up (S 0) 15 e) (by decide) rfl
      refine ⟨_, ?_, r1, fun a ha => hup_ne (by simp only [adr]; omega), rfl, rfl⟩
      show Run M_X9_lead 0 [.ref 88, .int (nI e), .null] [] h = _
      simp only [r_X9_lead_0, r_X9_lead_1, r_X9_lead_2, r_X9_lead_3, r_X9_lead_4, r_X9_lead_7, r_X9_lead_8, r_X9_lead_9, r_X9_lead_10, r_X9_lead_13, r_X9_lead_16, r_X9_lead_18, r_X9_lead_19, r_X9_lead_20, r_X9_lead_23, r_X9_lead_25, r_X9_lead_26, r_X9_lead_27, r_X9_lead_28, r_X9_lead_31, r_X9_lead_33, r_X9_lead_34, r_X9_lead_35, r_X9_lead_36, ↓reduceIte, Option.isSome_some, Option.getD_some, rL_v, rL_n, cH_s, List.cons_append, List.nil_append, cat_i, cat_r, cat_n, ofN, g9_0 hm, g9_1 hm, g9_2 hm, g9_3 hm, g9_4 hm, g9_5 hm, g9_6 hm, g9_7 hm, g9_8 hm, g9_9 hm, g9_10 hm, g9_11 hm, g9_12 hm, g9_13 hm, g9_14 hm, g9_15 hm, g9_16 hm, g9_17 hm, g9_18 hm, g9_19 hm, g9_20 hm, g9_21 hm, g9_22 hm, g9_23 hm, g9_24 hm, g9_25 hm, g9_26 hm, g9_27 hm, g9_28 hm, g9_29 hm, g9_30 hm, g9_31 hm, g9_32 hm, g9_33 hm, g9_34 hm, g9_35 hm, g9_36 hm, g9_37 hm, g9_38 hm, g9_39 hm, ro9 hm, shl1 (show S 12 1 ≤ 7 by omega), c_in, ite_bI, hx, and_self, gI_nI s (by decide) (show 15 < 19 by decide), pI_nI s (by decide) (by decide) (show 15 < 19 by decide), upd_nI]
      rfl
  · refine OpV.read (r := .int (-1000000001)) hI (fun h hr => ?_) (fun h hr => ?_)
    · obtain ⟨o, h0, h1, -, ⟨hH1, -⟩, -⟩ := hr
      show Run M_X8_lead 0 [.ref 1, .int x, .null] [] h = _
      simp only [r_X8_lead_0, r_X8_lead_1, r_X8_lead_2, r_X8_lead_3, r_X8_lead_6, r_X8_lead_9, r_X8_lead_12, r_X8_lead_15, r_X8_lead_17, r_X8_lead_18, r_X8_lead_19, r_X8_lead_22, r_X8_lead_25, r_X8_lead_28, r_X8_lead_29, r_X8_lead_30, r_X8_lead_33, r_X8_lead_36, r_X8_lead_37, r_X8_lead_40, r_X8_lead_41, ↓reduceIte, Option.isSome_some, Option.getD_some, rL_v, rL_n, cH_s, List.cons_append, List.nil_append, cat_i, cat_r, cat_n, ofN, g8_0 h1, g8_1 h1, g8_2 h1, g8_3 h1, g8_4 h1, g8_5 h1, g8_6 h1, g8_7 h1, g8_8 h1, ro8 h1, g4_0 hH1, g4_1 hH1, g4_2 hH1, g4_3 hH1, g4_4 hH1, g4_5 hH1, g4_6 hH1, ro4 hH1, c_everyPlayer hH1 (show S 12 1 ≤ 7 by omega), c_within, ite_bI, hx]
    · obtain ⟨⟨_, _, _, _, _, _, _, _, _, _, _, hm⟩, hA, -⟩ := hr
      show Run M_X9_lead 0 [.ref 88, .int x, .null] [] h = _
      simp only [r_X9_lead_0, r_X9_lead_1, r_X9_lead_2, r_X9_lead_3, r_X9_lead_4, r_X9_lead_7, r_X9_lead_8, r_X9_lead_9, r_X9_lead_10, r_X9_lead_13, r_X9_lead_16, r_X9_lead_18, r_X9_lead_19, r_X9_lead_20, r_X9_lead_23, r_X9_lead_25, r_X9_lead_26, r_X9_lead_27, r_X9_lead_28, r_X9_lead_31, r_X9_lead_33, r_X9_lead_34, r_X9_lead_35, r_X9_lead_36, ↓reduceIte, Option.isSome_some, Option.getD_some, rL_v, rL_n, cH_s, List.cons_append, List.nil_append, cat_i, cat_r, cat_n, ofN, g9_0 hm, g9_1 hm, g9_2 hm, g9_3 hm, g9_4 hm, g9_5 hm, g9_6 hm, g9_7 hm, g9_8 hm, g9_9 hm, g9_10 hm, g9_11 hm, g9_12 hm, g9_13 hm, g9_14 hm, g9_15 hm, g9_16 hm, g9_17 hm, g9_18 hm, g9_19 hm, g9_20 hm, g9_21 hm, g9_22 hm, g9_23 hm, g9_24 hm, g9_25 hm, g9_26 hm, g9_27 hm, g9_28 hm, g9_29 hm, g9_30 hm, g9_31 hm, g9_32 hm, g9_33 hm, g9_34 hm, g9_35 hm, g9_36 hm, g9_37 hm, g9_38 hm, g9_39 hm, ro9 hm, shl1 (show S 12 1 ≤ 7 by omega), c_in, ite_bI, hx]
theorem op_seed {S : SS} (hI : Inv S) (x : Int32) : OpV M_X8_seed M_X9_seed [.int x] S := by
  obtain ⟨hH, hT, ⟨⟨a1, a2, a3, a4, a5⟩, hL, a6, a7, a8⟩, hIm, hR⟩ := id hI
  have hn := hH.1
  have hp5 := hT.1
  by_cases hx : nI 0 ≤ x
  · obtain ⟨e, he, rfl⟩ := nI_of (x := x) (fun q => by
      have q2 : ¬ (nI 0 ≤ x) := by rw [← i_lt]; exact q
      exact q2 hx)
    have hg : ∀ p, (va_up (S 0) 18 e) (5 + 2 * p) = S 0 (5 + 2 * p) ∧ (va_up (S 0) 18 e) (5 + 2 * p + 1) = S 0 (5 + 2 * p + 1) ∨ S 12 1 ≤ p := fun p => by
      by_cases h9 : S 12 1 ≤ p
      · exact Or.inr h9
      · exact Or.inl ⟨by rw [va_up_ne _ _ (by omega)], by rw [va_up_ne _ _ (by omega)]⟩
    refine op_mk (r := .int (nI (S 0 18))) (S' := va_up S 0 (va_up (S 0) 18 e)) ⟨hH, hT, ⟨⟨a1, a2, a3, a4, a5⟩, fun p hp => ?_, a6, a7, he⟩, hIm, hR⟩ (fun h o hr => ?_) (fun h hr => ?_)
    · have := hL p hp
      have hp' : p < S 12 1 := hp
      exact ⟨by show (va_up (S 0) 18 e) _ ≤ 30; rw [va_up_ne _ _ (by omega)]; exact this.1, by show (va_up (S 0) 18 e) _ ≤ 30; rw [va_up_ne _ _ (by omega)]; exact this.2⟩
    · obtain ⟨h0, h1, -, ⟨hH1, -, -, -, hA, -⟩, -⟩ := id hr
      have hA1 := hA.1
      have hA' := hA.scal (g' := va_up (S 0) 18 e) hg
      refine ⟨_, ?_, RepCo.ag hn hr (fun x hx => hup_ne (by omega)) hA', fun a ha => hup_ne (by omega), rfl, rfl⟩
      show Run M_X8_seed 0 [.ref 1, .int (nI e), .null] [] h = _
      simp only [r_X8_seed_0, r_X8_seed_1, r_X8_seed_4, r_X8_seed_6, r_X8_seed_7, r_X8_seed_8, r_X8_seed_11, r_X8_seed_14, r_X8_seed_17, r_X8_seed_18, r_X8_seed_19, r_X8_seed_22, r_X8_seed_25, r_X8_seed_26, r_X8_seed_29, r_X8_seed_30, ↓reduceIte, Option.isSome_some, Option.getD_some, rL_v, rL_n, cH_s, List.cons_append, List.nil_append, cat_i, cat_r, cat_n, ofN, g8_0 h1, g8_1 h1, g8_2 h1, g8_3 h1, g8_4 h1, g8_5 h1, g8_6 h1, g8_7 h1, g8_8 h1, ro8 h1, g4_0 hH1, g4_1 hH1, g4_2 hH1, g4_3 hH1, g4_4 hH1, g4_5 hH1, g4_6 hH1, ro4 hH1, g0_0 hA1, p0_0 hA1, g0_1 hA1, p0_1 hA1, g0_2 hA1, p0_2 hA1, g0_3 hA1, p0_3 hA1, g0_4 hA1, p0_4 hA1, g0_5 hA1, p0_5 hA1, g0_6 hA1, p0_6 hA1, g0_7 hA1, p0_7 hA1, g0_8 hA1, p0_8 hA1, g0_9 hA1, p0_9 hA1, g0_10 hA1, p0_10 hA1, ro0 hA1, hx]
      rfl
    · obtain ⟨⟨a, b, c, d, e', f, g, i1, i2, i3, i4, hm⟩, hA, -⟩ := id hr
      have s := hA 89 _ rfl
      have r1 := hr.arr (k := 0) (f := va_up (S 0) 18 e) (by decide) rfl
      refine ⟨_, ?_, r1, fun a ha => hup_ne (by simp only [adr]; omega), rfl, rfl⟩
      show Run M_X9_seed 0 [.ref 88, .int (nI e), .null] [] h = _
      simp only [r_X9_seed_0, r_X9_seed_1, r_X9_seed_4, r_X9_seed_6, r_X9_seed_7, r_X9_seed_8, r_X9_seed_11, r_X9_seed_13, r_X9_seed_14, r_X9_seed_15, r_X9_seed_16, r_X9_seed_19, r_X9_seed_21, r_X9_seed_22, r_X9_seed_23, r_X9_seed_24, ↓reduceIte, Option.isSome_some, Option.getD_some, rL_v, rL_n, cH_s, List.cons_append, List.nil_append, cat_i, cat_r, cat_n, ofN, g9_0 hm, g9_1 hm, g9_2 hm, g9_3 hm, g9_4 hm, g9_5 hm, g9_6 hm, g9_7 hm, g9_8 hm, g9_9 hm, g9_10 hm, g9_11 hm, g9_12 hm, g9_13 hm, g9_14 hm, g9_15 hm, g9_16 hm, g9_17 hm, g9_18 hm, g9_19 hm, g9_20 hm, g9_21 hm, g9_22 hm, g9_23 hm, g9_24 hm, g9_25 hm, g9_26 hm, g9_27 hm, g9_28 hm, g9_29 hm, g9_30 hm, g9_31 hm, g9_32 hm, g9_33 hm, g9_34 hm, g9_35 hm, g9_36 hm, g9_37 hm, g9_38 hm, g9_39 hm, ro9 hm, hx, gI_nI s (by decide) (show 18 < 19 by decide), pI_nI s (by decide) (by decide) (show 18 < 19 by decide), upd_nI]
      rfl
  · refine OpV.read (r := .int (-1000000002)) hI (fun h hr => ?_) (fun h hr => ?_)
    · show Run M_X8_seed 0 [.ref 1, .int x, .null] [] h = _
      simp only [r_X8_seed_0, r_X8_seed_1, r_X8_seed_4, r_X8_seed_6, ↓reduceIte, Option.isSome_some, Option.getD_some, rL_v, rL_n, cH_s, List.cons_append, List.nil_append, cat_i, cat_r, cat_n, ofN, hx]
    · show Run M_X9_seed 0 [.ref 88, .int x, .null] [] h = _
      simp only [r_X9_seed_0, r_X9_seed_1, r_X9_seed_4, r_X9_seed_6, ↓reduceIte, Option.isSome_some, Option.getD_some, rL_v, rL_n, cH_s, List.cons_append, List.nil_append, cat_i, cat_r, cat_n, ofN, hx]
