/-! ===== lags, records ===== -/
theorem op_lags {S : SS} (hI : Inv S) (x y z : Int32) : OpV M_X8_lags M_X9_lags [.int x, .int y, .int z] S := by
  obtain ⟨hH, hT, ⟨⟨a1, a2, a3, a4, a5⟩, hL, a6, a7, a8⟩, hIm, hR⟩ := id hI
  have hn := hH.1
  have hp5 := hT.1
  by_cases hx : nI 0 ≤ x ∧ x ≤ nI (S 12 1) - nI 1
  · obtain ⟨p, hp, rfl⟩ := rngP (by omega) hx
    by_cases hy : nI 0 ≤ y ∧ y ≤ nI 30
    · by_cases hz : nI 0 ≤ z ∧ z ≤ nI 30
      · obtain ⟨t, ht, rfl⟩ := rng (by decide) hy
        obtain ⟨m, hm', rfl⟩ := rng (by decide) hz
        refine op_mk (r := .int (nI (S 0 (5 + 2 * p)))) (S' := va_up S 0 (va_up (va_up (S 0) (5 + 2 * p) t) (5 + 2 * p + 1) m)) ⟨hH, hT, ?_, hIm, hR⟩ (fun h o hr => ?_) (fun h hr => ?_)
        · show SOk (va_up (va_up (S 0) (5 + 2 * p) t) (5 + 2 * p + 1) m) (S 12 1)
          have e : ∀ k, k ≠ 5 + 2 * p → k ≠ 5 + 2 * p + 1 → va_up (va_up (S 0) (5 + 2 * p) t) (5 + 2 * p + 1) m k = S 0 k := fun k q1 q2 => by rw [va_up_ne _ _ q2, va_up_ne _ _ q1]
          refine ⟨⟨?_, ?_, ?_, ?_, ?_⟩, fun q hq => ?_, ?_, ?_, ?_⟩
          · rw [e _ (by omega) (by omega)]; exact a1
          · rw [e _ (by omega) (by omega)]; exact a2
          · rw [e _ (by omega) (by omega)]; exact a3
          · rw [e _ (by omega) (by omega)]; exact a4
          · rw [e _ (by omega) (by omega)]; exact a5
          · by_cases hqp : q = p
            · subst hqp
              refine ⟨?_, ?_⟩
              · rw [va_up_ne _ _ (by omega), va_up_self]; exact ht
              · rw [va_up_self]; exact hm'
            · rw [e _ (by omega) (by omega), e _ (by omega) (by omega)]; exact hL q hq
          · rw [e _ (by omega) (by omega)]; exact a6
          · rw [e _ (by omega) (by omega)]; exact a7
          · rw [e _ (by omega) (by omega)]; exact a8
        · obtain ⟨h0, h1, -, ⟨hH1, -, -, -, ⟨hA1, ⟨f1, b1, c1⟩, ⟨f2, b2, c2⟩⟩, -⟩, -⟩ := id hr
          have e : ∀ k, k ≠ 5 + 2 * p → k ≠ 5 + 2 * p + 1 → va_up (va_up (S 0) (5 + 2 * p) t) (5 + 2 * p + 1) m k = S 0 k := fun k q1 q2 => by rw [va_up_ne _ _ q2, va_up_ne _ _ q1]
          have hA' : AgR (hup (hup h (o + 4 + 1) (iA 5 (upd f1 p (nI t)))) (o + 4 + 2) (iA 5 (upd f2 p (nI m)))) (o + 4) (va_up (va_up (S 0) (5 + 2 * p) t) (5 + 2 * p + 1) m) (S 12 1) := by
            refine ⟨?_, ⟨_, (hup_ne (by omega)).trans hup_get, fun q hq => ?_⟩, ⟨_, hup_get, fun q hq => ?_⟩⟩
            · rw [hup_ne (by omega), hup_ne (by omega), e 0 (by omega) (by omega), e 1 (by omega) (by omega), e 2 (by omega) (by omega), e 3 (by omega) (by omega), e 4 (by omega) (by omega), e 15 (by omega) (by omega), e 16 (by omega) (by omega), e 17 (by omega) (by omega), e 18 (by omega) (by omega)]; exact hA1
            · by_cases hqp : q = p
              · subst hqp; rw [va_up_ne _ _ (by omega), va_up_self]; simp [upd]
              · rw [e _ (by omega) (by omega)]; simp only [upd]; rw [if_neg hqp]; exact c1 q hq
            · by_cases hqp : q = p
              · subst hqp; rw [va_up_self]; simp [upd]
              · rw [e _ (by omega) (by omega)]; simp only [upd]; rw [if_neg hqp]; exact c2 q hq
          refine ⟨_, ?_, RepCo.ag hn hr (fun x hx => by rw [hup_ne (by omega), hup_ne (by omega)]) hA', fun a ha => by rw [hup_ne (by omega), hup_ne (by omega)], rfl, rfl⟩
          have b2' : (hup h (o + 4 + 1) (iA 5 (upd f1 p (nI t)))).2.2 (o + 4 + 2) = some (iA 5 f2) := (hup_ne (by omega)).trans b2
          show Run M_X8_lags 0 [.ref 1, .int (nI p), .int (nI t), .int (nI m), .null] [] h = _
          simp only [r_X8_lags_0, r_X8_lags_1, r_X8_lags_4, r_X8_lags_5, r_X8_lags_8, r_X8_lags_11, r_X8_lags_13, r_X8_lags_14, r_X8_lags_15, r_X8_lags_16, r_X8_lags_18, r_X8_lags_21, r_X8_lags_24, r_X8_lags_25, r_X8_lags_26, r_X8_lags_28, r_X8_lags_31, r_X8_lags_34, r_X8_lags_36, r_X8_lags_37, r_X8_lags_38, r_X8_lags_41, r_X8_lags_44, r_X8_lags_47, r_X8_lags_48, r_X8_lags_49, r_X8_lags_51, r_X8_lags_52, r_X8_lags_55, r_X8_lags_58, r_X8_lags_61, r_X8_lags_62, r_X8_lags_63, r_X8_lags_64, r_X8_lags_65, r_X8_lags_68, r_X8_lags_71, r_X8_lags_74, r_X8_lags_75, r_X8_lags_76, r_X8_lags_77, r_X8_lags_79, ↓reduceIte, Option.isSome_some, Option.getD_some, rL_v, rL_n, cH_s, List.cons_append, List.nil_append, cat_i, cat_r, cat_n, ofN, g8_0 h1, g8_1 h1, g8_2 h1, g8_3 h1, g8_4 h1, g8_5 h1, g8_6 h1, g8_7 h1, g8_8 h1, ro8 h1, g4_0 hH1, g4_1 hH1, g4_2 hH1, g4_3 hH1, g4_4 hH1, g4_5 hH1, g4_6 hH1, ro4 hH1, g0_0 hA1, g0_1 hA1, g0_2 hA1, g0_3 hA1, g0_4 hA1, g0_5 hA1, g0_6 hA1, g0_7 hA1, g0_8 hA1, g0_9 hA1, g0_10 hA1, ro0 hA1, c_hasPlayer hH1, c_within, ite_bI, hx, hy, hz, and_self, gI_nI b1 (by decide) (show p < 5 by omega), c1 p hp, pI_nI b1 (by decide) (by omega) (show p < 5 by omega), gF_h (show 1 ≠ o + 4 + 1 by omega), gF_h (show o ≠ o + 4 + 1 by omega), gF_h (show o + 4 ≠ o + 4 + 1 by omega), pI_nI b2' (by decide) (by omega) (show p < 5 by omega)]
        · obtain ⟨⟨a, b, c, d, e', f, g, i1, i2, i3, i4, hm⟩, hA, -⟩ := id hr
          have s := hA 89 _ rfl
          have r1 := hr.arr (k := 0) (f := va_up (va_up (S 0) (5 + 2 * p) t) (5 + 2 * p + 1) m) (by decide) rfl
          refine ⟨_, ?_, r1, fun a ha => hup_ne (by simp only [adr]; omega), rfl, rfl⟩
          show Run M_X9_lags 0 [.ref 88, .int (nI p), .int (nI t), .int (nI m), .null] [] h = _
          simp only [r_X9_lags_0, r_X9_lags_1, r_X9_lags_2, r_X9_lags_5, r_X9_lags_8, r_X9_lags_10, r_X9_lags_11, r_X9_lags_12, r_X9_lags_13, r_X9_lags_15, r_X9_lags_18, r_X9_lags_21, r_X9_lags_22, r_X9_lags_23, r_X9_lags_25, r_X9_lags_28, r_X9_lags_31, r_X9_lags_33, r_X9_lags_34, r_X9_lags_35, r_X9_lags_38, r_X9_lags_39, r_X9_lags_40, r_X9_lags_41, r_X9_lags_42, r_X9_lags_43, r_X9_lags_44, r_X9_lags_46, r_X9_lags_47, r_X9_lags_50, r_X9_lags_51, r_X9_lags_52, r_X9_lags_53, r_X9_lags_54, r_X9_lags_55, r_X9_lags_56, r_X9_lags_57, r_X9_lags_58, r_X9_lags_61, r_X9_lags_62, r_X9_lags_63, r_X9_lags_64, r_X9_lags_65, r_X9_lags_66, r_X9_lags_67, r_X9_lags_68, r_X9_lags_69, r_X9_lags_70, r_X9_lags_72, ↓reduceIte, Option.isSome_some, Option.getD_some, rL_v, rL_n, cH_s, List.cons_append, List.nil_append, cat_i, cat_r, cat_n, ofN, g9_0 hm, g9_1 hm, g9_2 hm, g9_3 hm, g9_4 hm, g9_5 hm, g9_6 hm, g9_7 hm, g9_8 hm, g9_9 hm, g9_10 hm, g9_11 hm, g9_12 hm, g9_13 hm, g9_14 hm, g9_15 hm, g9_16 hm, g9_17 hm, g9_18 hm, g9_19 hm, g9_20 hm, g9_21 hm, g9_22 hm, g9_23 hm, g9_24 hm, g9_25 hm, g9_26 hm, g9_27 hm, g9_28 hm, g9_29 hm, g9_30 hm, g9_31 hm, g9_32 hm, g9_33 hm, g9_34 hm, g9_35 hm, g9_36 hm, g9_37 hm, g9_38 hm, g9_39 hm, ro9 hm, c_isPlayer hm, c_in, ite_bI, hx, hy, hz, and_self, nI_m, nI_add, gI_nI s (by decide) (show 5 + 2 * p < 19 by omega), pI_nI s (by decide) (by decide) (show 5 + 2 * p < 19 by omega), upd_nI, gF_h (show 88 ≠ 89 by decide), pI_u (show 19 < 2147483648 by decide) (show 89 ≠ 0 by decide) (show 5 + 2 * p + 1 < 19 by omega)]
          rfl
      · refine OpV.read (r := .int (-1000000002)) hI (fun h hr => ?_) (fun h hr => ?_)
        · obtain ⟨o, h0, h1, -, ⟨hH1, -⟩, -⟩ := hr
          show Run M_X8_lags 0 [.ref 1, .int (nI p), .int y, .int z, .null] [] h = _
          simp only [r_X8_lags_0, r_X8_lags_1, r_X8_lags_4, r_X8_lags_5, r_X8_lags_8, r_X8_lags_11, r_X8_lags_13, r_X8_lags_14, r_X8_lags_15, r_X8_lags_16, r_X8_lags_18, r_X8_lags_21, r_X8_lags_24, r_X8_lags_25, r_X8_lags_26, r_X8_lags_28, r_X8_lags_31, r_X8_lags_34, r_X8_lags_36, ↓reduceIte, Option.isSome_some, Option.getD_some, rL_v, rL_n, cH_s, List.cons_append, List.nil_append, cat_i, cat_r, cat_n, ofN, g8_0 h1, g8_1 h1, g8_2 h1, g8_3 h1, g8_4 h1, g8_5 h1, g8_6 h1, g8_7 h1, g8_8 h1, ro8 h1, c_hasPlayer hH1, ro4 hH1, c_within, ite_bI, hx, hy, hz, and_self]
        · obtain ⟨⟨_, _, _, _, _, _, _, _, _, _, _, hm⟩, hA, -⟩ := hr
          show Run M_X9_lags 0 [.ref 88, .int (nI p), .int y, .int z, .null] [] h = _
          simp only [r_X9_lags_0, r_X9_lags_1, r_X9_lags_2, r_X9_lags_5, r_X9_lags_8, r_X9_lags_10, r_X9_lags_11, r_X9_lags_12, r_X9_lags_13, r_X9_lags_15, r_X9_lags_18, r_X9_lags_21, r_X9_lags_22, r_X9_lags_23, r_X9_lags_25, r_X9_lags_28, r_X9_lags_31, r_X9_lags_33, ↓reduceIte, Option.isSome_some, Option.getD_some, rL_v, rL_n, cH_s, List.cons_append, List.nil_append, cat_i, cat_r, cat_n, ofN, ro9 hm, c_isPlayer hm, c_in, ite_bI, hx, hy, hz, and_self]
    · refine OpV.read (r := .int (-1000000002)) hI (fun h hr => ?_) (fun h hr => ?_)
      · obtain ⟨o, h0, h1, -, ⟨hH1, -⟩, -⟩ := hr
        show Run M_X8_lags 0 [.ref 1, .int (nI p), .int y, .int z, .null] [] h = _
        simp only [r_X8_lags_0, r_X8_lags_1, r_X8_lags_4, r_X8_lags_5, r_X8_lags_8, r_X8_lags_11, r_X8_lags_13, r_X8_lags_14, r_X8_lags_15, r_X8_lags_16, r_X8_lags_18, r_X8_lags_21, r_X8_lags_24, r_X8_lags_25, r_X8_lags_26, r_X8_lags_28, r_X8_lags_31, r_X8_lags_34, r_X8_lags_36, ↓reduceIte, Option.isSome_some, Option.getD_some, rL_v, rL_n, cH_s, List.cons_append, List.nil_append, cat_i, cat_r, cat_n, ofN, g8_0 h1, g8_1 h1, g8_2 h1, g8_3 h1, g8_4 h1, g8_5 h1, g8_6 h1, g8_7 h1, g8_8 h1, ro8 h1, c_hasPlayer hH1, ro4 hH1, c_within, ite_bI, hx, hy, and_self]
      · obtain ⟨⟨_, _, _, _, _, _, _, _, _, _, _, hm⟩, hA, -⟩ := hr
        show Run M_X9_lags 0 [.ref 88, .int (nI p), .int y, .int z, .null] [] h = _
        simp only [r_X9_lags_0, r_X9_lags_1, r_X9_lags_2, r_X9_lags_5, r_X9_lags_8, r_X9_lags_10, r_X9_lags_11, r_X9_lags_12, r_X9_lags_13, r_X9_lags_15, r_X9_lags_18, r_X9_lags_21, r_X9_lags_22, r_X9_lags_23, r_X9_lags_25, r_X9_lags_28, r_X9_lags_31, r_X9_lags_33, ↓reduceIte, Option.isSome_some, Option.getD_some, rL_v, rL_n, cH_s, List.cons_append, List.nil_append, cat_i, cat_r, cat_n, ofN, ro9 hm, c_isPlayer hm, c_in, ite_bI, hx, hy, and_self]
  · refine OpV.read (r := .int (-1000000001)) hI (fun h hr => ?_) (fun h hr => ?_)
    · obtain ⟨o, h0, h1, -, ⟨hH1, -⟩, -⟩ := hr
      show Run M_X8_lags 0 [.ref 1, .int x, .int y, .int z, .null] [] h = _
      simp only [r_X8_lags_0, r_X8_lags_1, r_X8_lags_4, r_X8_lags_5, r_X8_lags_8, r_X8_lags_11, r_X8_lags_13, r_X8_lags_14, r_X8_lags_15, r_X8_lags_16, r_X8_lags_18, r_X8_lags_21, r_X8_lags_24, r_X8_lags_25, r_X8_lags_26, r_X8_lags_28, r_X8_lags_31, r_X8_lags_34, r_X8_lags_36, ↓reduceIte, Option.isSome_some, Option.getD_some, rL_v, rL_n, cH_s, List.cons_append, List.nil_append, cat_i, cat_r, cat_n, ofN, g8_0 h1, g8_1 h1, g8_2 h1, g8_3 h1, g8_4 h1, g8_5 h1, g8_6 h1, g8_7 h1, g8_8 h1, ro8 h1, c_hasPlayer hH1, ro4 hH1, ite_bI, hx]
    · obtain ⟨⟨_, _, _, _, _, _, _, _, _, _, _, hm⟩, hA, -⟩ := hr
      show Run M_X9_lags 0 [.ref 88, .int x, .int y, .int z, .null] [] h = _
      simp only [r_X9_lags_0, r_X9_lags_1, r_X9_lags_2, r_X9_lags_5, r_X9_lags_8, r_X9_lags_10, r_X9_lags_11, r_X9_lags_12, r_X9_lags_13, r_X9_lags_15, r_X9_lags_18, r_X9_lags_21, r_X9_lags_22, r_X9_lags_23, r_X9_lags_25, r_X9_lags_28, r_X9_lags_31, r_X9_lags_33, ↓reduceIte, Option.isSome_some, Option.getD_some, rL_v, rL_n, cH_s, List.cons_append, List.nil_append, cat_i, cat_r, cat_n, ofN, ro9 hm, c_isPlayer hm, ite_bI, hx]
theorem c_eput {h : AH} {n : Nat} {x y : Int32} {f1 f2 : Nat → Int32} (h1 : h.2.2 32 = some (oEn 33 34 (nI n))) (b1 : h.2.2 33 = some (iA 12 f1)) (b2 : h.2.2 34 = some (iA 12 f2)) (hn : n < 12) : Call M_X3_put h [.ref 32, .int x, .int y] = some (hup (hup (hup h 33 (iA 12 (upd f1 n x))) 34 (iA 12 (upd f2 n y))) 32 (oEn 33 34 (nI (n + 1))), some (.int (nI 1))) := by
  have q : nI n < nI 12 := by rw [nI_lt' (by omega) (by decide)]; exact hn
  have b2' : (hup h 33 (iA 12 (upd f1 n x))).2.2 34 = some (iA 12 f2) := (hup_ne (by decide)).trans b2
  have h1' : (hup (hup h 33 (iA 12 (upd f1 n x))) 34 (iA 12 (upd f2 n y))).2.2 32 = some (oEn 33 34 (nI n)) := by rw [hup_ne (by decide), hup_ne (by decide)]; exact h1
  show Run M_X3_put 0 [.ref 32, .int x, .int y] [] h = _
  simp only [r_X3_put_0, r_X3_put_1, r_X3_put_4, r_X3_put_6, r_X3_put_9, r_X3_put_10_0, r_X3_put_10_1, r_X3_put_10_c, r_X3_put_11, r_X3_put_12, r_X3_put_15, r_X3_put_16, r_X3_put_19, r_X3_put_20, r_X3_put_21, r_X3_put_22, r_X3_put_25, r_X3_put_26, r_X3_put_29, r_X3_put_30, r_X3_put_31, r_X3_put_32, r_X3_put_33, r_X3_put_36, r_X3_put_37, r_X3_put_38, r_X3_put_41, r_X3_put_42_0, r_X3_put_42_1, r_X3_put_42_c, ↓reduceIte, Option.isSome_some, Option.getD_some, rL_v, rL_n, cH_s, List.cons_append, List.nil_append, cat_i, cat_r, cat_n, ofN, g3_0 h1, g3_1 h1, g3_2 h1, ro3 h1, q, pI_nI b1 (by decide) (by decide) hn, gF_h (show 32 ≠ 33 by decide), pI_nI b2' (by decide) (by decide) hn, g3_0 h1', p3_0 h1', g3_1 h1', p3_1 h1', g3_2 h1', p3_2 h1', ro3 h1', nI_add]
theorem c_eputN {h : AH} {n x y : Int32} (h1 : h.2.2 32 = some (oEn 33 34 n)) (hn : ¬ n < nI 12) : Call M_X3_put h [.ref 32, .int x, .int y] = some (h, some (.int (nI 0))) := by
  show Run M_X3_put 0 [.ref 32, .int x, .int y] [] h = _
  simp only [r_X3_put_0, r_X3_put_1, r_X3_put_4, r_X3_put_6, r_X3_put_9, r_X3_put_10_0, r_X3_put_10_1, r_X3_put_10_c, r_X3_put_11, r_X3_put_12, r_X3_put_15, r_X3_put_16, r_X3_put_19, r_X3_put_20, r_X3_put_21, r_X3_put_22, r_X3_put_25, r_X3_put_26, r_X3_put_29, r_X3_put_30, r_X3_put_31, r_X3_put_32, r_X3_put_33, r_X3_put_36, r_X3_put_37, r_X3_put_38, r_X3_put_41, r_X3_put_42_0, r_X3_put_42_1, r_X3_put_42_c, ↓reduceIte, Option.isSome_some, Option.getD_some, rL_v, rL_n, cH_s, List.cons_append, List.nil_append, cat_i, cat_r, cat_n, ofN, g3_0 h1, g3_1 h1, g3_2 h1, ro3 h1, hn]
theorem c_bput {h : AH} {n : Nat} {x y : Int32} {f1 f2 : Nat → Int32} (h1 : h.2.2 35 = some (oBk 36 37 (nI n))) (b1 : h.2.2 36 = some (iA 20 f1)) (b2 : h.2.2 37 = some (iA 20 f2)) (hn : n < 20) : Call M_X1_put h [.ref 35, .int x, .int y] = some (hup (hup (hup h 36 (iA 20 (upd f1 n x))) 37 (iA 20 (upd f2 n y))) 35 (oBk 36 37 (nI (n + 1))), some (.int (nI 1))) := by
  have q : nI n < nI 20 := by rw [nI_lt' (by omega) (by decide)]; exact hn
  have b2' : (hup h 36 (iA 20 (upd f1 n x))).2.2 37 = some (iA 20 f2) := (hup_ne (by decide)).trans b2
  have h1' : (hup (hup h 36 (iA 20 (upd f1 n x))) 37 (iA 20 (upd f2 n y))).2.2 35 = some (oBk 36 37 (nI n)) := by rw [hup_ne (by decide), hup_ne (by decide)]; exact h1
  show Run M_X1_put 0 [.ref 35, .int x, .int y] [] h = _
  simp only [r_X1_put_0, r_X1_put_1, r_X1_put_4, r_X1_put_6, r_X1_put_9, r_X1_put_10_0, r_X1_put_10_1, r_X1_put_10_c, r_X1_put_11, r_X1_put_12, r_X1_put_15, r_X1_put_16, r_X1_put_19, r_X1_put_20, r_X1_put_21, r_X1_put_22, r_X1_put_25, r_X1_put_26, r_X1_put_29, r_X1_put_30, r_X1_put_31, r_X1_put_32, r_X1_put_33, r_X1_put_36, r_X1_put_37, r_X1_put_38, r_X1_put_41, r_X1_put_42_0, r_X1_put_42_1, r_X1_put_42_c, ↓reduceIte, Option.isSome_some, Option.getD_some, rL_v, rL_n, cH_s, List.cons_append, List.nil_append, cat_i, cat_r, cat_n, ofN, g1_0 h1, g1_1 h1, g1_2 h1, ro1 h1, q, pI_nI b1 (by decide) (by decide) hn, gF_h (show 35 ≠ 36 by decide), pI_nI b2' (by decide) (by decide) hn, g1_0 h1', p1_0 h1', g1_1 h1', p1_1 h1', g1_2 h1', p1_2 h1', ro1 h1', nI_add]
theorem c_bputN {h : AH} {n x y : Int32} (h1 : h.2.2 35 = some (oBk 36 37 n)) (hn : ¬ n < nI 20) : Call M_X1_put h [.ref 35, .int x, .int y] = some (h, some (.int (nI 0))) := by
  show Run M_X1_put 0 [.ref 35, .int x, .int y] [] h = _
  simp only [r_X1_put_0, r_X1_put_1, r_X1_put_4, r_X1_put_6, r_X1_put_9, r_X1_put_10_0, r_X1_put_10_1, r_X1_put_10_c, r_X1_put_11, r_X1_put_12, r_X1_put_15, r_X1_put_16, r_X1_put_19, r_X1_put_20, r_X1_put_21, r_X1_put_22, r_X1_put_25, r_X1_put_26, r_X1_put_29, r_X1_put_30, r_X1_put_31, r_X1_put_32, r_X1_put_33, r_X1_put_36, r_X1_put_37, r_X1_put_38, r_X1_put_41, r_X1_put_42_0, r_X1_put_42_1, r_X1_put_42_c, ↓reduceIte, Option.isSome_some, Option.getD_some, rL_v, rL_n, cH_s, List.cons_append, List.nil_append, cat_i, cat_r, cat_n, ofN, g1_0 h1, g1_1 h1, g1_2 h1, ro1 h1, hn]
theorem op_enter {S : SS} (hI : Inv S) (x y : Int32) : OpV M_X8_enter M_X9_enter [.int x, .int y] S := by
  obtain ⟨hH, hT, hG, hIm, ⟨e1, e2⟩, hB, hX⟩ := id hI
  have hn := hH.1
  have hp5 := hT.1
  by_cases hx : nI 0 ≤ x ∧ x ≤ nI (S 12 1) - nI 1
  · obtain ⟨p, hp, rfl⟩ := rngP (by omega) hx
    by_cases hy : nI 0 ≤ y ∧ y ≤ nI 999
    · obtain ⟨t, ht, rfl⟩ := rng (by decide) hy
      by_cases hf : S 12 4 = 12
      · have q1 : ¬ nI (S 12 4) < nI 12 := by rw [hf]; decide
        have q2 : nI (S 12 4) = nI 12 := by rw [hf]
        refine OpV.read (r := .int (-1000000004)) hI (fun h hr => ?_) (fun h hr => ?_)
        · obtain ⟨o, h0, h1, -, ⟨hH1, -⟩, -, -, -, ⟨hE1, -⟩, -⟩ := hr
          show Run M_X8_enter 0 [.ref 1, .int (nI p), .int (nI t)] [] h = _
          simp only [r_X8_enter_0, r_X8_enter_1, r_X8_enter_4, r_X8_enter_5, r_X8_enter_8, r_X8_enter_11, r_X8_enter_13, r_X8_enter_14, r_X8_enter_15, r_X8_enter_16, r_X8_enter_19, r_X8_enter_22, r_X8_enter_25, r_X8_enter_27, r_X8_enter_28, r_X8_enter_29, r_X8_enter_32, r_X8_enter_33, r_X8_enter_34, r_X8_enter_37, r_X8_enter_40, r_X8_enter_41, r_X8_enter_44, r_X8_enter_47, r_X8_enter_50, r_X8_enter_52, ↓reduceIte, Option.isSome_some, Option.getD_some, rL_v, rL_n, cH_s, List.cons_append, List.nil_append, cat_i, cat_r, cat_n, ofN, g8_0 h1, g8_1 h1, g8_2 h1, g8_3 h1, g8_4 h1, g8_5 h1, g8_6 h1, g8_7 h1, g8_8 h1, ro8 h1, ro4 hH1, ro3 hE1, c_hasPlayer hH1, c_within, ite_bI, hx, hy, and_self, c_eputN hE1 q1]
        · obtain ⟨⟨_, _, _, _, _, _, _, _, _, _, _, hm⟩, hA, -⟩ := hr
          show Run M_X9_enter 0 [.ref 88, .int (nI p), .int (nI t)] [] h = _
          simp only [r_X9_enter_0, r_X9_enter_1, r_X9_enter_2, r_X9_enter_5, r_X9_enter_8, r_X9_enter_10, r_X9_enter_11, r_X9_enter_12, r_X9_enter_13, r_X9_enter_16, r_X9_enter_19, r_X9_enter_22, r_X9_enter_24, r_X9_enter_25, r_X9_enter_26, r_X9_enter_29, r_X9_enter_31, r_X9_enter_34, r_X9_enter_36, r_X9_enter_37, r_X9_enter_38, r_X9_enter_41, r_X9_enter_42, r_X9_enter_43, r_X9_enter_46, r_X9_enter_47, r_X9_enter_48, r_X9_enter_49, r_X9_enter_50, r_X9_enter_53, r_X9_enter_54, r_X9_enter_55, r_X9_enter_58, r_X9_enter_59, r_X9_enter_60, r_X9_enter_61, r_X9_enter_62, r_X9_enter_63, r_X9_enter_64, r_X9_enter_65, r_X9_enter_68, r_X9_enter_69, r_X9_enter_70, r_X9_enter_73, r_X9_enter_74, r_X9_enter_77, ↓reduceIte, Option.isSome_some, Option.getD_some, rL_v, rL_n, cH_s, List.cons_append, List.nil_append, cat_i, cat_r, cat_n, ofN, g9_0 hm, g9_1 hm, g9_2 hm, g9_3 hm, g9_4 hm, g9_5 hm, g9_6 hm, g9_7 hm, g9_8 hm, g9_9 hm, g9_10 hm, g9_11 hm, g9_12 hm, g9_13 hm, g9_14 hm, g9_15 hm, g9_16 hm, g9_17 hm, g9_18 hm, g9_19 hm, g9_20 hm, g9_21 hm, g9_22 hm, g9_23 hm, g9_24 hm, g9_25 hm, g9_26 hm, g9_27 hm, g9_28 hm, g9_29 hm, g9_30 hm, g9_31 hm, g9_32 hm, g9_33 hm, g9_34 hm, g9_35 hm, g9_36 hm, g9_37 hm, g9_38 hm, g9_39 hm, ro9 hm, c_isPlayer hm, c_in, ite_bI, hx, hy, and_self, q2]
      · have hlt : S 12 4 < 12 := by omega
        have q2 : ¬ nI (S 12 4) = nI 12 := by rw [nI_inj (by omega) (by decide)]; exact hf
        have ev : ∀ i, i < S 12 4 → va_up (va_up (S 10) (2 * S 12 4) p) (2 * S 12 4 + 1) t (2 * i) = S 10 (2 * i) ∧ va_up (va_up (S 10) (2 * S 12 4) p) (2 * S 12 4 + 1) t (2 * i + 1) = S 10 (2 * i + 1) := fun i hi => ⟨by rw [va_up_ne _ _ (by omega), va_up_ne _ _ (by omega)], by rw [va_up_ne _ _ (by omega), va_up_ne _ _ (by omega)]⟩
        have ev0 : va_up (va_up (S 10) (2 * S 12 4) p) (2 * S 12 4 + 1) t (2 * S 12 4) = p := by rw [va_up_ne _ _ (by omega), va_up_self]
        refine op_mk (r := .int (nI (S 12 4 + 1))) (S' := va_up (va_up S 10 (va_up (va_up (S 10) (2 * S 12 4) p) (2 * S 12 4 + 1) t)) 12 (va_up (S 12) 4 (S 12 4 + 1))) ⟨hH, hT, hG, hIm, ⟨?_, fun i hi => ?_⟩, hB, hX⟩ (fun h o hr => ?_) (fun h hr => ?_)
        · show S 12 4 + 1 ≤ 12; omega
        · show va_up (va_up (S 10) (2 * S 12 4) p) (2 * S 12 4 + 1) t (2 * i) < S 12 1 ∧ va_up (va_up (S 10) (2 * S 12 4) p) (2 * S 12 4 + 1) t (2 * i + 1) ≤ 999
          have hi' : i < S 12 4 + 1 := hi
          by_cases e : i = S 12 4
          · subst e; rw [ev0, va_up_self]; exact ⟨hp, ht⟩
          · rw [(ev i (by omega)).1, (ev i (by omega)).2]; exact e2 i (by omega)
        · obtain ⟨h0, h1, -, ⟨hH1, -⟩, -, -, -, ⟨hE1, ⟨f1, b1, c1⟩, ⟨f2, b2, c2⟩⟩, hBk, -⟩ := id hr
          have h1' : (hup (hup (hup h 33 (iA 12 (upd f1 (S 12 4) (nI p)))) 34 (iA 12 (upd f2 (S 12 4) (nI t)))) 32 (oEn 33 34 (nI (S 12 4 + 1)))).2.2 1 = some (oCz 2 4 17 32 35 38 39 o (101 - o)) := by rw [hup_ne (by decide), hup_ne (by decide), hup_ne (by decide)]; exact h1
          refine ⟨_, ?_, RepCo.rc hn hr (h' := hup (hup (hup h 33 (iA 12 (upd f1 (S 12 4) (nI p)))) 34 (iA 12 (upd f2 (S 12 4) (nI t)))) 32 (oEn 33 34 (nI (S 12 4 + 1)))) (fun x hx => by rw [hup_ne (by omega), hup_ne (by omega), hup_ne (by omega)]) (fun k q1 q2 q3 => by rw [va_up_ne _ _ q3, va_up_ne _ _ q1]) (fun i q1 q2 => by show va_up (S 12) 4 _ i = _; rw [va_up_ne _ _ q1]) ⟨hup_get, ⟨_, (hup_ne (by decide)).trans ((hup_ne (by decide)).trans hup_get), fun i hi => ?_⟩, ⟨_, (hup_ne (by decide)).trans hup_get, fun i hi => ?_⟩⟩ (hBk.fr (fun x _ _ => by rw [hup_ne (by omega), hup_ne (by omega), hup_ne (by omega)])), fun a ha => by rw [hup_ne (by omega), hup_ne (by omega), hup_ne (by omega)], rfl, rfl⟩
          · show Run M_X8_enter 0 [.ref 1, .int (nI p), .int (nI t)] [] h = _
            simp only [r_X8_enter_0, r_X8_enter_1, r_X8_enter_4, r_X8_enter_5, r_X8_enter_8, r_X8_enter_11, r_X8_enter_13, r_X8_enter_14, r_X8_enter_15, r_X8_enter_16, r_X8_enter_19, r_X8_enter_22, r_X8_enter_25, r_X8_enter_27, r_X8_enter_28, r_X8_enter_29, r_X8_enter_32, r_X8_enter_33, r_X8_enter_34, r_X8_enter_37, r_X8_enter_40, r_X8_enter_41, r_X8_enter_44, r_X8_enter_47, r_X8_enter_50, r_X8_enter_52, ↓reduceIte, Option.isSome_some, Option.getD_some, rL_v, rL_n, cH_s, List.cons_append, List.nil_append, cat_i, cat_r, cat_n, ofN, g8_0 h1, g8_1 h1, g8_2 h1, g8_3 h1, g8_4 h1, g8_5 h1, g8_6 h1, g8_7 h1, g8_8 h1, ro8 h1, ro4 hH1, ro3 hE1, c_hasPlayer hH1, c_within, ite_bI, hx, hy, and_self, c_eput hE1 b1 b2 hlt, ne10, g8_0 h1', g8_1 h1', g8_2 h1', g8_3 h1', g8_4 h1', g8_5 h1', g8_6 h1', g8_7 h1', g8_8 h1', ro8 h1', rou3, gu3_0, pu3_0, gu3_1, pu3_1, gu3_2, pu3_2]
          · show upd f1 (S 12 4) (nI p) i = nI (va_up (va_up (S 10) (2 * S 12 4) p) (2 * S 12 4 + 1) t (2 * i))
            have hi' : i < S 12 4 + 1 := hi
            by_cases e : i = S 12 4
            · subst e; rw [ev0]; simp [upd]
            · rw [(ev i (by omega)).1]; simp only [upd]; rw [if_neg e]; exact c1 i (by omega)
          · show upd f2 (S 12 4) (nI t) i = nI (va_up (va_up (S 10) (2 * S 12 4) p) (2 * S 12 4 + 1) t (2 * i + 1))
            have hi' : i < S 12 4 + 1 := hi
            by_cases e : i = S 12 4
            · subst e; rw [va_up_self]; simp [upd]
            · rw [(ev i (by omega)).2]; simp only [upd]; rw [if_neg e]; exact c2 i (by omega)
        · obtain ⟨⟨a, b, c, d, e, f, g, i1, i2, i3, i4, hm⟩, hA, -⟩ := id hr
          have t9 := hA 109 _ rfl
          have r1 := hr.arr (k := 10) (f := va_up (va_up (S 10) (2 * S 12 4) p) (2 * S 12 4 + 1) t) (by decide) rfl
          have r2 := r1.obj (f := va_up (S 12) 4 (S 12 4 + 1)) (at' := a) (pl := b) (tk := c) (vl := d) (fg := e) (fl := f) (sp := g) (spl := i1) (stl := i2) (sg := i3) (co := i4)
          have hm' : (hup h 109 (iA 24 (fun i => nI (va_up (va_up (S 10) (2 * S 12 4) p) (2 * S 12 4 + 1) t i)))).2.2 88 = some (oMo (nI (S 12 0)) (nI (S 12 1)) (nI (S 12 2)) (nI (S 12 3)) a b c d e f (fI (S 12 6)) g i1 i2 i3 i4 (nI (S 12 4)) (nI (S 12 5))) := (hup_ne (by decide)).trans hm
          refine ⟨_, ?_, r2, fun a ha => by rw [hup_ne (by omega), hup_ne (by simp only [adr]; omega)], rfl, rfl⟩
          show Run M_X9_enter 0 [.ref 88, .int (nI p), .int (nI t)] [] h = _
          simp only [r_X9_enter_0, r_X9_enter_1, r_X9_enter_2, r_X9_enter_5, r_X9_enter_8, r_X9_enter_10, r_X9_enter_11, r_X9_enter_12, r_X9_enter_13, r_X9_enter_16, r_X9_enter_19, r_X9_enter_22, r_X9_enter_24, r_X9_enter_25, r_X9_enter_26, r_X9_enter_29, r_X9_enter_31, r_X9_enter_34, r_X9_enter_36, r_X9_enter_37, r_X9_enter_38, r_X9_enter_41, r_X9_enter_42, r_X9_enter_43, r_X9_enter_46, r_X9_enter_47, r_X9_enter_48, r_X9_enter_49, r_X9_enter_50, r_X9_enter_53, r_X9_enter_54, r_X9_enter_55, r_X9_enter_58, r_X9_enter_59, r_X9_enter_60, r_X9_enter_61, r_X9_enter_62, r_X9_enter_63, r_X9_enter_64, r_X9_enter_65, r_X9_enter_68, r_X9_enter_69, r_X9_enter_70, r_X9_enter_73, r_X9_enter_74, r_X9_enter_77, ↓reduceIte, Option.isSome_some, Option.getD_some, rL_v, rL_n, cH_s, List.cons_append, List.nil_append, cat_i, cat_r, cat_n, ofN, g9_0 hm, g9_1 hm, g9_2 hm, g9_3 hm, g9_4 hm, g9_5 hm, g9_6 hm, g9_7 hm, g9_8 hm, g9_9 hm, g9_10 hm, g9_11 hm, g9_12 hm, g9_13 hm, g9_14 hm, g9_15 hm, g9_16 hm, g9_17 hm, g9_18 hm, g9_19 hm, g9_20 hm, g9_21 hm, g9_22 hm, g9_23 hm, g9_24 hm, g9_25 hm, g9_26 hm, g9_27 hm, g9_28 hm, g9_29 hm, g9_30 hm, g9_31 hm, g9_32 hm, g9_33 hm, g9_34 hm, g9_35 hm, g9_36 hm, g9_37 hm, g9_38 hm, g9_39 hm, ro9 hm, c_isPlayer hm, c_in, ite_bI, hx, hy, and_self, q2, nI_m, nI_add, pI_nI t9 (by decide) (by decide) (show 2 * S 12 4 < 24 by omega), upd_nI, gF_h (show 88 ≠ 109 by decide), pI_u (show 24 < 2147483648 by decide) (show 109 ≠ 0 by decide) (show 2 * S 12 4 + 1 < 24 by omega), p9_36 hm', gu9_36]
          rfl
    · refine OpV.read (r := .int (-1000000002)) hI (fun h hr => ?_) (fun h hr => ?_)
      · obtain ⟨o, h0, h1, -, ⟨hH1, -⟩, -⟩ := hr
        show Run M_X8_enter 0 [.ref 1, .int (nI p), .int y] [] h = _
        simp only [r_X8_enter_0, r_X8_enter_1, r_X8_enter_4, r_X8_enter_5, r_X8_enter_8, r_X8_enter_11, r_X8_enter_13, r_X8_enter_14, r_X8_enter_15, r_X8_enter_16, r_X8_enter_19, r_X8_enter_22, r_X8_enter_25, r_X8_enter_27, r_X8_enter_28, r_X8_enter_29, r_X8_enter_32, r_X8_enter_33, r_X8_enter_34, r_X8_enter_37, r_X8_enter_40, r_X8_enter_41, r_X8_enter_44, r_X8_enter_47, r_X8_enter_50, r_X8_enter_52, ↓reduceIte, Option.isSome_some, Option.getD_some, rL_v, rL_n, cH_s, List.cons_append, List.nil_append, cat_i, cat_r, cat_n, ofN, g8_0 h1, g8_1 h1, g8_2 h1, g8_3 h1, g8_4 h1, g8_5 h1, g8_6 h1, g8_7 h1, g8_8 h1, ro8 h1, ro4 hH1, c_hasPlayer hH1, c_within, ite_bI, hx, hy, and_self]
      · obtain ⟨⟨_, _, _, _, _, _, _, _, _, _, _, hm⟩, hA, -⟩ := hr
        show Run M_X9_enter 0 [.ref 88, .int (nI p), .int y] [] h = _
        simp only [r_X9_enter_0, r_X9_enter_1, r_X9_enter_2, r_X9_enter_5, r_X9_enter_8, r_X9_enter_10, r_X9_enter_11, r_X9_enter_12, r_X9_enter_13, r_X9_enter_16, r_X9_enter_19, r_X9_enter_22, r_X9_enter_24, r_X9_enter_25, r_X9_enter_26, r_X9_enter_29, r_X9_enter_31, r_X9_enter_34, r_X9_enter_36, r_X9_enter_37, r_X9_enter_38, r_X9_enter_41, r_X9_enter_42, r_X9_enter_43, r_X9_enter_46, r_X9_enter_47, r_X9_enter_48, r_X9_enter_49, r_X9_enter_50, r_X9_enter_53, r_X9_enter_54, r_X9_enter_55, r_X9_enter_58, r_X9_enter_59, r_X9_enter_60, r_X9_enter_61, r_X9_enter_62, r_X9_enter_63, r_X9_enter_64, r_X9_enter_65, r_X9_enter_68, r_X9_enter_69, r_X9_enter_70, r_X9_enter_73, r_X9_enter_74, r_X9_enter_77, ↓reduceIte, Option.isSome_some, Option.getD_some, rL_v, rL_n, cH_s, List.cons_append, List.nil_append, cat_i, cat_r, cat_n, ofN, g9_0 hm, g9_1 hm, g9_2 hm, g9_3 hm, g9_4 hm, g9_5 hm, g9_6 hm, g9_7 hm, g9_8 hm, g9_9 hm, g9_10 hm, g9_11 hm, g9_12 hm, g9_13 hm, g9_14 hm, g9_15 hm, g9_16 hm, g9_17 hm, g9_18 hm, g9_19 hm, g9_20 hm, g9_21 hm, g9_22 hm, g9_23 hm, g9_24 hm, g9_25 hm, g9_26 hm, g9_27 hm, g9_28 hm, g9_29 hm, g9_30 hm, g9_31 hm, g9_32 hm, g9_33 hm, g9_34 hm, g9_35 hm, g9_36 hm, g9_37 hm, g9_38 hm, g9_39 hm, ro9 hm, c_isPlayer hm, c_in, ite_bI, hx, hy, and_self]
  · refine OpV.read (r := .int (-1000000001)) hI (fun h hr => ?_) (fun h hr => ?_)
    · obtain ⟨o, h0, h1, -, ⟨hH1, -⟩, -⟩ := hr
      show Run M_X8_enter 0 [.ref 1, .int x, .int y] [] h = _
      simp only [r_X8_enter_0, r_X8_enter_1, r_X8_enter_4, r_X8_enter_5, r_X8_enter_8, r_X8_enter_11, r_X8_enter_13, r_X8_enter_14, r_X8_enter_15, r_X8_enter_16, r_X8_enter_19, r_X8_enter_22, r_X8_enter_25, r_X8_enter_27, r_X8_enter_28, r_X8_enter_29, r_X8_enter_32, r_X8_enter_33, r_X8_enter_34, r_X8_enter_37, r_X8_enter_40, r_X8_enter_41, r_X8_enter_44, r_X8_enter_47, r_X8_enter_50, r_X8_enter_52, ↓reduceIte, Option.isSome_some, Option.getD_some, rL_v, rL_n, cH_s, List.cons_append, List.nil_append, cat_i, cat_r, cat_n, ofN, g8_0 h1, g8_1 h1, g8_2 h1, g8_3 h1, g8_4 h1, g8_5 h1, g8_6 h1, g8_7 h1, g8_8 h1, ro8 h1, ro4 hH1, c_hasPlayer hH1, ite_bI, hx]
    · obtain ⟨⟨_, _, _, _, _, _, _, _, _, _, _, hm⟩, hA, -⟩ := hr
      show Run M_X9_enter 0 [.ref 88, .int x, .int y] [] h = _
      simp only [r_X9_enter_0, r_X9_enter_1, r_X9_enter_2, r_X9_enter_5, r_X9_enter_8, r_X9_enter_10, r_X9_enter_11, r_X9_enter_12, r_X9_enter_13, r_X9_enter_16, r_X9_enter_19, r_X9_enter_22, r_X9_enter_24, r_X9_enter_25, r_X9_enter_26, r_X9_enter_29, r_X9_enter_31, r_X9_enter_34, r_X9_enter_36, r_X9_enter_37, r_X9_enter_38, r_X9_enter_41, r_X9_enter_42, r_X9_enter_43, r_X9_enter_46, r_X9_enter_47, r_X9_enter_48, r_X9_enter_49, r_X9_enter_50, r_X9_enter_53, r_X9_enter_54, r_X9_enter_55, r_X9_enter_58, r_X9_enter_59, r_X9_enter_60, r_X9_enter_61, r_X9_enter_62, r_X9_enter_63, r_X9_enter_64, r_X9_enter_65, r_X9_enter_68, r_X9_enter_69, r_X9_enter_70, r_X9_enter_73, r_X9_enter_74, r_X9_enter_77, ↓reduceIte, Option.isSome_some, Option.getD_some, rL_v, rL_n, cH_s, List.cons_append, List.nil_append, cat_i, cat_r, cat_n, ofN, g9_0 hm, g9_1 hm, g9_2 hm, g9_3 hm, g9_4 hm, g9_5 hm, g9_6 hm, g9_7 hm, g9_8 hm, g9_9 hm, g9_10 hm, g9_11 hm, g9_12 hm, g9_13 hm, g9_14 hm, g9_15 hm, g9_16 hm, g9_17 hm, g9_18 hm, g9_19 hm, g9_20 hm, g9_21 hm, g9_22 hm, g9_23 hm, g9_24 hm, g9_25 hm, g9_26 hm, g9_27 hm, g9_28 hm, g9_29 hm, g9_30 hm, g9_31 hm, g9_32 hm, g9_33 hm, g9_34 hm, g9_35 hm, g9_36 hm, g9_37 hm, g9_38 hm, g9_39 hm, ro9 hm, c_isPlayer hm, ite_bI, hx]
theorem op_write {S : SS} (hI : Inv S) (x y : Int32) : OpV M_X8_write M_X9_write [.int x, .int y] S := by
  obtain ⟨hH, hT, hG, hIm, hEn, ⟨e1, e2⟩, hX⟩ := id hI
  have hn := hH.1
  by_cases hx : nI 0 ≤ x ∧ x ≤ nI (S 12 0) - nI 1
  · obtain ⟨p, hp, rfl⟩ := rngP (by omega) hx
    by_cases hy : nI 0 ≤ y ∧ y ≤ nI 60
    · obtain ⟨t, ht, rfl⟩ := rng (by decide) hy
      by_cases hf : S 12 5 = 20
      · have q1 : ¬ nI (S 12 5) < nI 20 := by rw [hf]; decide
        have q2 : nI (S 12 5) = nI 20 := by rw [hf]
        refine OpV.read (r := .int (-1000000004)) hI (fun h hr => ?_) (fun h hr => ?_)
        · obtain ⟨o, h0, h1, -, ⟨hH1, -⟩, -, -, -, -, ⟨hE1, -⟩, -⟩ := hr
          show Run M_X8_write 0 [.ref 1, .int (nI p), .int (nI t)] [] h = _
          simp only [r_X8_write_0, r_X8_write_1, r_X8_write_4, r_X8_write_5, r_X8_write_8, r_X8_write_11, r_X8_write_13, r_X8_write_14, r_X8_write_15, r_X8_write_16, r_X8_write_18, r_X8_write_21, r_X8_write_24, r_X8_write_26, r_X8_write_27, r_X8_write_28, r_X8_write_31, r_X8_write_32, r_X8_write_33, r_X8_write_36, r_X8_write_39, r_X8_write_40, r_X8_write_43, r_X8_write_46, r_X8_write_49, r_X8_write_51, ↓reduceIte, Option.isSome_some, Option.getD_some, rL_v, rL_n, cH_s, List.cons_append, List.nil_append, cat_i, cat_r, cat_n, ofN, g8_0 h1, g8_1 h1, g8_2 h1, g8_3 h1, g8_4 h1, g8_5 h1, g8_6 h1, g8_7 h1, g8_8 h1, ro8 h1, ro4 hH1, ro1 hE1, c_hasPart hH1, c_within, ite_bI, hx, hy, and_self, c_bputN hE1 q1]
        · obtain ⟨⟨_, _, _, _, _, _, _, _, _, _, _, hm⟩, hA, -⟩ := hr
          show Run M_X9_write 0 [.ref 88, .int (nI p), .int (nI t)] [] h = _
          simp only [r_X9_write_0, r_X9_write_1, r_X9_write_2, r_X9_write_5, r_X9_write_8, r_X9_write_10, r_X9_write_11, r_X9_write_12, r_X9_write_13, r_X9_write_15, r_X9_write_18, r_X9_write_21, r_X9_write_23, r_X9_write_24, r_X9_write_25, r_X9_write_28, r_X9_write_30, r_X9_write_33, r_X9_write_35, r_X9_write_36, r_X9_write_37, r_X9_write_40, r_X9_write_41, r_X9_write_42, r_X9_write_45, r_X9_write_46, r_X9_write_47, r_X9_write_48, r_X9_write_49, r_X9_write_52, r_X9_write_53, r_X9_write_54, r_X9_write_57, r_X9_write_58, r_X9_write_59, r_X9_write_60, r_X9_write_61, r_X9_write_62, r_X9_write_63, r_X9_write_64, r_X9_write_67, r_X9_write_68, r_X9_write_69, r_X9_write_72, r_X9_write_73, r_X9_write_76, ↓reduceIte, Option.isSome_some, Option.getD_some, rL_v, rL_n, cH_s, List.cons_append, List.nil_append, cat_i, cat_r, cat_n, ofN, g9_0 hm, g9_1 hm, g9_2 hm, g9_3 hm, g9_4 hm, g9_5 hm, g9_6 hm, g9_7 hm, g9_8 hm, g9_9 hm, g9_10 hm, g9_11 hm, g9_12 hm, g9_13 hm, g9_14 hm, g9_15 hm, g9_16 hm, g9_17 hm, g9_18 hm, g9_19 hm, g9_20 hm, g9_21 hm, g9_22 hm, g9_23 hm, g9_24 hm, g9_25 hm, g9_26 hm, g9_27 hm, g9_28 hm, g9_29 hm, g9_30 hm, g9_31 hm, g9_32 hm, g9_33 hm, g9_34 hm, g9_35 hm, g9_36 hm, g9_37 hm, g9_38 hm, g9_39 hm, ro9 hm, c_isPart hm, c_in, ite_bI, hx, hy, and_self, q2]
      · have hlt : S 12 5 < 20 := by omega
        have q2 : ¬ nI (S 12 5) = nI 20 := by rw [nI_inj (by omega) (by decide)]; exact hf
        have ev : ∀ i, i < S 12 5 → va_up (va_up (S 11) (2 * S 12 5) p) (2 * S 12 5 + 1) t (2 * i) = S 11 (2 * i) ∧ va_up (va_up (S 11) (2 * S 12 5) p) (2 * S 12 5 + 1) t (2 * i + 1) = S 11 (2 * i + 1) := fun i hi => ⟨by rw [va_up_ne _ _ (by omega), va_up_ne _ _ (by omega)], by rw [va_up_ne _ _ (by omega), va_up_ne _ _ (by omega)]⟩
        have ev0 : va_up (va_up (S 11) (2 * S 12 5) p) (2 * S 12 5 + 1) t (2 * S 12 5) = p := by rw [va_up_ne _ _ (by omega), va_up_self]
        refine op_mk (r := .int (nI (S 12 5 + 1))) (S' := va_up (va_up S 11 (va_up (va_up (S 11) (2 * S 12 5) p) (2 * S 12 5 + 1) t)) 12 (va_up (S 12) 5 (S 12 5 + 1))) ⟨hH, hT, hG, hIm, hEn, ⟨?_, fun i hi => ?_⟩, hX⟩ (fun h o hr => ?_) (fun h hr => ?_)
        · show S 12 5 + 1 ≤ 20; omega
        · show va_up (va_up (S 11) (2 * S 12 5) p) (2 * S 12 5 + 1) t (2 * i) < S 12 0 ∧ va_up (va_up (S 11) (2 * S 12 5) p) (2 * S 12 5 + 1) t (2 * i + 1) ≤ 60
          have hi' : i < S 12 5 + 1 := hi
          by_cases e : i = S 12 5
          · subst e; rw [ev0, va_up_self]; exact ⟨hp, ht⟩
          · rw [(ev i (by omega)).1, (ev i (by omega)).2]; exact e2 i (by omega)
        · obtain ⟨h0, h1, -, ⟨hH1, -⟩, -, -, -, hEn1, ⟨hE1, ⟨f1, b1, c1⟩, ⟨f2, b2, c2⟩⟩, -⟩ := id hr
          have h1' : (hup (hup (hup h 36 (iA 20 (upd f1 (S 12 5) (nI p)))) 37 (iA 20 (upd f2 (S 12 5) (nI t)))) 35 (oBk 36 37 (nI (S 12 5 + 1)))).2.2 1 = some (oCz 2 4 17 32 35 38 39 o (101 - o)) := by rw [hup_ne (by decide), hup_ne (by decide), hup_ne (by decide)]; exact h1
          refine ⟨_, ?_, RepCo.rc hn hr (h' := hup (hup (hup h 36 (iA 20 (upd f1 (S 12 5) (nI p)))) 37 (iA 20 (upd f2 (S 12 5) (nI t)))) 35 (oBk 36 37 (nI (S 12 5 + 1)))) (fun x hx => by rw [hup_ne (by omega), hup_ne (by omega), hup_ne (by omega)]) (fun k q1 q2 q3 => by rw [va_up_ne _ _ q3, va_up_ne _ _ q2]) (fun i q1 q2 => by show va_up (S 12) 5 _ i = _; rw [va_up_ne _ _ q2]) (hEn1.fr (fun x _ _ => by rw [hup_ne (by omega), hup_ne (by omega), hup_ne (by omega)])) ⟨hup_get, ⟨_, (hup_ne (by decide)).trans ((hup_ne (by decide)).trans hup_get), fun i hi => ?_⟩, ⟨_, (hup_ne (by decide)).trans hup_get, fun i hi => ?_⟩⟩, fun a ha => by rw [hup_ne (by omega), hup_ne (by omega), hup_ne (by omega)], rfl, rfl⟩
          · show Run M_X8_write 0 [.ref 1, .int (nI p), .int (nI t)] [] h = _
            simp only [r_X8_write_0, r_X8_write_1, r_X8_write_4, r_X8_write_5, r_X8_write_8, r_X8_write_11, r_X8_write_13, r_X8_write_14, r_X8_write_15, r_X8_write_16, r_X8_write_18, r_X8_write_21, r_X8_write_24, r_X8_write_26, r_X8_write_27, r_X8_write_28, r_X8_write_31, r_X8_write_32, r_X8_write_33, r_X8_write_36, r_X8_write_39, r_X8_write_40, r_X8_write_43, r_X8_write_46, r_X8_write_49, r_X8_write_51, ↓reduceIte, Option.isSome_some, Option.getD_some, rL_v, rL_n, cH_s, List.cons_append, List.nil_append, cat_i, cat_r, cat_n, ofN, g8_0 h1, g8_1 h1, g8_2 h1, g8_3 h1, g8_4 h1, g8_5 h1, g8_6 h1, g8_7 h1, g8_8 h1, ro8 h1, ro4 hH1, ro1 hE1, c_hasPart hH1, c_within, ite_bI, hx, hy, and_self, c_bput hE1 b1 b2 hlt, ne10, g8_0 h1', g8_1 h1', g8_2 h1', g8_3 h1', g8_4 h1', g8_5 h1', g8_6 h1', g8_7 h1', g8_8 h1', ro8 h1', rou1, gu1_0, pu1_0, gu1_1, pu1_1, gu1_2, pu1_2]
          · show upd f1 (S 12 5) (nI p) i = nI (va_up (va_up (S 11) (2 * S 12 5) p) (2 * S 12 5 + 1) t (2 * i))
            have hi' : i < S 12 5 + 1 := hi
            by_cases e : i = S 12 5
            · subst e; rw [ev0]; simp [upd]
            · rw [(ev i (by omega)).1]; simp only [upd]; rw [if_neg e]; exact c1 i (by omega)
          · show upd f2 (S 12 5) (nI t) i = nI (va_up (va_up (S 11) (2 * S 12 5) p) (2 * S 12 5 + 1) t (2 * i + 1))
            have hi' : i < S 12 5 + 1 := hi
            by_cases e : i = S 12 5
            · subst e; rw [va_up_self]; simp [upd]
            · rw [(ev i (by omega)).2]; simp only [upd]; rw [if_neg e]; exact c2 i (by omega)
        · obtain ⟨⟨a, b, c, d, e, f, g, i1, i2, i3, i4, hm⟩, hA, -⟩ := id hr
          have t9 := hA 110 _ rfl
          have r1 := hr.arr (k := 11) (f := va_up (va_up (S 11) (2 * S 12 5) p) (2 * S 12 5 + 1) t) (by decide) rfl
          have r2 := r1.obj (f := va_up (S 12) 5 (S 12 5 + 1)) (at' := a) (pl := b) (tk := c) (vl := d) (fg := e) (fl := f) (sp := g) (spl := i1) (stl := i2) (sg := i3) (co := i4)
          have hm' : (hup h 110 (iA 40 (fun i => nI (va_up (va_up (S 11) (2 * S 12 5) p) (2 * S 12 5 + 1) t i)))).2.2 88 = some (oMo (nI (S 12 0)) (nI (S 12 1)) (nI (S 12 2)) (nI (S 12 3)) a b c d e f (fI (S 12 6)) g i1 i2 i3 i4 (nI (S 12 4)) (nI (S 12 5))) := (hup_ne (by decide)).trans hm
          refine ⟨_, ?_, r2, fun a ha => by rw [hup_ne (by omega), hup_ne (by simp only [adr]; omega)], rfl, rfl⟩
          show Run M_X9_write 0 [.ref 88, .int (nI p), .int (nI t)] [] h = _
          simp only [r_X9_write_0, r_X9_write_1, r_X9_write_2, r_X9_write_5, r_X9_write_8, r_X9_write_10, r_X9_write_11, r_X9_write_12, r_X9_write_13, r_X9_write_15, r_X9_write_18, r_X9_write_21, r_X9_write_23, r_X9_write_24, r_X9_write_25, r_X9_write_28, r_X9_write_30, r_X9_write_33, r_X9_write_35, r_X9_write_36, r_X9_write_37, r_X9_write_40, r_X9_write_41, r_X9_write_42, r_X9_write_45, r_X9_write_46, r_X9_write_47, r_X9_write_48, r_X9_write_49, r_X9_write_52, r_X9_write_53, r_X9_write_54, r_X9_write_57, r_X9_write_58, r_X9_write_59, r_X9_write_60, r_X9_write_61, r_X9_write_62, r_X9_write_63, r_X9_write_64, r_X9_write_67, r_X9_write_68, r_X9_write_69, r_X9_write_72, r_X9_write_73, r_X9_write_76, ↓reduceIte, Option.isSome_some, Option.getD_some, rL_v, rL_n, cH_s, List.cons_append, List.nil_append, cat_i, cat_r, cat_n, ofN, g9_0 hm, g9_1 hm, g9_2 hm, g9_3 hm, g9_4 hm, g9_5 hm, g9_6 hm, g9_7 hm, g9_8 hm, g9_9 hm, g9_10 hm, g9_11 hm, g9_12 hm, g9_13 hm, g9_14 hm, g9_15 hm, g9_16 hm, g9_17 hm, g9_18 hm, g9_19 hm, g9_20 hm, g9_21 hm, g9_22 hm, g9_23 hm, g9_24 hm, g9_25 hm, g9_26 hm, g9_27 hm, g9_28 hm, g9_29 hm, g9_30 hm, g9_31 hm, g9_32 hm, g9_33 hm, g9_34 hm, g9_35 hm, g9_36 hm, g9_37 hm, g9_38 hm, g9_39 hm, ro9 hm, c_isPart hm, c_in, ite_bI, hx, hy, and_self, q2, nI_m, nI_add, pI_nI t9 (by decide) (by decide) (show 2 * S 12 5 < 40 by omega), upd_nI, gF_h (show 88 ≠ 110 by decide), pI_u (show 40 < 2147483648 by decide) (show 110 ≠ 0 by decide) (show 2 * S 12 5 + 1 < 40 by omega), p9_38 hm', gu9_38]
          rfl
    · refine OpV.read (r := .int (-1000000002)) hI (fun h hr => ?_) (fun h hr => ?_)
      · obtain ⟨o, h0, h1, -, ⟨hH1, -⟩, -⟩ := hr
        show Run M_X8_write 0 [.ref 1, .int (nI p), .int y] [] h = _
        simp only [r_X8_write_0, r_X8_write_1, r_X8_write_4, r_X8_write_5, r_X8_write_8, r_X8_write_11, r_X8_write_13, r_X8_write_14, r_X8_write_15, r_X8_write_16, r_X8_write_18, r_X8_write_21, r_X8_write_24, r_X8_write_26, r_X8_write_27, r_X8_write_28, r_X8_write_31, r_X8_write_32, r_X8_write_33, r_X8_write_36, r_X8_write_39, r_X8_write_40, r_X8_write_43, r_X8_write_46, r_X8_write_49, r_X8_write_51, ↓reduceIte, Option.isSome_some, Option.getD_some, rL_v, rL_n, cH_s, List.cons_append, List.nil_append, cat_i, cat_r, cat_n, ofN, g8_0 h1, g8_1 h1, g8_2 h1, g8_3 h1, g8_4 h1, g8_5 h1, g8_6 h1, g8_7 h1, g8_8 h1, ro8 h1, ro4 hH1, c_hasPart hH1, c_within, ite_bI, hx, hy, and_self]
      · obtain ⟨⟨_, _, _, _, _, _, _, _, _, _, _, hm⟩, hA, -⟩ := hr
        show Run M_X9_write 0 [.ref 88, .int (nI p), .int y] [] h = _
        simp only [r_X9_write_0, r_X9_write_1, r_X9_write_2, r_X9_write_5, r_X9_write_8, r_X9_write_10, r_X9_write_11, r_X9_write_12, r_X9_write_13, r_X9_write_15, r_X9_write_18, r_X9_write_21, r_X9_write_23, r_X9_write_24, r_X9_write_25, r_X9_write_28, r_X9_write_30, r_X9_write_33, r_X9_write_35, r_X9_write_36, r_X9_write_37, r_X9_write_40, r_X9_write_41, r_X9_write_42, r_X9_write_45, r_X9_write_46, r_X9_write_47, r_X9_write_48, r_X9_write_49, r_X9_write_52, r_X9_write_53, r_X9_write_54, r_X9_write_57, r_X9_write_58, r_X9_write_59, r_X9_write_60, r_X9_write_61, r_X9_write_62, r_X9_write_63, r_X9_write_64, r_X9_write_67, r_X9_write_68, r_X9_write_69, r_X9_write_72, r_X9_write_73, r_X9_write_76, ↓reduceIte, Option.isSome_some, Option.getD_some, rL_v, rL_n, cH_s, List.cons_append, List.nil_append, cat_i, cat_r, cat_n, ofN, g9_0 hm, g9_1 hm, g9_2 hm, g9_3 hm, g9_4 hm, g9_5 hm, g9_6 hm, g9_7 hm, g9_8 hm, g9_9 hm, g9_10 hm, g9_11 hm, g9_12 hm, g9_13 hm, g9_14 hm, g9_15 hm, g9_16 hm, g9_17 hm, g9_18 hm, g9_19 hm, g9_20 hm, g9_21 hm, g9_22 hm, g9_23 hm, g9_24 hm, g9_25 hm, g9_26 hm, g9_27 hm, g9_28 hm, g9_29 hm, g9_30 hm, g9_31 hm, g9_32 hm, g9_33 hm, g9_34 hm, g9_35 hm, g9_36 hm, g9_37 hm, g9_38 hm, g9_39 hm, ro9 hm, c_isPart hm, c_in, ite_bI, hx, hy, and_self]
  · refine OpV.read (r := .int (-1000000001)) hI (fun h hr => ?_) (fun h hr => ?_)
    · obtain ⟨o, h0, h1, -, ⟨hH1, -⟩, -⟩ := hr
      show Run M_X8_write 0 [.ref 1, .int x, .int y] [] h = _
      simp only [r_X8_write_0, r_X8_write_1, r_X8_write_4, r_X8_write_5, r_X8_write_8, r_X8_write_11, r_X8_write_13, r_X8_write_14, r_X8_write_15, r_X8_write_16, r_X8_write_18, r_X8_write_21, r_X8_write_24, r_X8_write_26, r_X8_write_27, r_X8_write_28, r_X8_write_31, r_X8_write_32, r_X8_write_33, r_X8_write_36, r_X8_write_39, r_X8_write_40, r_X8_write_43, r_X8_write_46, r_X8_write_49, r_X8_write_51, ↓reduceIte, Option.isSome_some, Option.getD_some, rL_v, rL_n, cH_s, List.cons_append, List.nil_append, cat_i, cat_r, cat_n, ofN, g8_0 h1, g8_1 h1, g8_2 h1, g8_3 h1, g8_4 h1, g8_5 h1, g8_6 h1, g8_7 h1, g8_8 h1, ro8 h1, ro4 hH1, c_hasPart hH1, ite_bI, hx]
    · obtain ⟨⟨_, _, _, _, _, _, _, _, _, _, _, hm⟩, hA, -⟩ := hr
      show Run M_X9_write 0 [.ref 88, .int x, .int y] [] h = _
      simp only [r_X9_write_0, r_X9_write_1, r_X9_write_2, r_X9_write_5, r_X9_write_8, r_X9_write_10, r_X9_write_11, r_X9_write_12, r_X9_write_13, r_X9_write_15, r_X9_write_18, r_X9_write_21, r_X9_write_23, r_X9_write_24, r_X9_write_25, r_X9_write_28, r_X9_write_30, r_X9_write_33, r_X9_write_35, r_X9_write_36, r_X9_write_37, r_X9_write_40, r_X9_write_41, r_X9_write_42, r_X9_write_45, r_X9_write_46, r_X9_write_47, r_X9_write_48, r_X9_write_49, r_X9_write_52, r_X9_write_53, r_X9_write_54, r_X9_write_57, r_X9_write_58, r_X9_write_59, r_X9_write_60, r_X9_write_61, r_X9_write_62, r_X9_write_63, r_X9_write_64, r_X9_write_67, r_X9_write_68, r_X9_write_69, r_X9_write_72, r_X9_write_73, r_X9_write_76, ↓reduceIte, Option.isSome_some, Option.getD_some, rL_v, rL_n, cH_s, List.cons_append, List.nil_append, cat_i, cat_r, cat_n, ofN, g9_0 hm, g9_1 hm, g9_2 hm, g9_3 hm, g9_4 hm, g9_5 hm, g9_6 hm, g9_7 hm, g9_8 hm, g9_9 hm, g9_10 hm, g9_11 hm, g9_12 hm, g9_13 hm, g9_14 hm, g9_15 hm, g9_16 hm, g9_17 hm, g9_18 hm, g9_19 hm, g9_20 hm, g9_21 hm, g9_22 hm, g9_23 hm, g9_24 hm, g9_25 hm, g9_26 hm, g9_27 hm, g9_28 hm, g9_29 hm, g9_30 hm, g9_31 hm, g9_32 hm, g9_33 hm, g9_34 hm, g9_35 hm, g9_36 hm, g9_37 hm, g9_38 hm, g9_39 hm, ro9 hm, c_isPart hm, ite_bI, hx]
theorem op_tear {S : SS} (hI : Inv S) : OpV M_X8_tear M_X9_tear [] S := by
  obtain ⟨hH, hT, hG, hIm, hEn, hBk, hX⟩ := id hI
  have hn := hH.1
  refine op_mk (r := .int (nI (S 12 4 + S 12 5))) (S' := va_up S 12 (va_up (va_up (S 12) 4 0) 5 0)) ⟨hH, hT, hG, hIm, ⟨Nat.zero_le _, fun i hi => ?_⟩, ⟨Nat.zero_le _, fun i hi => ?_⟩, hX⟩ (fun h o hr => ?_) (fun h hr => ?_)
  · exact absurd hi (Nat.not_lt_zero i)
  · exact absurd hi (Nat.not_lt_zero i)
  · obtain ⟨h0, h1, -, -, -, -, -, ⟨hE1, ⟨f1, b1, -⟩, ⟨f2, b2, -⟩⟩, ⟨hB1, ⟨f3, b3, -⟩, ⟨f4, b4, -⟩⟩, -⟩ := id hr
    have h1' : (hup h 32 (oEn 33 34 (nI 0))).2.2 1 = some (oCz 2 4 17 32 35 38 39 o (101 - o)) := (hup_ne (by decide)).trans h1
    have hB1' : (hup h 32 (oEn 33 34 (nI 0))).2.2 35 = some (oBk 36 37 (nI (S 12 5))) := (hup_ne (by decide)).trans hB1
    refine ⟨_, ?_, RepCo.rc hn hr (h' := hup (hup h 32 (oEn 33 34 (nI 0))) 35 (oBk 36 37 (nI 0))) (fun x hx => by rw [hup_ne (by omega), hup_ne (by omega)]) (fun k q1 q2 q3 => by rw [va_up_ne _ _ q3]) (fun i q1 q2 => by show va_up (va_up (S 12) 4 0) 5 0 i = _; rw [va_up_ne _ _ q2, va_up_ne _ _ q1]) ⟨(hup_ne (by decide)).trans hup_get, ⟨f1, by rw [hup_ne (by decide), hup_ne (by decide)]; exact b1, fun i hi => absurd hi (Nat.not_lt_zero i)⟩, ⟨f2, by rw [hup_ne (by decide), hup_ne (by decide)]; exact b2, fun i hi => absurd hi (Nat.not_lt_zero i)⟩⟩ ⟨hup_get, ⟨f3, by rw [hup_ne (by decide), hup_ne (by decide)]; exact b3, fun i hi => absurd hi (Nat.not_lt_zero i)⟩, ⟨f4, by rw [hup_ne (by decide), hup_ne (by decide)]; exact b4, fun i hi => absurd hi (Nat.not_lt_zero i)⟩⟩, fun a ha => by rw [hup_ne (by omega), hup_ne (by omega)], rfl, rfl⟩
    show Run M_X8_tear 0 [.ref 1, .null] [] h = _
    simp only [r_X8_tear_0, r_X8_tear_1, r_X8_tear_4, r_X8_tear_7, r_X8_tear_8, r_X8_tear_11, r_X8_tear_14, r_X8_tear_15, r_X8_tear_16, r_X8_tear_17, r_X8_tear_20, r_X8_tear_21, r_X8_tear_24, r_X8_tear_25, r_X8_tear_28, r_X8_tear_29, r_X8_tear_32, r_X8_tear_33, ↓reduceIte, Option.isSome_some, Option.getD_some, rL_v, rL_n, cH_s, List.cons_append, List.nil_append, cat_i, cat_r, cat_n, ofN, g8_0 h1, g8_1 h1, g8_2 h1, g8_3 h1, g8_4 h1, g8_5 h1, g8_6 h1, g8_7 h1, g8_8 h1, ro8 h1, g3_0 hE1, p3_0 hE1, g3_1 hE1, p3_1 hE1, g3_2 hE1, p3_2 hE1, ro3 hE1, g1_0 hB1, g1_1 hB1, g1_2 hB1, ro1 hB1, nI_add, g8_0 h1', g8_1 h1', g8_2 h1', g8_3 h1', g8_4 h1', g8_5 h1', g8_6 h1', g8_7 h1', g8_8 h1', ro8 h1', g1_0 hB1', p1_0 hB1', g1_1 hB1', p1_1 hB1', g1_2 hB1', p1_2 hB1', ro1 hB1']
  · obtain ⟨⟨a, b, c, d, e, f, g, i1, i2, i3, i4, hm⟩, hA, -⟩ := id hr
    have r2 := hr.obj (f := va_up (va_up (S 12) 4 0) 5 0) (at' := a) (pl := b) (tk := c) (vl := d) (fg := e) (fl := f) (sp := g) (spl := i1) (stl := i2) (sg := i3) (co := i4)
    refine ⟨_, ?_, r2, fun a ha => hup_ne (by omega), rfl, rfl⟩
    show Run M_X9_tear 0 [.ref 88, .null] [] h = _
    simp only [r_X9_tear_0, r_X9_tear_1, r_X9_tear_4, r_X9_tear_5, r_X9_tear_8, r_X9_tear_9, r_X9_tear_10, r_X9_tear_11, r_X9_tear_12, r_X9_tear_15, r_X9_tear_16, r_X9_tear_17, r_X9_tear_20, r_X9_tear_21, ↓reduceIte, Option.isSome_some, Option.getD_some, rL_v, rL_n, cH_s, List.cons_append, List.nil_append, cat_i, cat_r, cat_n, ofN, g9_0 hm, g9_1 hm, g9_2 hm, g9_3 hm, g9_4 hm, g9_5 hm, g9_6 hm, g9_7 hm, g9_8 hm, g9_9 hm, g9_10 hm, g9_11 hm, g9_12 hm, g9_13 hm, g9_14 hm, g9_15 hm, g9_16 hm, g9_17 hm, g9_18 hm, g9_19 hm, g9_20 hm, g9_21 hm, g9_22 hm, g9_23 hm, g9_24 hm, g9_25 hm, g9_26 hm, g9_27 hm, g9_28 hm, g9_29 hm, g9_30 hm, g9_31 hm, g9_32 hm, g9_33 hm, g9_34 hm, g9_35 hm, g9_36 hm, g9_37 hm, g9_38 hm, g9_39 hm, ro9 hm, nI_add, p9_36 hm, pu9_38]
    rfl
