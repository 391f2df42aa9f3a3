/-! ===== by, mean, edge, go, lift, bestLift, saved ===== -/
theorem c_mAll {h : AH} {S : SS} (hS : HOk S) (hr : RepM h S) : Call M_X9_whole h [.ref 88, .int (nI 0), .int (nI (S 12 0))] = some (h, some (.long (lN (Ch S (S 12 0))))) := by
  have cw := c_whole hS hr (Nat.zero_le (S 12 0)) (Nat.le_refl _)
  rw [Nat.sub_zero, Wh_Ch] at cw
  exact cw
theorem c_cAll {h : AH} {S : SS} (hS : HOk S) (e : EoR h S) : Call M_X2_all h [.ref 4] = some (h, some (.long (lN (Ch S (S 12 0))))) := by
  have ca := c_all e
  rw [En_all hS] at ca
  exact ca
theorem op_by {S : SS} (hI : Inv S) (x y : Int32) : OpV M_X8_by M_X9_by [.int x, .int y] S := by
  have hS := hI.1
  by_cases hx : nI 0 ≤ x ∧ x ≤ nI 420
  · by_cases hy : nI 0 ≤ y ∧ y ≤ nI 1
    · obtain ⟨t, ht, rfl⟩ := rng (by decide) hx
      obtain ⟨q, hq, rfl⟩ := rng (by decide) hy
      have hy2 := low01 hq
      have p1 := Ch_pos hS (S 12 0) (Nat.le_refl _)
      have p2 := Ch_lt hS (p := S 12 0) (Nat.le_refl _)
      have p3 : En S t ≤ Ch S (S 12 0) := En_le hS ht
      refine ⟨.long (lN (low (En S t) (Ch S (S 12 0)) q)), S, hI, fun h ⟨o, hr⟩ => ⟨h, ?_, ⟨o, hr⟩, frC.rf⟩, fun h hr => ?_⟩
      · obtain ⟨h0, h1, -, -, -, hE, -⟩ := hr
        have hE1 := hE.1
        have ce := c_endedBy hE (show t < 2147483648 by omega)
        rw [Nat.min_eq_left ht] at ce
        show Run M_X8_by 0 [.ref 1, .int (nI t), .int (nI q)] [] h = _
        simp only [r_X8_by_0, r_X8_by_1, r_X8_by_4, r_X8_by_7, r_X8_by_8, r_X8_by_11, r_X8_by_14, r_X8_by_17, r_X8_by_18, r_X8_by_19, r_X8_by_22, r_X8_by_23, r_X8_by_26, r_X8_by_27, r_X8_by_30, r_X8_by_33, r_X8_by_34, r_X8_by_37, ↓reduceIte, Option.isSome_some, Option.getD_some, rL_v, rL_n, cH_s, List.cons_append, List.nil_append, cat_i, cat_r, cat_n, ofN, g8_0 h1, g8_1 h1, g8_2 h1, g8_3 h1, g8_4 h1, g8_5 h1, g8_6 h1, g8_7 h1, g8_8 h1, ro8 h1, ro2 hE1, c_isTenth, c_isSide, ite_bI, hx, and_self, hy2, ce, c_cAll hS hE, c_inLowest (h := h) (a := En S t) (b := Ch S (S 12 0)) (show _ < _ by omega) (by omega) (by omega) (show q < 2 by omega)]
      · obtain ⟨h', cf, hw, hWA, hb⟩ := c_findWeights hS hr (Nat.le_refl _)
        have hr' := hr.ws hw hWA.ex hb
        obtain ⟨⟨_, _, _, _, _, _, _, _, _, _, _, hm⟩, -⟩ := id hr
        obtain ⟨⟨_, _, _, _, _, _, _, _, _, _, _, hm'⟩, -⟩ := id hr'
        obtain ⟨gw, w1, w2⟩ := hWA
        refine ⟨h', ?_, hr', hw.frM⟩
        have L : ∀ k i, i + k = t + 1 → Run M_X9_by 33 [.ref 88, .int (nI t), .int (nI q), .long (lN (sm (Wt S (S 12 0)) i)), .null, .int (nI i)] [] h' = some (h', some (.long (lN (low (En S t) (Ch S (S 12 0)) q)))) := by
          intro k
          induction k with
          | zero =>
            intro i hi
            have e : i = t + 1 := by omega
            subst e
            have q1 : nI t < nI (t + 1) := by rw [nI_lt' (by omega) (by omega)]; omega
            simp only [r_X9_by_33, r_X9_by_35, r_X9_by_36, r_X9_by_39, r_X9_by_40, r_X9_by_41, r_X9_by_44, r_X9_by_46, r_X9_by_47, r_X9_by_48, r_X9_by_49, r_X9_by_52, r_X9_by_55, r_X9_by_56, r_X9_by_57, r_X9_by_58, r_X9_by_59, r_X9_by_62, r_X9_by_65, r_X9_by_66, r_X9_by_69, ↓reduceIte, Option.isSome_some, Option.getD_some, rL_v, rL_n, cH_s, List.cons_append, List.nil_append, cat_i, cat_r, cat_n, ofN, g9_0 hm', g9_1 hm', g9_2 hm', g9_3 hm', g9_4 hm', g9_5 hm', g9_6 hm', g9_7 hm', g9_8 hm', g9_9 hm', g9_10 hm', g9_11 hm', g9_12 hm', g9_13 hm', g9_14 hm', g9_15 hm', g9_16 hm', g9_17 hm', g9_18 hm', g9_19 hm', g9_20 hm', g9_21 hm', g9_22 hm', g9_23 hm', g9_24 hm', g9_25 hm', g9_26 hm', g9_27 hm', g9_28 hm', g9_29 hm', g9_30 hm', g9_31 hm', g9_32 hm', g9_33 hm', g9_34 hm', g9_35 hm', g9_36 hm', g9_37 hm', g9_38 hm', g9_39 hm', ro9 hm', q1, c_mAll hS hr', c_share (h := h') (a := En S t) (b := Ch S (S 12 0)) (show _ < _ by omega) (by omega) (by omega) (show q < 2 by omega)]
          | succ k ih =>
            intro i hi
            have q1 : ¬ nI t < nI i := by rw [nI_lt' (by omega) (by omega)]; omega
            rw [r_X9_by_33]
            simp only [r_X9_by_35, r_X9_by_36, r_X9_by_39, r_X9_by_40, r_X9_by_41, r_X9_by_44, r_X9_by_46, r_X9_by_47, r_X9_by_48, r_X9_by_49, r_X9_by_52, ↓reduceIte, Option.isSome_some, Option.getD_some, rL_v, rL_n, cH_s, List.cons_append, List.nil_append, cat_i, cat_r, cat_n, ofN, g9_0 hm', g9_1 hm', g9_2 hm', g9_3 hm', g9_4 hm', g9_5 hm', g9_6 hm', g9_7 hm', g9_8 hm', g9_9 hm', g9_10 hm', g9_11 hm', g9_12 hm', g9_13 hm', g9_14 hm', g9_15 hm', g9_16 hm', g9_17 hm', g9_18 hm', g9_19 hm', g9_20 hm', g9_21 hm', g9_22 hm', g9_23 hm', g9_24 hm', g9_25 hm', g9_26 hm', g9_27 hm', g9_28 hm', g9_29 hm', g9_30 hm', g9_31 hm', g9_32 hm', g9_33 hm', g9_34 hm', g9_35 hm', g9_36 hm', g9_37 hm', g9_38 hm', g9_39 hm', ro9 hm', q1, gJ_nI w1 (by decide) (by decide) (show i < 421 by omega), w2 i (by omega), lN_add, nI_add]
            exact ih (i + 1) (by omega)
        show Run M_X9_by 0 [.ref 88, .int (nI t), .int (nI q), .null, .null, .null] [] h = _
        simp only [r_X9_by_0, r_X9_by_1, r_X9_by_4, r_X9_by_7, r_X9_by_8, r_X9_by_9, r_X9_by_10, r_X9_by_13, r_X9_by_16, r_X9_by_19, r_X9_by_20, r_X9_by_21, r_X9_by_22, r_X9_by_25, r_X9_by_28, r_X9_by_29, r_X9_by_30, r_X9_by_31, ↓reduceIte, Option.isSome_some, Option.getD_some, rL_v, rL_n, cH_s, List.cons_append, List.nil_append, cat_i, cat_r, cat_n, ofN, g9_0 hm, g9_1 hm, g9_2 hm, g9_3 hm, g9_4 hm, g9_5 hm, g9_6 hm, g9_7 hm, g9_8 hm, g9_9 hm, g9_10 hm, g9_11 hm, g9_12 hm, g9_13 hm, g9_14 hm, g9_15 hm, g9_16 hm, g9_17 hm, g9_18 hm, g9_19 hm, g9_20 hm, g9_21 hm, g9_22 hm, g9_23 hm, g9_24 hm, g9_25 hm, g9_26 hm, g9_27 hm, g9_28 hm, g9_29 hm, g9_30 hm, g9_31 hm, g9_32 hm, g9_33 hm, g9_34 hm, g9_35 hm, g9_36 hm, g9_37 hm, g9_38 hm, g9_39 hm, ro9 hm, c_mTenth, c_in, ite_bI, hx, hy, and_self, cf]
        exact L (t + 1) 0 (by omega)
    · have hy2 : ¬ (y = nI 0 ∨ y = nI 1) := fun e => hy (in01.mpr e)
      refine OpV.read (r := .long (-1000000002)) hI (fun h hr => ?_) (fun h hr => ?_)
      · show Run M_X8_by 0 [.ref 1, .int x, .int y] [] h = _
        simp only [r_X8_by_0, r_X8_by_1, r_X8_by_4, r_X8_by_7, r_X8_by_8, r_X8_by_11, r_X8_by_14, r_X8_by_17, ↓reduceIte, Option.isSome_some, Option.getD_some, rL_v, rL_n, cH_s, List.cons_append, List.nil_append, cat_i, cat_r, cat_n, ofN, c_isTenth, c_isSide, ite_bI, hx, and_self, hy2]
      · show Run M_X9_by 0 [.ref 88, .int x, .int y, .null, .null, .null] [] h = _
        simp only [r_X9_by_0, r_X9_by_1, r_X9_by_4, r_X9_by_7, r_X9_by_8, r_X9_by_9, r_X9_by_10, r_X9_by_13, r_X9_by_16, r_X9_by_19, ↓reduceIte, Option.isSome_some, Option.getD_some, rL_v, rL_n, cH_s, List.cons_append, List.nil_append, cat_i, cat_r, cat_n, ofN, c_mTenth, c_in, ite_bI, hx, hy, and_self]
  · refine OpV.read (r := .long (-1000000002)) hI (fun h hr => ?_) (fun h hr => ?_)
    · show Run M_X8_by 0 [.ref 1, .int x, .int y] [] h = _
      simp only [r_X8_by_0, r_X8_by_1, r_X8_by_4, r_X8_by_7, r_X8_by_8, r_X8_by_11, r_X8_by_14, r_X8_by_17, ↓reduceIte, Option.isSome_some, Option.getD_some, rL_v, rL_n, cH_s, List.cons_append, List.nil_append, cat_i, cat_r, cat_n, ofN, c_isTenth, ite_bI, hx]
    · show Run M_X9_by 0 [.ref 88, .int x, .int y, .null, .null, .null] [] h = _
      simp only [r_X9_by_0, r_X9_by_1, r_X9_by_4, r_X9_by_7, r_X9_by_8, r_X9_by_9, r_X9_by_10, r_X9_by_13, r_X9_by_16, r_X9_by_19, ↓reduceIte, Option.isSome_some, Option.getD_some, rL_v, rL_n, cH_s, List.cons_append, List.nil_append, cat_i, cat_r, cat_n, ofN, c_mTenth, ite_bI, hx]
theorem op_mean {S : SS} (hI : Inv S) (y : Int32) : OpV M_X8_mean M_X9_mean [.int y] S := by
  have hS := hI.1
  by_cases hy : nI 0 ≤ y ∧ y ≤ nI 1
  · obtain ⟨q, hq, rfl⟩ := rng (by decide) hy
    have hy2 := low01 hq
    have p1 := Ch_pos hS (S 12 0) (Nat.le_refl _)
    have p2 := Ch_lt hS (p := S 12 0) (Nat.le_refl _)
    have p3 := Tn_le hS (t := 420) (by omega)
    have p4 : Ch S (S 12 0) * 420 ≤ 34359738368 * 420 := Nat.mul_le_mul_right _ p2
    refine ⟨.long (lN (low (Tn S 420) (Ch S (S 12 0)) q)), S, hI, fun h ⟨o, hr⟩ => ⟨h, ?_, ⟨o, hr⟩, frC.rf⟩, fun h hr => ?_⟩
    · obtain ⟨h0, h1, -, -, -, hE, -⟩ := hr
      have hE1 := hE.1
      have ce := c_tenthsBy hE (show 420 < 2147483648 by omega)
      rw [Nat.min_self] at ce
      show Run M_X8_mean 0 [.ref 1, .int (nI q)] [] h = _
      simp only [r_X8_mean_0, r_X8_mean_1, r_X8_mean_4, r_X8_mean_7, r_X8_mean_10, r_X8_mean_11, r_X8_mean_12, r_X8_mean_15, r_X8_mean_18, r_X8_mean_21, r_X8_mean_22, r_X8_mean_25, r_X8_mean_28, r_X8_mean_29, r_X8_mean_32, ↓reduceIte, Option.isSome_some, Option.getD_some, rL_v, rL_n, cH_s, List.cons_append, List.nil_append, cat_i, cat_r, cat_n, ofN, g8_0 h1, g8_1 h1, g8_2 h1, g8_3 h1, g8_4 h1, g8_5 h1, g8_6 h1, g8_7 h1, g8_8 h1, ro8 h1, ro2 hE1, c_isSide, ite_bI, hy2, ce, c_cAll hS hE, c_inLowest (h := h) (a := Tn S 420) (b := Ch S (S 12 0)) (show _ < _ by omega) (by omega) (by omega) (show q < 2 by omega)]
    · obtain ⟨h', cf, hw, hWA, hb⟩ := c_findWeights hS hr (Nat.le_refl _)
      have hr' := hr.ws hw hWA.ex hb
      obtain ⟨⟨_, _, _, _, _, _, _, _, _, _, _, hm⟩, -⟩ := id hr
      obtain ⟨⟨_, _, _, _, _, _, _, _, _, _, _, hm'⟩, -⟩ := id hr'
      obtain ⟨gw, w1, w2⟩ := hWA
      refine ⟨h', ?_, hr', hw.frM⟩
      have L : ∀ k i, i + k = 421 → Run M_X9_mean 26 [.ref 88, .int (nI q), .long (lN (sm (fun u => Wt S (S 12 0) u * u) i)), .null, .int (nI i)] [] h' = some (h', some (.long (lN (low (Tn S 420) (Ch S (S 12 0)) q)))) := by
        intro k
        induction k with
        | zero =>
          intro i hi
          have e : i = 421 := by omega
          subst e
          have q1 : nI 420 < nI 421 := by decide
          simp only [r_X9_mean_26, r_X9_mean_28, r_X9_mean_31, r_X9_mean_34, r_X9_mean_35, r_X9_mean_37, r_X9_mean_38, r_X9_mean_39, r_X9_mean_42, r_X9_mean_44, r_X9_mean_45, r_X9_mean_46, r_X9_mean_47, r_X9_mean_48, r_X9_mean_51, r_X9_mean_54, r_X9_mean_55, r_X9_mean_56, r_X9_mean_57, r_X9_mean_58, r_X9_mean_61, r_X9_mean_64, r_X9_mean_65, r_X9_mean_68, ↓reduceIte, Option.isSome_some, Option.getD_some, rL_v, rL_n, cH_s, List.cons_append, List.nil_append, cat_i, cat_r, cat_n, ofN, g9_0 hm', g9_1 hm', g9_2 hm', g9_3 hm', g9_4 hm', g9_5 hm', g9_6 hm', g9_7 hm', g9_8 hm', g9_9 hm', g9_10 hm', g9_11 hm', g9_12 hm', g9_13 hm', g9_14 hm', g9_15 hm', g9_16 hm', g9_17 hm', g9_18 hm', g9_19 hm', g9_20 hm', g9_21 hm', g9_22 hm', g9_23 hm', g9_24 hm', g9_25 hm', g9_26 hm', g9_27 hm', g9_28 hm', g9_29 hm', g9_30 hm', g9_31 hm', g9_32 hm', g9_33 hm', g9_34 hm', g9_35 hm', g9_36 hm', g9_37 hm', g9_38 hm', g9_39 hm', ro9 hm', q1, c_mAll hS hr', c_share (h := h') (a := Tn S 420) (b := Ch S (S 12 0)) (show _ < _ by omega) (by omega) (by omega) (show q < 2 by omega)]
        | succ k ih =>
          intro i hi
          have q1 : ¬ nI 420 < nI i := by rw [nI_lt' (by omega) (by omega)]; omega
          have e1 : (nI i).toInt64 = lN i := nI_l (by omega)
          have I := ih (i + 1) (by omega)
          rw [show sm (fun u => Wt S (S 12 0) u * u) (i + 1) = sm (fun u => Wt S (S 12 0) u * u) i + i * Wt S (S 12 0) i by rw [Nat.mul_comm]; rfl] at I
          rw [r_X9_mean_26]
          simp only [r_X9_mean_28, r_X9_mean_31, r_X9_mean_34, r_X9_mean_35, r_X9_mean_37, r_X9_mean_38, r_X9_mean_39, r_X9_mean_42, r_X9_mean_44, r_X9_mean_45, r_X9_mean_46, r_X9_mean_47, r_X9_mean_48, r_X9_mean_51, ↓reduceIte, Option.isSome_some, Option.getD_some, rL_v, rL_n, cH_s, List.cons_append, List.nil_append, cat_i, cat_r, cat_n, ofN, g9_0 hm', g9_1 hm', g9_2 hm', g9_3 hm', g9_4 hm', g9_5 hm', g9_6 hm', g9_7 hm', g9_8 hm', g9_9 hm', g9_10 hm', g9_11 hm', g9_12 hm', g9_13 hm', g9_14 hm', g9_15 hm', g9_16 hm', g9_17 hm', g9_18 hm', g9_19 hm', g9_20 hm', g9_21 hm', g9_22 hm', g9_23 hm', g9_24 hm', g9_25 hm', g9_26 hm', g9_27 hm', g9_28 hm', g9_29 hm', g9_30 hm', g9_31 hm', g9_32 hm', g9_33 hm', g9_34 hm', g9_35 hm', g9_36 hm', g9_37 hm', g9_38 hm', g9_39 hm', ro9 hm', q1, gJ_nI w1 (by decide) (by decide) (show i < 421 by omega), w2 i (by omega), e1, lN_mul, lN_add, nI_add]
          exact I
      show Run M_X9_mean 0 [.ref 88, .int (nI q), .null, .null, .null] [] h = _
      simp only [r_X9_mean_0, r_X9_mean_1, r_X9_mean_2, r_X9_mean_3, r_X9_mean_6, r_X9_mean_9, r_X9_mean_12, r_X9_mean_13, r_X9_mean_14, r_X9_mean_15, r_X9_mean_18, r_X9_mean_21, r_X9_mean_22, r_X9_mean_23, r_X9_mean_24, ↓reduceIte, Option.isSome_some, Option.getD_some, rL_v, rL_n, cH_s, List.cons_append, List.nil_append, cat_i, cat_r, cat_n, ofN, g9_0 hm, g9_1 hm, g9_2 hm, g9_3 hm, g9_4 hm, g9_5 hm, g9_6 hm, g9_7 hm, g9_8 hm, g9_9 hm, g9_10 hm, g9_11 hm, g9_12 hm, g9_13 hm, g9_14 hm, g9_15 hm, g9_16 hm, g9_17 hm, g9_18 hm, g9_19 hm, g9_20 hm, g9_21 hm, g9_22 hm, g9_23 hm, g9_24 hm, g9_25 hm, g9_26 hm, g9_27 hm, g9_28 hm, g9_29 hm, g9_30 hm, g9_31 hm, g9_32 hm, g9_33 hm, g9_34 hm, g9_35 hm, g9_36 hm, g9_37 hm, g9_38 hm, g9_39 hm, ro9 hm, c_in, ite_bI, hy, and_self, cf]
      exact L 421 0 (by omega)
  · have hy2 : ¬ (y = nI 0 ∨ y = nI 1) := fun e => hy (in01.mpr e)
    refine OpV.read (r := .long (-1000000002)) hI (fun h hr => ?_) (fun h hr => ?_)
    · show Run M_X8_mean 0 [.ref 1, .int y] [] h = _
      simp only [r_X8_mean_0, r_X8_mean_1, r_X8_mean_4, r_X8_mean_7, r_X8_mean_10, ↓reduceIte, Option.isSome_some, Option.getD_some, rL_v, rL_n, cH_s, List.cons_append, List.nil_append, cat_i, cat_r, cat_n, ofN, c_isSide, ite_bI, hy2]
    · show Run M_X9_mean 0 [.ref 88, .int y, .null, .null, .null] [] h = _
      simp only [r_X9_mean_0, r_X9_mean_1, r_X9_mean_2, r_X9_mean_3, r_X9_mean_6, r_X9_mean_9, r_X9_mean_12, ↓reduceIte, Option.isSome_some, Option.getD_some, rL_v, rL_n, cH_s, List.cons_append, List.nil_append, cat_i, cat_r, cat_n, ofN, c_in, ite_bI, hy]
theorem fI_eq {n : Nat} (hn : n < 2147483648) : (fI n = -1) = (n = 0) := by
  apply propext
  constructor
  · intro e
    cases n with
    | zero => rfl
    | succ m =>
      exfalso
      unfold fI at e
      rw [nI_s (by omega : 1 ≤ m + 1), Nat.add_sub_cancel] at e
      have h1 : nI 0 ≤ nI m := by rw [nI_le' (by decide) (by omega)]; omega
      rw [e] at h1
      exact absurd h1 (by decide)
  · intro e; subst e; decide
/-- the first place with something in it + 1; the last -/
def fw (W : Nat → Nat) : Nat → Nat
  | 0 => 0
  | i + 1 => if fw W i = 0 ∧ 0 < W i then i + 1 else fw W i
def lw (W : Nat → Nat) : Nat → Nat
  | 0 => 0
  | i + 1 => if 0 < W i then i else lw W i
theorem fw_le (W : Nat → Nat) : ∀ i, fw W i ≤ i
  | 0 => Nat.le_refl _
  | i + 1 => by have := fw_le W i; simp only [fw]; split <;> omega
theorem fw_stay {W : Nat → Nat} {i : Nat} (h : fw W i ≠ 0) : ∀ k, fw W (i + k) = fw W i
  | 0 => rfl
  | k + 1 => by
    show fw W (i + k + 1) = _
    simp only [fw]
    rw [fw_stay h k, if_neg (fun e => h e.1)]
theorem lw_stay {W : Nat → Nat} {i : Nat} : ∀ k, (∀ j, i ≤ j → j < i + k → W j = 0) → lw W (i + k) = lw W i
  | 0, _ => rfl
  | k + 1, h => by
    show lw W (i + k + 1) = _
    simp only [lw]
    rw [h (i + k) (by omega) (by omega), if_neg (by omega)]
    exact lw_stay k (fun j a b => h j a (by omega))
theorem fT_fw {W : Nat → Nat} (hp : 1 ≤ sm W 421) : ∀ k i, i + k = 420 → fw W i = 0 → sm W i = 0 → fT (fun t => sm W (t + 1)) 1 i k + 1 = fw W 421
  | 0, i, hi, h0, hs => by
    have e : i = 420 := by omega
    subst e
    have : sm W 421 = sm W 420 + W 420 := rfl
    show 420 + 1 = if fw W 420 = 0 ∧ 0 < W 420 then 420 + 1 else fw W 420
    rw [if_pos ⟨h0, by omega⟩]
  | k + 1, i, hi, h0, hs => by
    have e1 : sm W (i + 1) = sm W i + W i := rfl
    show (if 1 ≤ sm W (i + 1) then i else fT (fun t => sm W (t + 1)) 1 (i + 1) k) + 1 = _
    by_cases h1 : 1 ≤ sm W (i + 1)
    · rw [if_pos h1]
      have e2 : fw W (i + 1) = i + 1 := by
        show (if fw W i = 0 ∧ 0 < W i then i + 1 else fw W i) = _
        rw [if_pos ⟨h0, by omega⟩]
      have := fw_stay (W := W) (i := i + 1) (by omega) (k + 1)
      rw [show i + 1 + (k + 1) = 421 by omega] at this
      rw [this, e2]
    · rw [if_neg h1]
      refine fT_fw hp k (i + 1) (by omega) ?_ (by omega)
      show (if fw W i = 0 ∧ 0 < W i then i + 1 else fw W i) = _
      rw [if_neg (fun q => by omega)]; exact h0
theorem sm_rest {W : Nat → Nat} {i : Nat} : ∀ k, sm W (i + k) ≤ sm W i → ∀ j, i ≤ j → j < i + k → W j = 0
  | 0, _, j, a, b => by omega
  | k + 1, h, j, a, b => by
    have e : sm W (i + (k + 1)) = sm W (i + k) + W (i + k) := rfl
    have l : sm W i ≤ sm W (i + k) := sm_le (by omega)
    by_cases hj : j = i + k
    · subst hj; omega
    · exact sm_rest k (by omega) j a (by omega)
theorem fT_lw {W : Nat → Nat} : ∀ k i, i + k = 420 → sm W i < sm W 421 → fT (fun t => sm W (t + 1)) (sm W 421) i k = lw W 421
  | 0, i, hi, hs => by
    have e : i = 420 := by omega
    subst e
    have : sm W 421 = sm W 420 + W 420 := rfl
    show 420 = if 0 < W 420 then 420 else lw W 420
    rw [if_pos (by omega)]
  | k + 1, i, hi, hs => by
    have e1 : sm W (i + 1) = sm W i + W i := rfl
    show (if sm W 421 ≤ sm W (i + 1) then i else fT (fun t => sm W (t + 1)) (sm W 421) (i + 1) k) = _
    by_cases h1 : sm W 421 ≤ sm W (i + 1)
    · rw [if_pos h1]
      have e2 : lw W (i + 1) = i := by
        show (if 0 < W i then i else lw W i) = _
        rw [if_pos (by omega)]
      have := lw_stay (W := W) (i := i + 1) (k + 1) (sm_rest (k + 1) (by rw [show i + 1 + (k + 1) = 421 by omega]; exact h1))
      rw [show i + 1 + (k + 1) = 421 by omega] at this
      rw [this, e2]
    · rw [if_neg h1]
      exact fT_lw k (i + 1) (by omega) (by omega)
theorem op_edge {S : SS} (hI : Inv S) (y : Int32) : OpV M_X8_edge M_X9_edge [.int y] S := by
  have hS := hI.1
  by_cases hy : nI 0 ≤ y ∧ y ≤ nI 1
  · obtain ⟨q, hq, rfl⟩ := rng (by decide) hy
    have p1 := Ch_pos hS (S 12 0) (Nat.le_refl _)
    have p2 := Ch_lt hS (p := S 12 0) (Nat.le_refl _)
    have ps : sm (Wt S (S 12 0)) 421 = Ch S (S 12 0) := En_all hS
    have m1 : fT (En S) 1 0 420 + 1 = fw (Wt S (S 12 0)) 421 := fT_fw (W := Wt S (S 12 0)) (by omega) 420 0 (by omega) rfl rfl
    have m2 : fT (En S) (Ch S (S 12 0)) 0 420 = lw (Wt S (S 12 0)) 421 := by
      have := fT_lw (W := Wt S (S 12 0)) 420 0 (by omega) (by show 0 < _; omega)
      rw [ps] at this
      exact this
    refine ⟨.int (nI (fT (En S) (if q = 0 then 1 else Ch S (S 12 0)) 0 420)), S, hI, fun h ⟨o, hr⟩ => ⟨h, ?_, ⟨o, hr⟩, frC.rf⟩, fun h hr => ?_⟩
    · obtain ⟨h0, h1, -, -, -, hE, -⟩ := hr
      have hE1 := hE.1
      show Run M_X8_edge 0 [.ref 1, .int (nI q)] [] h = _
      rcases (show q = 0 ∨ q = 1 by omega) with rfl | rfl
      · simp only [r_X8_edge_0, r_X8_edge_1, r_X8_edge_28, r_X8_edge_29, r_X8_edge_32, r_X8_edge_33, r_X8_edge_36, r_X8_edge_37, r_X8_edge_38, r_X8_edge_41, r_X8_edge_42, r_X8_edge_45, r_X8_edge_48, r_X8_edge_51, r_X8_edge_52, r_X8_edge_54, ↓reduceIte, Option.isSome_some, Option.getD_some, rL_v, rL_n, cH_s, List.cons_append, List.nil_append, cat_i, cat_r, cat_n, ofN, g8_0 h1, g8_1 h1, g8_2 h1, g8_3 h1, g8_4 h1, g8_5 h1, g8_6 h1, g8_7 h1, g8_8 h1, ro8 h1, ro2 hE1, c_firstTenthWith hE hS (show 1 < 9223372036854775808 by omega)]
      · have e : ¬ nI 1 = nI 0 := by decide
        have e2 : ¬ 1 = 0 := by decide
        simp only [r_X8_edge_0, r_X8_edge_1, r_X8_edge_28, r_X8_edge_29, r_X8_edge_32, r_X8_edge_33, r_X8_edge_36, r_X8_edge_37, r_X8_edge_38, r_X8_edge_41, r_X8_edge_42, r_X8_edge_45, r_X8_edge_48, r_X8_edge_51, r_X8_edge_52, r_X8_edge_54, ↓reduceIte, Option.isSome_some, Option.getD_some, rL_v, rL_n, cH_s, List.cons_append, List.nil_append, cat_i, cat_r, cat_n, ofN, g8_0 h1, g8_1 h1, g8_2 h1, g8_3 h1, g8_4 h1, g8_5 h1, g8_6 h1, g8_7 h1, g8_8 h1, ro8 h1, ro2 hE1, e, e2, c_cAll hS hE, c_firstTenthWith hE hS (show Ch S (S 12 0) < 9223372036854775808 by omega)]
    · obtain ⟨h', cf, hw, hWA, hb⟩ := c_findWeights hS hr (Nat.le_refl _)
      have hr' := hr.ws hw hWA.ex hb
      obtain ⟨⟨_, _, _, _, _, _, _, _, _, _, _, hm⟩, -⟩ := id hr
      obtain ⟨⟨_, _, _, _, _, _, _, _, _, _, _, hm'⟩, -⟩ := id hr'
      obtain ⟨gw, w1, w2⟩ := hWA
      have hb : ∀ t, t < 421 → Wt S (S 12 0) t < 9223372036854775808 := fun t ht => by
        have h1 : sm (Wt S (S 12 0)) (t + 1) = sm (Wt S (S 12 0)) t + Wt S (S 12 0) t := rfl
        have h2 : sm (Wt S (S 12 0)) (t + 1) ≤ sm (Wt S (S 12 0)) 421 := sm_le (by omega)
        omega
      refine ⟨h', ?_, hr', hw.frM⟩
      have L : ∀ k i, i + k = 421 → Run M_X9_edge 27 [.ref 88, .int (nI q), .int (fI (fw (Wt S (S 12 0)) i)), .int (nI (lw (Wt S (S 12 0)) i)), .int (nI i)] [] h' = some (h', some (.int (nI (fT (En S) (if q = 0 then 1 else Ch S (S 12 0)) 0 420)))) := by
        intro k
        induction k with
        | zero =>
          intro i hi
          have e : i = 421 := by omega
          subst e
          have q1 : nI 420 < nI 421 := by decide
          rcases (show q = 0 ∨ q = 1 by omega) with rfl | rfl
          · simp only [r_X9_edge_27, r_X9_edge_29, r_X9_edge_32, r_X9_edge_35, r_X9_edge_36, r_X9_edge_37, r_X9_edge_40, r_X9_edge_41, r_X9_edge_44, r_X9_edge_46, r_X9_edge_47, r_X9_edge_48, r_X9_edge_49, r_X9_edge_52, r_X9_edge_54, r_X9_edge_57, r_X9_edge_58, r_X9_edge_59, r_X9_edge_60, r_X9_edge_63, r_X9_edge_65, r_X9_edge_66, r_X9_edge_67, r_X9_edge_68, r_X9_edge_71, r_X9_edge_73, r_X9_edge_76, r_X9_edge_77, r_X9_edge_78, r_X9_edge_81, r_X9_edge_84, r_X9_edge_85, r_X9_edge_88, r_X9_edge_89, r_X9_edge_92, r_X9_edge_93, ↓reduceIte, Option.isSome_some, Option.getD_some, rL_v, rL_n, cH_s, List.cons_append, List.nil_append, cat_i, cat_r, cat_n, ofN, g9_0 hm', g9_1 hm', g9_2 hm', g9_3 hm', g9_4 hm', g9_5 hm', g9_6 hm', g9_7 hm', g9_8 hm', g9_9 hm', g9_10 hm', g9_11 hm', g9_12 hm', g9_13 hm', g9_14 hm', g9_15 hm', g9_16 hm', g9_17 hm', g9_18 hm', g9_19 hm', g9_20 hm', g9_21 hm', g9_22 hm', g9_23 hm', g9_24 hm', g9_25 hm', g9_26 hm', g9_27 hm', g9_28 hm', g9_29 hm', g9_30 hm', g9_31 hm', g9_32 hm', g9_33 hm', g9_34 hm', g9_35 hm', g9_36 hm', g9_37 hm', g9_38 hm', g9_39 hm', ro9 hm', q1]
            rw [← m1, fI, nI_s (by omega), Nat.add_sub_cancel]
          · have e : ¬ nI 1 = nI 0 := by decide
            have e2 : ¬ 1 = 0 := by decide
            simp only [r_X9_edge_27, r_X9_edge_29, r_X9_edge_32, r_X9_edge_35, r_X9_edge_36, r_X9_edge_37, r_X9_edge_40, r_X9_edge_41, r_X9_edge_44, r_X9_edge_46, r_X9_edge_47, r_X9_edge_48, r_X9_edge_49, r_X9_edge_52, r_X9_edge_54, r_X9_edge_57, r_X9_edge_58, r_X9_edge_59, r_X9_edge_60, r_X9_edge_63, r_X9_edge_65, r_X9_edge_66, r_X9_edge_67, r_X9_edge_68, r_X9_edge_71, r_X9_edge_73, r_X9_edge_76, r_X9_edge_77, r_X9_edge_78, r_X9_edge_81, r_X9_edge_84, r_X9_edge_85, r_X9_edge_88, r_X9_edge_89, r_X9_edge_92, r_X9_edge_93, ↓reduceIte, Option.isSome_some, Option.getD_some, rL_v, rL_n, cH_s, List.cons_append, List.nil_append, cat_i, cat_r, cat_n, ofN, g9_0 hm', g9_1 hm', g9_2 hm', g9_3 hm', g9_4 hm', g9_5 hm', g9_6 hm', g9_7 hm', g9_8 hm', g9_9 hm', g9_10 hm', g9_11 hm', g9_12 hm', g9_13 hm', g9_14 hm', g9_15 hm', g9_16 hm', g9_17 hm', g9_18 hm', g9_19 hm', g9_20 hm', g9_21 hm', g9_22 hm', g9_23 hm', g9_24 hm', g9_25 hm', g9_26 hm', g9_27 hm', g9_28 hm', g9_29 hm', g9_30 hm', g9_31 hm', g9_32 hm', g9_33 hm', g9_34 hm', g9_35 hm', g9_36 hm', g9_37 hm', g9_38 hm', g9_39 hm', ro9 hm', q1, e, e2, m2]
        | succ k ih =>
          intro i hi
          have q1 : ¬ nI 420 < nI i := by rw [nI_lt' (by omega) (by omega)]; omega
          have I := ih (i + 1) (by omega)
          have hfw := fw_le (Wt S (S 12 0)) i
          have z : (lN (Wt S (S 12 0) i) ≤ lN 0) = (Wt S (S 12 0) i = 0) := by
            rw [lN_le' (hb i (by omega)) (by decide)]
            exact propext (by omega)
          rw [show fw (Wt S (S 12 0)) (i + 1) = if fw (Wt S (S 12 0)) i = 0 ∧ 0 < Wt S (S 12 0) i then i + 1 else fw (Wt S (S 12 0)) i from rfl, show lw (Wt S (S 12 0)) (i + 1) = if 0 < Wt S (S 12 0) i then i else lw (Wt S (S 12 0)) i from rfl] at I
          rw [r_X9_edge_27]
          by_cases a : fw (Wt S (S 12 0)) i = 0
          · by_cases b : Wt S (S 12 0) i = 0
            · rw [if_neg (by omega), if_neg (by omega)] at I
              simp only [r_X9_edge_29, r_X9_edge_32, r_X9_edge_35, r_X9_edge_36, r_X9_edge_37, r_X9_edge_40, r_X9_edge_41, r_X9_edge_44, r_X9_edge_46, r_X9_edge_47, r_X9_edge_48, r_X9_edge_49, r_X9_edge_52, r_X9_edge_54, r_X9_edge_57, r_X9_edge_58, r_X9_edge_59, r_X9_edge_60, r_X9_edge_63, r_X9_edge_65, r_X9_edge_66, r_X9_edge_67, r_X9_edge_68, r_X9_edge_71, r_X9_edge_73, r_X9_edge_76, r_X9_edge_77, r_X9_edge_78, r_X9_edge_81, ↓reduceIte, Option.isSome_some, Option.getD_some, rL_v, rL_n, cH_s, List.cons_append, List.nil_append, cat_i, cat_r, cat_n, ofN, g9_0 hm', g9_1 hm', g9_2 hm', g9_3 hm', g9_4 hm', g9_5 hm', g9_6 hm', g9_7 hm', g9_8 hm', g9_9 hm', g9_10 hm', g9_11 hm', g9_12 hm', g9_13 hm', g9_14 hm', g9_15 hm', g9_16 hm', g9_17 hm', g9_18 hm', g9_19 hm', g9_20 hm', g9_21 hm', g9_22 hm', g9_23 hm', g9_24 hm', g9_25 hm', g9_26 hm', g9_27 hm', g9_28 hm', g9_29 hm', g9_30 hm', g9_31 hm', g9_32 hm', g9_33 hm', g9_34 hm', g9_35 hm', g9_36 hm', g9_37 hm', g9_38 hm', g9_39 hm', ro9 hm', q1, gJ_nI w1 (by decide) (by decide) (show i < 421 by omega), w2 i (by omega), cmp_le, z, b, fI_eq (show fw (Wt S (S 12 0)) i < 2147483648 by omega), a, nI_add]
              rw [a] at I
              exact I
            · rw [if_pos (by omega), if_pos (by omega), fI, nI_s (by omega), Nat.add_sub_cancel] at I
              simp only [r_X9_edge_29, r_X9_edge_32, r_X9_edge_35, r_X9_edge_36, r_X9_edge_37, r_X9_edge_40, r_X9_edge_41, r_X9_edge_44, r_X9_edge_46, r_X9_edge_47, r_X9_edge_48, r_X9_edge_49, r_X9_edge_52, r_X9_edge_54, r_X9_edge_57, r_X9_edge_58, r_X9_edge_59, r_X9_edge_60, r_X9_edge_63, r_X9_edge_65, r_X9_edge_66, r_X9_edge_67, r_X9_edge_68, r_X9_edge_71, r_X9_edge_73, r_X9_edge_76, r_X9_edge_77, r_X9_edge_78, r_X9_edge_81, ↓reduceIte, Option.isSome_some, Option.getD_some, rL_v, rL_n, cH_s, List.cons_append, List.nil_append, cat_i, cat_r, cat_n, ofN, g9_0 hm', g9_1 hm', g9_2 hm', g9_3 hm', g9_4 hm', g9_5 hm', g9_6 hm', g9_7 hm', g9_8 hm', g9_9 hm', g9_10 hm', g9_11 hm', g9_12 hm', g9_13 hm', g9_14 hm', g9_15 hm', g9_16 hm', g9_17 hm', g9_18 hm', g9_19 hm', g9_20 hm', g9_21 hm', g9_22 hm', g9_23 hm', g9_24 hm', g9_25 hm', g9_26 hm', g9_27 hm', g9_28 hm', g9_29 hm', g9_30 hm', g9_31 hm', g9_32 hm', g9_33 hm', g9_34 hm', g9_35 hm', g9_36 hm', g9_37 hm', g9_38 hm', g9_39 hm', ro9 hm', q1, gJ_nI w1 (by decide) (by decide) (show i < 421 by omega), w2 i (by omega), cmp_le, z, b, fI_eq (show fw (Wt S (S 12 0)) i < 2147483648 by omega), a, nI_add]
              exact I
          · rw [if_neg (by omega)] at I
            by_cases b : Wt S (S 12 0) i = 0
            · rw [if_neg (by omega)] at I
              simp only [r_X9_edge_29, r_X9_edge_32, r_X9_edge_35, r_X9_edge_36, r_X9_edge_37, r_X9_edge_40, r_X9_edge_41, r_X9_edge_44, r_X9_edge_46, r_X9_edge_47, r_X9_edge_48, r_X9_edge_49, r_X9_edge_52, r_X9_edge_54, r_X9_edge_57, r_X9_edge_58, r_X9_edge_59, r_X9_edge_60, r_X9_edge_63, r_X9_edge_65, r_X9_edge_66, r_X9_edge_67, r_X9_edge_68, r_X9_edge_71, r_X9_edge_73, r_X9_edge_76, r_X9_edge_77, r_X9_edge_78, r_X9_edge_81, ↓reduceIte, Option.isSome_some, Option.getD_some, rL_v, rL_n, cH_s, List.cons_append, List.nil_append, cat_i, cat_r, cat_n, ofN, g9_0 hm', g9_1 hm', g9_2 hm', g9_3 hm', g9_4 hm', g9_5 hm', g9_6 hm', g9_7 hm', g9_8 hm', g9_9 hm', g9_10 hm', g9_11 hm', g9_12 hm', g9_13 hm', g9_14 hm', g9_15 hm', g9_16 hm', g9_17 hm', g9_18 hm', g9_19 hm', g9_20 hm', g9_21 hm', g9_22 hm', g9_23 hm', g9_24 hm', g9_25 hm', g9_26 hm', g9_27 hm', g9_28 hm', g9_29 hm', g9_30 hm', g9_31 hm', g9_32 hm', g9_33 hm', g9_34 hm', g9_35 hm', g9_36 hm', g9_37 hm', g9_38 hm', g9_39 hm', ro9 hm', q1, gJ_nI w1 (by decide) (by decide) (show i < 421 by omega), w2 i (by omega), cmp_le, z, b, fI_eq (show fw (Wt S (S 12 0)) i < 2147483648 by omega), a, nI_add]
              exact I
            · rw [if_pos (by omega)] at I
              simp only [r_X9_edge_29, r_X9_edge_32, r_X9_edge_35, r_X9_edge_36, r_X9_edge_37, r_X9_edge_40, r_X9_edge_41, r_X9_edge_44, r_X9_edge_46, r_X9_edge_47, r_X9_edge_48, r_X9_edge_49, r_X9_edge_52, r_X9_edge_54, r_X9_edge_57, r_X9_edge_58, r_X9_edge_59, r_X9_edge_60, r_X9_edge_63, r_X9_edge_65, r_X9_edge_66, r_X9_edge_67, r_X9_edge_68, r_X9_edge_71, r_X9_edge_73, r_X9_edge_76, r_X9_edge_77, r_X9_edge_78, r_X9_edge_81, ↓reduceIte, Option.isSome_some, Option.getD_some, rL_v, rL_n, cH_s, List.cons_append, List.nil_append, cat_i, cat_r, cat_n, ofN, g9_0 hm', g9_1 hm', g9_2 hm', g9_3 hm', g9_4 hm', g9_5 hm', g9_6 hm', g9_7 hm', g9_8 hm', g9_9 hm', g9_10 hm', g9_11 hm', g9_12 hm', g9_13 hm', g9_14 hm', g9_15 hm', g9_16 hm', g9_17 hm', g9_18 hm', g9_19 hm', g9_20 hm', g9_21 hm', g9_22 hm', g9_23 hm', g9_24 hm', g9_25 hm', g9_26 hm', g9_27 hm', g9_28 hm', g9_29 hm', g9_30 hm', g9_31 hm', g9_32 hm', g9_33 hm', g9_34 hm', g9_35 hm', g9_36 hm', g9_37 hm', g9_38 hm', g9_39 hm', ro9 hm', q1, gJ_nI w1 (by decide) (by decide) (show i < 421 by omega), w2 i (by omega), cmp_le, z, b, fI_eq (show fw (Wt S (S 12 0)) i < 2147483648 by omega), a, nI_add]
              exact I
      show Run M_X9_edge 0 [.ref 88, .int (nI q), .null, .null, .null] [] h = _
      simp only [r_X9_edge_0, r_X9_edge_1, r_X9_edge_2, r_X9_edge_3, r_X9_edge_6, r_X9_edge_9, r_X9_edge_11, r_X9_edge_12, r_X9_edge_13, r_X9_edge_14, r_X9_edge_17, r_X9_edge_20, r_X9_edge_21, r_X9_edge_22, r_X9_edge_23, r_X9_edge_24, r_X9_edge_25, ↓reduceIte, Option.isSome_some, Option.getD_some, rL_v, rL_n, cH_s, List.cons_append, List.nil_append, cat_i, cat_r, cat_n, ofN, g9_0 hm, g9_1 hm, g9_2 hm, g9_3 hm, g9_4 hm, g9_5 hm, g9_6 hm, g9_7 hm, g9_8 hm, g9_9 hm, g9_10 hm, g9_11 hm, g9_12 hm, g9_13 hm, g9_14 hm, g9_15 hm, g9_16 hm, g9_17 hm, g9_18 hm, g9_19 hm, g9_20 hm, g9_21 hm, g9_22 hm, g9_23 hm, g9_24 hm, g9_25 hm, g9_26 hm, g9_27 hm, g9_28 hm, g9_29 hm, g9_30 hm, g9_31 hm, g9_32 hm, g9_33 hm, g9_34 hm, g9_35 hm, g9_36 hm, g9_37 hm, g9_38 hm, g9_39 hm, ro9 hm, c_in, ite_bI, hy, and_self, cf]
      exact L 421 0 (by omega)
  · have hy2 : ¬ (y = nI 0 ∨ y = nI 1) := fun e => hy (in01.mpr e)
    refine OpV.read (r := .int (-1000000002)) hI (fun h hr => ?_) (fun h hr => ?_)
    · show Run M_X8_edge 0 [.ref 1, .int y] [] h = _
      simp only [r_X8_edge_0, r_X8_edge_1, r_X8_edge_52, r_X8_edge_54, ↓reduceIte, Option.isSome_some, Option.getD_some, rL_v, rL_n, cH_s, List.cons_append, List.nil_append, cat_i, cat_r, cat_n, ofN, show ¬ y = nI 0 from fun e => hy2 (Or.inl e), show ¬ y = nI 1 from fun e => hy2 (Or.inr e)]
    · show Run M_X9_edge 0 [.ref 88, .int y, .null, .null, .null] [] h = _
      simp only [r_X9_edge_0, r_X9_edge_1, r_X9_edge_2, r_X9_edge_3, r_X9_edge_6, r_X9_edge_9, r_X9_edge_11, ↓reduceIte, Option.isSome_some, Option.getD_some, rL_v, rL_n, cH_s, List.cons_append, List.nil_append, cat_i, cat_r, cat_n, ofN, c_in, ite_bI, hy]
theorem op_go {S : SS} (hI : Inv S) (x y : Int32) : OpV M_X8_go M_X9_go [.int x, .int y] S := by
  have hS := hI.1
  obtain ⟨a1, a2, a3, -⟩ := hI.2.2.1.1
  by_cases hx : nI 0 ≤ x ∧ x ≤ nI 420
  · by_cases hy : nI 0 ≤ y ∧ y ≤ nI 1
    · obtain ⟨t, ht, rfl⟩ := rng (by decide) hx
      obtain ⟨q, hq, rfl⟩ := rng (by decide) hy
      have hy2 := low01 hq
      have p1 := Ch_pos hS (S 12 0) (Nat.le_refl _)
      have p2 := Ch_lt hS (p := S 12 0) (Nat.le_refl _)
      have p3 := cst_lt hS a1 a2 ht (show 0 ≤ 60 by decide)
      refine ⟨.long (lN (low (cst (Wt S (S 12 0)) (S 0 0) (S 0 1) t 0) (Ch S (S 12 0)) q)), S, hI, fun h ⟨o, hr⟩ => ⟨h, ?_, ⟨o, hr⟩, frC.rf⟩, fun h hr => ?_⟩
      · have cg := c_cGoCost hI hr ht
        obtain ⟨h0, h1, -, -, -, hE, -⟩ := hr
        have hE1 := hE.1
        show Run M_X8_go 0 [.ref 1, .int (nI t), .int (nI q)] [] h = _
        simp only [r_X8_go_0, r_X8_go_1, r_X8_go_4, r_X8_go_7, r_X8_go_8, r_X8_go_11, r_X8_go_14, r_X8_go_17, r_X8_go_18, r_X8_go_19, r_X8_go_20, r_X8_go_23, r_X8_go_24, r_X8_go_27, r_X8_go_30, r_X8_go_31, r_X8_go_34, ↓reduceIte, Option.isSome_some, Option.getD_some, rL_v, rL_n, cH_s, List.cons_append, List.nil_append, cat_i, cat_r, cat_n, ofN, g8_0 h1, g8_1 h1, g8_2 h1, g8_3 h1, g8_4 h1, g8_5 h1, g8_6 h1, g8_7 h1, g8_8 h1, ro8 h1, ro2 hE1, c_isTenth, c_isSide, ite_bI, hx, and_self, hy2, cg, c_cAll hS hE, c_inLowest (h := h) (a := cst (Wt S (S 12 0)) (S 0 0) (S 0 1) t 0) (b := Ch S (S 12 0)) (show _ < _ by omega) (by omega) (by omega) (show q < 2 by omega)]
      · obtain ⟨h', cf, hw, hWA, hb⟩ := c_findWeights hS hr (Nat.le_refl _)
        have hr' := hr.ws hw hWA.ex hb
        obtain ⟨⟨_, _, _, _, _, _, _, _, _, _, _, hm⟩, -⟩ := id hr
        obtain ⟨⟨_, _, _, _, _, _, _, _, _, _, _, hm'⟩, -⟩ := id hr'
        refine ⟨h', ?_, hr', hw.frM⟩
        show Run M_X9_go 0 [.ref 88, .int (nI t), .int (nI q)] [] h = _
        simp only [r_X9_go_0, r_X9_go_1, r_X9_go_4, r_X9_go_7, r_X9_go_8, r_X9_go_9, r_X9_go_10, r_X9_go_13, r_X9_go_16, r_X9_go_19, r_X9_go_20, r_X9_go_21, r_X9_go_22, r_X9_go_25, r_X9_go_28, r_X9_go_29, r_X9_go_30, r_X9_go_33, r_X9_go_34, r_X9_go_35, r_X9_go_36, r_X9_go_39, r_X9_go_42, r_X9_go_43, r_X9_go_46, ↓reduceIte, Option.isSome_some, Option.getD_some, rL_v, rL_n, cH_s, List.cons_append, List.nil_append, cat_i, cat_r, cat_n, ofN, g9_0 hm, g9_1 hm, g9_2 hm, g9_3 hm, g9_4 hm, g9_5 hm, g9_6 hm, g9_7 hm, g9_8 hm, g9_9 hm, g9_10 hm, g9_11 hm, g9_12 hm, g9_13 hm, g9_14 hm, g9_15 hm, g9_16 hm, g9_17 hm, g9_18 hm, g9_19 hm, g9_20 hm, g9_21 hm, g9_22 hm, g9_23 hm, g9_24 hm, g9_25 hm, g9_26 hm, g9_27 hm, g9_28 hm, g9_29 hm, g9_30 hm, g9_31 hm, g9_32 hm, g9_33 hm, g9_34 hm, g9_35 hm, g9_36 hm, g9_37 hm, g9_38 hm, g9_39 hm, ro9 hm, g9_0 hm', g9_1 hm', g9_2 hm', g9_3 hm', g9_4 hm', g9_5 hm', g9_6 hm', g9_7 hm', g9_8 hm', g9_9 hm', g9_10 hm', g9_11 hm', g9_12 hm', g9_13 hm', g9_14 hm', g9_15 hm', g9_16 hm', g9_17 hm', g9_18 hm', g9_19 hm', g9_20 hm', g9_21 hm', g9_22 hm', g9_23 hm', g9_24 hm', g9_25 hm', g9_26 hm', g9_27 hm', g9_28 hm', g9_29 hm', g9_30 hm', g9_31 hm', g9_32 hm', g9_33 hm', g9_34 hm', g9_35 hm', g9_36 hm', g9_37 hm', g9_38 hm', g9_39 hm', ro9 hm', c_mTenth, c_in, ite_bI, hx, hy, and_self, cf, c_goCost hI hr' hWA ht, c_mAll hS hr', c_share (h := h') (a := cst (Wt S (S 12 0)) (S 0 0) (S 0 1) t 0) (b := Ch S (S 12 0)) (show _ < _ by omega) (by omega) (by omega) (show q < 2 by omega)]
    · have hy2 : ¬ (y = nI 0 ∨ y = nI 1) := fun e => hy (in01.mpr e)
      refine OpV.read (r := .long (-1000000002)) hI (fun h hr => ?_) (fun h hr => ?_)
      · show Run M_X8_go 0 [.ref 1, .int x, .int y] [] h = _
        simp only [r_X8_go_0, r_X8_go_1, r_X8_go_4, r_X8_go_7, r_X8_go_8, r_X8_go_11, r_X8_go_14, r_X8_go_17, ↓reduceIte, Option.isSome_some, Option.getD_some, rL_v, rL_n, cH_s, List.cons_append, List.nil_append, cat_i, cat_r, cat_n, ofN, c_isTenth, c_isSide, ite_bI, hx, and_self, hy2]
      · show Run M_X9_go 0 [.ref 88, .int x, .int y] [] h = _
        simp only [r_X9_go_0, r_X9_go_1, r_X9_go_4, r_X9_go_7, r_X9_go_8, r_X9_go_9, r_X9_go_10, r_X9_go_13, r_X9_go_16, r_X9_go_19, ↓reduceIte, Option.isSome_some, Option.getD_some, rL_v, rL_n, cH_s, List.cons_append, List.nil_append, cat_i, cat_r, cat_n, ofN, c_mTenth, c_in, ite_bI, hx, hy, and_self]
  · refine OpV.read (r := .long (-1000000002)) hI (fun h hr => ?_) (fun h hr => ?_)
    · show Run M_X8_go 0 [.ref 1, .int x, .int y] [] h = _
      simp only [r_X8_go_0, r_X8_go_1, r_X8_go_4, r_X8_go_7, r_X8_go_8, r_X8_go_11, r_X8_go_14, r_X8_go_17, ↓reduceIte, Option.isSome_some, Option.getD_some, rL_v, rL_n, cH_s, List.cons_append, List.nil_append, cat_i, cat_r, cat_n, ofN, c_isTenth, ite_bI, hx]
    · show Run M_X9_go 0 [.ref 88, .int x, .int y] [] h = _
      simp only [r_X9_go_0, r_X9_go_1, r_X9_go_4, r_X9_go_7, r_X9_go_8, r_X9_go_9, r_X9_go_10, r_X9_go_13, r_X9_go_16, r_X9_go_19, ↓reduceIte, Option.isSome_some, Option.getD_some, rL_v, rL_n, cH_s, List.cons_append, List.nil_append, cat_i, cat_r, cat_n, ofN, c_mTenth, ite_bI, hx]
theorem op_lift {S : SS} (hI : Inv S) (x z y : Int32) : OpV M_X8_lift M_X9_lift [.int x, .int z, .int y] S := by
  have hS := hI.1
  obtain ⟨a1, a2, a3, -⟩ := hI.2.2.1.1
  by_cases hx : nI 0 ≤ x ∧ x ≤ nI 420
  · by_cases hz : nI 0 ≤ z ∧ z ≤ nI 60
    · by_cases hy : nI 0 ≤ y ∧ y ≤ nI 1
      · obtain ⟨t, ht, rfl⟩ := rng (by decide) hx
        obtain ⟨d, hd, rfl⟩ := rng (by decide) hz
        obtain ⟨q, hq, rfl⟩ := rng (by decide) hy
        have hy2 := low01 hq
        have p1 := Ch_pos hS (S 12 0) (Nat.le_refl _)
        have p2 := Ch_lt hS (p := S 12 0) (Nat.le_refl _)
        have p3 := cst_lt hS a3 a2 ht hd
        refine ⟨.long (lN (low (cst (Wt S (S 12 0)) (S 0 2) (S 0 1) t d) (Ch S (S 12 0)) q)), S, hI, fun h ⟨o, hr⟩ => ⟨h, ?_, ⟨o, hr⟩, frC.rf⟩, fun h hr => ?_⟩
        · obtain ⟨h0, h1, -, ⟨hH, -, -, -, hA, -⟩, -, hE, -⟩ := hr
          have hA1 := hA.1
          have hE1 := hE.1
          show Run M_X8_lift 0 [.ref 1, .int (nI t), .int (nI d), .int (nI q), .null, .null] [] h = _
          simp only [r_X8_lift_0, r_X8_lift_1, r_X8_lift_4, r_X8_lift_7, r_X8_lift_8, r_X8_lift_9, r_X8_lift_11, r_X8_lift_14, r_X8_lift_17, r_X8_lift_18, r_X8_lift_21, r_X8_lift_24, r_X8_lift_27, r_X8_lift_28, r_X8_lift_29, r_X8_lift_32, r_X8_lift_33, r_X8_lift_36, r_X8_lift_39, r_X8_lift_42, r_X8_lift_43, r_X8_lift_46, r_X8_lift_49, r_X8_lift_52, r_X8_lift_53, r_X8_lift_54, r_X8_lift_57, r_X8_lift_59, r_X8_lift_61, r_X8_lift_62, r_X8_lift_65, r_X8_lift_68, r_X8_lift_69, r_X8_lift_72, ↓reduceIte, Option.isSome_some, Option.getD_some, rL_v, rL_n, cH_s, List.cons_append, List.nil_append, cat_i, cat_r, cat_n, ofN, g8_0 h1, g8_1 h1, g8_2 h1, g8_3 h1, g8_4 h1, g8_5 h1, g8_6 h1, g8_7 h1, g8_8 h1, ro8 h1, g4_0 hH, g4_1 hH, g4_2 hH, g4_3 hH, g4_4 hH, g4_5 hH, g4_6 hH, ro4 hH, g0_0 hA1, g0_1 hA1, g0_2 hA1, g0_3 hA1, g0_4 hA1, g0_5 hA1, g0_6 hA1, g0_7 hA1, g0_8 hA1, g0_9 hA1, g0_10 hA1, ro0 hA1, ro2 hE1, c_isTenth, c_isSide, c_within, ite_bI, hx, hz, and_self, hy2, c_cost hE hS (show S 0 2 < 2147483648 by omega) (show S 0 1 < 2147483648 by omega) ht hd, c_cAll hS hE, c_inLowest (h := h) (a := cst (Wt S (S 12 0)) (S 0 2) (S 0 1) t d) (b := Ch S (S 12 0)) (show _ < _ by omega) (by omega) (by omega) (show q < 2 by omega)]
        · obtain ⟨h', cf, hw, hWA, hb⟩ := c_findWeights hS hr (Nat.le_refl _)
          have hr' := hr.ws hw hWA.ex hb
          obtain ⟨⟨_, _, _, _, _, _, _, _, _, _, _, hm⟩, -⟩ := id hr
          obtain ⟨⟨_, _, _, _, _, _, _, _, _, _, _, hm'⟩, -⟩ := id hr'
          refine ⟨h', ?_, hr', hw.frM⟩
          show Run M_X9_lift 0 [.ref 88, .int (nI t), .int (nI d), .int (nI q)] [] h = _
          simp only [r_X9_lift_0, r_X9_lift_1, r_X9_lift_4, r_X9_lift_7, r_X9_lift_8, r_X9_lift_9, r_X9_lift_11, r_X9_lift_14, r_X9_lift_17, r_X9_lift_18, r_X9_lift_19, r_X9_lift_20, r_X9_lift_23, r_X9_lift_26, r_X9_lift_29, r_X9_lift_30, r_X9_lift_31, r_X9_lift_32, r_X9_lift_35, r_X9_lift_38, r_X9_lift_39, r_X9_lift_40, r_X9_lift_41, r_X9_lift_44, r_X9_lift_45, r_X9_lift_46, r_X9_lift_47, r_X9_lift_50, r_X9_lift_53, r_X9_lift_54, r_X9_lift_57, ↓reduceIte, Option.isSome_some, Option.getD_some, rL_v, rL_n, cH_s, List.cons_append, List.nil_append, cat_i, cat_r, cat_n, ofN, g9_0 hm, g9_1 hm, g9_2 hm, g9_3 hm, g9_4 hm, g9_5 hm, g9_6 hm, g9_7 hm, g9_8 hm, g9_9 hm, g9_10 hm, g9_11 hm, g9_12 hm, g9_13 hm, g9_14 hm, g9_15 hm, g9_16 hm, g9_17 hm, g9_18 hm, g9_19 hm, g9_20 hm, g9_21 hm, g9_22 hm, g9_23 hm, g9_24 hm, g9_25 hm, g9_26 hm, g9_27 hm, g9_28 hm, g9_29 hm, g9_30 hm, g9_31 hm, g9_32 hm, g9_33 hm, g9_34 hm, g9_35 hm, g9_36 hm, g9_37 hm, g9_38 hm, g9_39 hm, ro9 hm, g9_0 hm', g9_1 hm', g9_2 hm', g9_3 hm', g9_4 hm', g9_5 hm', g9_6 hm', g9_7 hm', g9_8 hm', g9_9 hm', g9_10 hm', g9_11 hm', g9_12 hm', g9_13 hm', g9_14 hm', g9_15 hm', g9_16 hm', g9_17 hm', g9_18 hm', g9_19 hm', g9_20 hm', g9_21 hm', g9_22 hm', g9_23 hm', g9_24 hm', g9_25 hm', g9_26 hm', g9_27 hm', g9_28 hm', g9_29 hm', g9_30 hm', g9_31 hm', g9_32 hm', g9_33 hm', g9_34 hm', g9_35 hm', g9_36 hm', g9_37 hm', g9_38 hm', g9_39 hm', ro9 hm', c_mTenth, c_in, ite_bI, hx, hz, hy, and_self, cf, c_liftCost hI hr' hWA ht hd, c_mAll hS hr', c_share (h := h') (a := cst (Wt S (S 12 0)) (S 0 2) (S 0 1) t d) (b := Ch S (S 12 0)) (show _ < _ by omega) (by omega) (by omega) (show q < 2 by omega)]
      · have hy2 : ¬ (y = nI 0 ∨ y = nI 1) := fun e => hy (in01.mpr e)
        refine OpV.read (r := .long (-1000000002)) hI (fun h hr => ?_) (fun h hr => ?_)
        · show Run M_X8_lift 0 [.ref 1, .int x, .int z, .int y, .null, .null] [] h = _
          simp only [r_X8_lift_0, r_X8_lift_1, r_X8_lift_4, r_X8_lift_7, r_X8_lift_8, r_X8_lift_9, r_X8_lift_11, r_X8_lift_14, r_X8_lift_17, r_X8_lift_18, r_X8_lift_21, r_X8_lift_24, r_X8_lift_27, ↓reduceIte, Option.isSome_some, Option.getD_some, rL_v, rL_n, cH_s, List.cons_append, List.nil_append, cat_i, cat_r, cat_n, ofN, c_isTenth, c_within, c_isSide, ite_bI, hx, hz, and_self, hy2]
        · show Run M_X9_lift 0 [.ref 88, .int x, .int z, .int y] [] h = _
          simp only [r_X9_lift_0, r_X9_lift_1, r_X9_lift_4, r_X9_lift_7, r_X9_lift_8, r_X9_lift_9, r_X9_lift_11, r_X9_lift_14, r_X9_lift_17, r_X9_lift_18, r_X9_lift_19, r_X9_lift_20, r_X9_lift_23, r_X9_lift_26, r_X9_lift_29, ↓reduceIte, Option.isSome_some, Option.getD_some, rL_v, rL_n, cH_s, List.cons_append, List.nil_append, cat_i, cat_r, cat_n, ofN, c_mTenth, c_in, ite_bI, hx, hz, hy, and_self]
    · refine OpV.read (r := .long (-1000000002)) hI (fun h hr => ?_) (fun h hr => ?_)
      · show Run M_X8_lift 0 [.ref 1, .int x, .int z, .int y, .null, .null] [] h = _
        simp only [r_X8_lift_0, r_X8_lift_1, r_X8_lift_4, r_X8_lift_7, r_X8_lift_8, r_X8_lift_9, r_X8_lift_11, r_X8_lift_14, r_X8_lift_17, r_X8_lift_18, r_X8_lift_21, r_X8_lift_24, r_X8_lift_27, ↓reduceIte, Option.isSome_some, Option.getD_some, rL_v, rL_n, cH_s, List.cons_append, List.nil_append, cat_i, cat_r, cat_n, ofN, c_isTenth, c_within, ite_bI, hx, hz, and_self]
      · show Run M_X9_lift 0 [.ref 88, .int x, .int z, .int y] [] h = _
        simp only [r_X9_lift_0, r_X9_lift_1, r_X9_lift_4, r_X9_lift_7, r_X9_lift_8, r_X9_lift_9, r_X9_lift_11, r_X9_lift_14, r_X9_lift_17, r_X9_lift_18, r_X9_lift_19, r_X9_lift_20, r_X9_lift_23, r_X9_lift_26, r_X9_lift_29, ↓reduceIte, Option.isSome_some, Option.getD_some, rL_v, rL_n, cH_s, List.cons_append, List.nil_append, cat_i, cat_r, cat_n, ofN, c_mTenth, c_in, ite_bI, hx, hz, and_self]
  · refine OpV.read (r := .long (-1000000002)) hI (fun h hr => ?_) (fun h hr => ?_)
    · show Run M_X8_lift 0 [.ref 1, .int x, .int z, .int y, .null, .null] [] h = _
      simp only [r_X8_lift_0, r_X8_lift_1, r_X8_lift_4, r_X8_lift_7, r_X8_lift_8, r_X8_lift_9, r_X8_lift_11, r_X8_lift_14, r_X8_lift_17, r_X8_lift_18, r_X8_lift_21, r_X8_lift_24, r_X8_lift_27, ↓reduceIte, Option.isSome_some, Option.getD_some, rL_v, rL_n, cH_s, List.cons_append, List.nil_append, cat_i, cat_r, cat_n, ofN, c_isTenth, ite_bI, hx]
    · show Run M_X9_lift 0 [.ref 88, .int x, .int z, .int y] [] h = _
      simp only [r_X9_lift_0, r_X9_lift_1, r_X9_lift_4, r_X9_lift_7, r_X9_lift_8, r_X9_lift_9, r_X9_lift_11, r_X9_lift_14, r_X9_lift_17, r_X9_lift_18, r_X9_lift_19, r_X9_lift_20, r_X9_lift_23, r_X9_lift_26, r_X9_lift_29, ↓reduceIte, Option.isSome_some, Option.getD_some, rL_v, rL_n, cH_s, List.cons_append, List.nil_append, cat_i, cat_r, cat_n, ofN, c_mTenth, ite_bI, hx]
theorem op_bestLift {S : SS} (hI : Inv S) (z : Int32) : OpV M_X8_bestLift M_X9_bestLift [.int z] S := by
  have hS := hI.1
  obtain ⟨a1, a2, a3, -⟩ := hI.2.2.1.1
  by_cases hz : nI 0 ≤ z ∧ z ≤ nI 60
  · obtain ⟨d, hd, rfl⟩ := rng (by decide) hz
    refine ⟨.int (nI (bLi S d)), S, hI, fun h ⟨o, hr⟩ => ⟨h, ?_, ⟨o, hr⟩, frC.rf⟩, fun h hr => ?_⟩
    · obtain ⟨h0, h1, -, ⟨hH, -, -, -, hA, -⟩, -, hE, -⟩ := hr
      have hA1 := hA.1
      have hE1 := hE.1
      show Run M_X8_bestLift 0 [.ref 1, .int (nI d)] [] h = _
      simp only [r_X8_bestLift_0, r_X8_bestLift_1, r_X8_bestLift_2, r_X8_bestLift_4, r_X8_bestLift_7, r_X8_bestLift_10, r_X8_bestLift_12, r_X8_bestLift_13, r_X8_bestLift_14, r_X8_bestLift_17, r_X8_bestLift_18, r_X8_bestLift_21, r_X8_bestLift_24, r_X8_bestLift_27, r_X8_bestLift_28, r_X8_bestLift_31, r_X8_bestLift_34, r_X8_bestLift_37, r_X8_bestLift_38, r_X8_bestLift_41, ↓reduceIte, Option.isSome_some, Option.getD_some, rL_v, rL_n, cH_s, List.cons_append, List.nil_append, cat_i, cat_r, cat_n, ofN, g8_0 h1, g8_1 h1, g8_2 h1, g8_3 h1, g8_4 h1, g8_5 h1, g8_6 h1, g8_7 h1, g8_8 h1, ro8 h1, g4_0 hH, g4_1 hH, g4_2 hH, g4_3 hH, g4_4 hH, g4_5 hH, g4_6 hH, ro4 hH, g0_0 hA1, g0_1 hA1, g0_2 hA1, g0_3 hA1, g0_4 hA1, g0_5 hA1, g0_6 hA1, g0_7 hA1, g0_8 hA1, g0_9 hA1, g0_10 hA1, ro0 hA1, ro2 hE1, c_within, ite_bI, hz, and_self, c_cheapest hE hI.1 a3 a2 hd]
    · obtain ⟨h', cf, hw, hWA, hb⟩ := c_findWeights hS hr (Nat.le_refl _)
      have hr' := hr.ws hw hWA.ex hb
      obtain ⟨⟨_, _, _, _, _, _, _, _, _, _, _, hm⟩, -⟩ := id hr
      obtain ⟨⟨_, _, _, _, _, _, _, _, _, _, _, hm'⟩, -⟩ := id hr'
      refine ⟨h', ?_, hr', hw.frM⟩
      have L : ∀ k i, i + k = 420 → Run M_X9_bestLift 25 [.ref 88, .int (nI d), .int (nI (am (fun a => cst (Wt S (S 12 0)) (S 0 2) (S 0 1) a d) i)), .int (nI (i + 1))] [] h' = some (h', some (.int (nI (bLi S d)))) := by
        intro k
        induction k with
        | zero =>
          intro i hi
          have e : i = 420 := by omega
          subst e
          have q : nI 420 < nI (420 + 1) := by decide
          simp only [r_X9_bestLift_25, r_X9_bestLift_26, r_X9_bestLift_29, r_X9_bestLift_32, r_X9_bestLift_33, r_X9_bestLift_34, r_X9_bestLift_35, r_X9_bestLift_38, r_X9_bestLift_39, r_X9_bestLift_40, r_X9_bestLift_41, r_X9_bestLift_44, r_X9_bestLift_45, r_X9_bestLift_48, r_X9_bestLift_49, r_X9_bestLift_52, r_X9_bestLift_53, r_X9_bestLift_54, r_X9_bestLift_57, r_X9_bestLift_60, r_X9_bestLift_61, ↓reduceIte, Option.isSome_some, Option.getD_some, rL_v, rL_n, cH_s, List.cons_append, List.nil_append, cat_i, cat_r, cat_n, ofN, q]
        | succ k ih =>
          intro i hi
          have q : ¬ nI 420 < nI (i + 1) := by rw [nI_lt' (by omega) (by omega)]; omega
          have am1 := am_le (fun a => cst (Wt S (S 12 0)) (S 0 2) (S 0 1) a d) i
          have I := ih (i + 1) (by omega)
          have l1 := cst_lt hS a3 a2 (show i + 1 ≤ 420 by omega) hd
          have l2 := cst_lt hS a3 a2 (show am (fun a => cst (Wt S (S 12 0)) (S 0 2) (S 0 1) a d) i ≤ 420 by omega) hd
          rw [r_X9_bestLift_25]
          simp only [r_X9_bestLift_26, r_X9_bestLift_29, r_X9_bestLift_32, r_X9_bestLift_33, r_X9_bestLift_34, r_X9_bestLift_35, r_X9_bestLift_38, r_X9_bestLift_39, r_X9_bestLift_40, r_X9_bestLift_41, r_X9_bestLift_44, r_X9_bestLift_45, r_X9_bestLift_48, r_X9_bestLift_49, r_X9_bestLift_52, r_X9_bestLift_53, r_X9_bestLift_54, r_X9_bestLift_57, ↓reduceIte, Option.isSome_some, Option.getD_some, rL_v, rL_n, cH_s, List.cons_append, List.nil_append, cat_i, cat_r, cat_n, ofN, ro9 hm', q, c_liftCost hI hr' hWA (show i + 1 ≤ 420 by omega) hd, c_liftCost hI hr' hWA (show am (fun a => cst (Wt S (S 12 0)) (S 0 2) (S 0 1) a d) i ≤ 420 by omega) hd, cmp_ge, lN_le' (show cst (Wt S (S 12 0)) (S 0 2) (S 0 1) (am (fun a => cst (Wt S (S 12 0)) (S 0 2) (S 0 1) a d) i) d < 9223372036854775808 by omega) (show cst (Wt S (S 12 0)) (S 0 2) (S 0 1) (i + 1) d < 9223372036854775808 by omega), nI_add]
          have hs : am (fun a => cst (Wt S (S 12 0)) (S 0 2) (S 0 1) a d) (i + 1) = if cst (Wt S (S 12 0)) (S 0 2) (S 0 1) (i + 1) d < cst (Wt S (S 12 0)) (S 0 2) (S 0 1) (am (fun a => cst (Wt S (S 12 0)) (S 0 2) (S 0 1) a d) i) d then i + 1 else am (fun a => cst (Wt S (S 12 0)) (S 0 2) (S 0 1) a d) i := rfl
          by_cases h1 : cst (Wt S (S 12 0)) (S 0 2) (S 0 1) (i + 1) d < cst (Wt S (S 12 0)) (S 0 2) (S 0 1) (am (fun a => cst (Wt S (S 12 0)) (S 0 2) (S 0 1) a d) i) d
          · rw [if_pos h1] at hs
            rw [hs] at I
            rw [if_neg (by omega)]; exact I
          · rw [if_neg h1] at hs
            rw [hs] at I
            rw [if_pos (by omega)]; exact I
      show Run M_X9_bestLift 0 [.ref 88, .int (nI d), .null, .null] [] h = _
      simp only [r_X9_bestLift_0, r_X9_bestLift_1, r_X9_bestLift_2, r_X9_bestLift_4, r_X9_bestLift_7, r_X9_bestLift_10, r_X9_bestLift_12, r_X9_bestLift_13, r_X9_bestLift_14, r_X9_bestLift_15, r_X9_bestLift_18, r_X9_bestLift_21, r_X9_bestLift_22, r_X9_bestLift_23, r_X9_bestLift_24, ↓reduceIte, Option.isSome_some, Option.getD_some, rL_v, rL_n, cH_s, List.cons_append, List.nil_append, cat_i, cat_r, cat_n, ofN, g9_0 hm, g9_1 hm, g9_2 hm, g9_3 hm, g9_4 hm, g9_5 hm, g9_6 hm, g9_7 hm, g9_8 hm, g9_9 hm, g9_10 hm, g9_11 hm, g9_12 hm, g9_13 hm, g9_14 hm, g9_15 hm, g9_16 hm, g9_17 hm, g9_18 hm, g9_19 hm, g9_20 hm, g9_21 hm, g9_22 hm, g9_23 hm, g9_24 hm, g9_25 hm, g9_26 hm, g9_27 hm, g9_28 hm, g9_29 hm, g9_30 hm, g9_31 hm, g9_32 hm, g9_33 hm, g9_34 hm, g9_35 hm, g9_36 hm, g9_37 hm, g9_38 hm, g9_39 hm, ro9 hm, c_in, ite_bI, hz, and_self, cf]
      exact L 420 0 (by omega)
  · refine OpV.read (r := .int (-1000000002)) hI (fun h hr => ?_) (fun h hr => ?_)
    · show Run M_X8_bestLift 0 [.ref 1, .int z] [] h = _
      simp only [r_X8_bestLift_0, r_X8_bestLift_1, r_X8_bestLift_2, r_X8_bestLift_4, r_X8_bestLift_7, r_X8_bestLift_10, r_X8_bestLift_12, ↓reduceIte, Option.isSome_some, Option.getD_some, rL_v, rL_n, cH_s, List.cons_append, List.nil_append, cat_i, cat_r, cat_n, ofN, c_within, ite_bI, hz]
    · show Run M_X9_bestLift 0 [.ref 88, .int z, .null, .null] [] h = _
      simp only [r_X9_bestLift_0, r_X9_bestLift_1, r_X9_bestLift_2, r_X9_bestLift_4, r_X9_bestLift_7, r_X9_bestLift_10, r_X9_bestLift_12, ↓reduceIte, Option.isSome_some, Option.getD_some, rL_v, rL_n, cH_s, List.cons_append, List.nil_append, cat_i, cat_r, cat_n, ofN, c_in, ite_bI, hz]
theorem op_saved {S : SS} (hI : Inv S) (z y : Int32) : OpV M_X8_saved M_X9_saved [.int z, .int y] S := by
  have hS := hI.1
  obtain ⟨a1, a2, a3, -⟩ := hI.2.2.1.1
  by_cases hz : nI 0 ≤ z ∧ z ≤ nI 8
  · by_cases hy : nI 0 ≤ y ∧ y ≤ nI 1
    · obtain ⟨d, hd, rfl⟩ := rng (by decide) hz
      obtain ⟨q, hq, rfl⟩ := rng (by decide) hy
      have hy2 := low01 hq
      have p1 := Ch_pos hS (S 12 0) (Nat.le_refl _)
      have p2 := Ch_lt hS (p := S 12 0) (Nat.le_refl _)
      have hbg : bGo S ≤ 420 := am_le _ 420
      have p3 := cst_lt hS a1 a2 hbg (show 0 ≤ 60 by decide)
      have p4 : cst (Wt S (S 12 0)) (S 0 0) (S 0 1) (bGo S) 0 * d ≤ 34359738368 * 18000 * 8 := Nat.mul_le_mul p3 hd
      have e1 : (nI d).toInt64 = lN d := nI_l (by omega)
      refine ⟨.long (lN (low (cst (Wt S (S 12 0)) (S 0 0) (S 0 1) (bGo S) 0 * d) (Ch S (S 12 0) * 8) q)), S, hI, fun h ⟨o, hr⟩ => ⟨h, ?_, ⟨o, hr⟩, frC.rf⟩, fun h hr => ?_⟩
      · have cg := c_cGoCost hI hr hbg
        have cc := c_cheapestGo hI hr
        obtain ⟨h0, h1, -, -, -, hE, -⟩ := hr
        have hE1 := hE.1
        show Run M_X8_saved 0 [.ref 1, .int (nI d), .int (nI q)] [] h = _
        simp only [r_X8_saved_0, r_X8_saved_1, r_X8_saved_2, r_X8_saved_4, r_X8_saved_7, r_X8_saved_10, r_X8_saved_11, r_X8_saved_14, r_X8_saved_17, r_X8_saved_20, r_X8_saved_21, r_X8_saved_22, r_X8_saved_23, r_X8_saved_26, r_X8_saved_29, r_X8_saved_30, r_X8_saved_31, r_X8_saved_32, r_X8_saved_33, r_X8_saved_36, r_X8_saved_39, r_X8_saved_42, r_X8_saved_43, r_X8_saved_44, r_X8_saved_47, ↓reduceIte, Option.isSome_some, Option.getD_some, rL_v, rL_n, cH_s, List.cons_append, List.nil_append, cat_i, cat_r, cat_n, ofN, g8_0 h1, g8_1 h1, g8_2 h1, g8_3 h1, g8_4 h1, g8_5 h1, g8_6 h1, g8_7 h1, g8_8 h1, ro8 h1, ro2 hE1, c_within, c_isSide, ite_bI, hz, and_self, hy2, cc, cg, e1, lN_mul, c_cAll hS hE, c_inLowest (h := h) (a := cst (Wt S (S 12 0)) (S 0 0) (S 0 1) (bGo S) 0 * d) (b := Ch S (S 12 0) * 8) (show _ < _ by omega) (by omega) (by omega) (show q < 2 by omega)]
      · obtain ⟨h', cb, hr', hw, hWA⟩ := c_mBestGo hI hr
        obtain ⟨⟨_, _, _, _, _, _, _, _, _, _, _, hm⟩, -⟩ := id hr
        obtain ⟨⟨_, _, _, _, _, _, _, _, _, _, _, hm'⟩, -⟩ := id hr'
        refine ⟨h', ?_, hr', hw.frM⟩
        show Run M_X9_saved 0 [.ref 88, .int (nI d), .int (nI q), .null] [] h = _
        simp only [r_X9_saved_0, r_X9_saved_1, r_X9_saved_2, r_X9_saved_4, r_X9_saved_7, r_X9_saved_10, r_X9_saved_11, r_X9_saved_12, r_X9_saved_13, r_X9_saved_16, r_X9_saved_19, r_X9_saved_22, r_X9_saved_23, r_X9_saved_24, r_X9_saved_27, r_X9_saved_28, r_X9_saved_29, r_X9_saved_30, r_X9_saved_33, r_X9_saved_34, r_X9_saved_35, r_X9_saved_36, r_X9_saved_37, r_X9_saved_38, r_X9_saved_39, r_X9_saved_42, r_X9_saved_45, r_X9_saved_48, r_X9_saved_49, r_X9_saved_50, r_X9_saved_53, ↓reduceIte, Option.isSome_some, Option.getD_some, rL_v, rL_n, cH_s, List.cons_append, List.nil_append, cat_i, cat_r, cat_n, ofN, g9_0 hm, g9_1 hm, g9_2 hm, g9_3 hm, g9_4 hm, g9_5 hm, g9_6 hm, g9_7 hm, g9_8 hm, g9_9 hm, g9_10 hm, g9_11 hm, g9_12 hm, g9_13 hm, g9_14 hm, g9_15 hm, g9_16 hm, g9_17 hm, g9_18 hm, g9_19 hm, g9_20 hm, g9_21 hm, g9_22 hm, g9_23 hm, g9_24 hm, g9_25 hm, g9_26 hm, g9_27 hm, g9_28 hm, g9_29 hm, g9_30 hm, g9_31 hm, g9_32 hm, g9_33 hm, g9_34 hm, g9_35 hm, g9_36 hm, g9_37 hm, g9_38 hm, g9_39 hm, ro9 hm, g9_0 hm', g9_1 hm', g9_2 hm', g9_3 hm', g9_4 hm', g9_5 hm', g9_6 hm', g9_7 hm', g9_8 hm', g9_9 hm', g9_10 hm', g9_11 hm', g9_12 hm', g9_13 hm', g9_14 hm', g9_15 hm', g9_16 hm', g9_17 hm', g9_18 hm', g9_19 hm', g9_20 hm', g9_21 hm', g9_22 hm', g9_23 hm', g9_24 hm', g9_25 hm', g9_26 hm', g9_27 hm', g9_28 hm', g9_29 hm', g9_30 hm', g9_31 hm', g9_32 hm', g9_33 hm', g9_34 hm', g9_35 hm', g9_36 hm', g9_37 hm', g9_38 hm', g9_39 hm', ro9 hm', c_in, ite_bI, hz, hy, and_self, cb, c_goCost hI hr' hWA hbg, e1, lN_mul, c_mAll hS hr', c_share (h := h') (a := cst (Wt S (S 12 0)) (S 0 0) (S 0 1) (bGo S) 0 * d) (b := Ch S (S 12 0) * 8) (show _ < _ by omega) (by omega) (by omega) (show q < 2 by omega)]
    · have hy2 : ¬ (y = nI 0 ∨ y = nI 1) := fun e => hy (in01.mpr e)
      refine OpV.read (r := .long (-1000000002)) hI (fun h hr => ?_) (fun h hr => ?_)
      · show Run M_X8_saved 0 [.ref 1, .int z, .int y] [] h = _
        simp only [r_X8_saved_0, r_X8_saved_1, r_X8_saved_2, r_X8_saved_4, r_X8_saved_7, r_X8_saved_10, r_X8_saved_11, r_X8_saved_14, r_X8_saved_17, r_X8_saved_20, ↓reduceIte, Option.isSome_some, Option.getD_some, rL_v, rL_n, cH_s, List.cons_append, List.nil_append, cat_i, cat_r, cat_n, ofN, c_within, c_isSide, ite_bI, hz, and_self, hy2]
      · show Run M_X9_saved 0 [.ref 88, .int z, .int y, .null] [] h = _
        simp only [r_X9_saved_0, r_X9_saved_1, r_X9_saved_2, r_X9_saved_4, r_X9_saved_7, r_X9_saved_10, r_X9_saved_11, r_X9_saved_12, r_X9_saved_13, r_X9_saved_16, r_X9_saved_19, r_X9_saved_22, ↓reduceIte, Option.isSome_some, Option.getD_some, rL_v, rL_n, cH_s, List.cons_append, List.nil_append, cat_i, cat_r, cat_n, ofN, c_in, ite_bI, hz, hy, and_self]
  · refine OpV.read (r := .long (-1000000002)) hI (fun h hr => ?_) (fun h hr => ?_)
    · show Run M_X8_saved 0 [.ref 1, .int z, .int y] [] h = _
      simp only [r_X8_saved_0, r_X8_saved_1, r_X8_saved_2, r_X8_saved_4, r_X8_saved_7, r_X8_saved_10, r_X8_saved_11, r_X8_saved_14, r_X8_saved_17, r_X8_saved_20, ↓reduceIte, Option.isSome_some, Option.getD_some, rL_v, rL_n, cH_s, List.cons_append, List.nil_append, cat_i, cat_r, cat_n, ofN, c_within, ite_bI, hz]
    · show Run M_X9_saved 0 [.ref 88, .int z, .int y, .null] [] h = _
      simp only [r_X9_saved_0, r_X9_saved_1, r_X9_saved_2, r_X9_saved_4, r_X9_saved_7, r_X9_saved_10, r_X9_saved_11, r_X9_saved_12, r_X9_saved_13, r_X9_saved_16, r_X9_saved_19, r_X9_saved_22, ↓reduceIte, Option.isSome_some, Option.getD_some, rL_v, rL_n, cH_s, List.cons_append, List.nil_append, cat_i, cat_r, cat_n, ofN, c_in, ite_bI, hz]
