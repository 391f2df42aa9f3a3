/-! ===== bestWay ===== -/
theorem sp_le {S : SS} (hI : Inv S) (b l : Nat) : sp S b l ≤ 30 := by
  have := mxH_le hI b l (S 12 1) (Nat.le_refl _)
  unfold sp
  split <;> omega
theorem op_bestWay {S : SS} (hI : Inv S) (y : Int32) : OpV M_X8_bestWay M_X9_bestWay [.int y] S := by
  have h5 := hI.2.1.1
  have h2 := two_le (show S 12 1 ≤ 7 by omega)
  have hpos : 1 ≤ 2 ^ S 12 1 := Nat.one_le_two_pow
  by_cases hy : nI 0 ≤ y ∧ y ≤ nI 1
  · obtain ⟨q, hq, rfl⟩ := rng (by decide) hy
    have f0 : ¬ nI 1 = nI 0 := by decide
    have f1 : ¬ (1 : Nat) = 0 := by decide
    refine OpV.read (r := .int (nI (if q = 0 then am (fun s => sp S s 0) (2 ^ S 12 1 - 1) else sp S (am (fun s => sp S s 0) (2 ^ S 12 1 - 1)) 0))) hI (fun h hr => ?_) (fun h hr => ?_)
    · obtain ⟨o, h0, h1, -, hH, -⟩ := hr
      have hH1 := hH.1
      have L : ∀ k i X, i + k = 2 ^ S 12 1 - 1 → Run M_X8_bestWay 27 [.ref 1, .int (nI q), .int (nI (am (fun s => sp S s 0) i)), .int (nI (sp S (am (fun s => sp S s 0) i) 0)), .int (nI (i + 1)), X] [] h = some (h, some (.int (nI (if q = 0 then am (fun s => sp S s 0) (2 ^ S 12 1 - 1) else sp S (am (fun s => sp S s 0) (2 ^ S 12 1 - 1)) 0)))) := by
        intro k
        induction k with
        | zero =>
          intro i X hi
          have e : i = 2 ^ S 12 1 - 1 := by omega
          subst e
          have q1 : nI (2 ^ S 12 1) - nI 1 < nI (2 ^ S 12 1 - 1 + 1) := by rw [nI_s hpos, nI_lt' (by omega) (by omega)]; omega
          rcases (show q = 0 ∨ q = 1 by omega) with rfl | rfl <;> simp only [r_X8_bestWay_27, r_X8_bestWay_29, r_X8_bestWay_30, r_X8_bestWay_33, r_X8_bestWay_36, r_X8_bestWay_69, r_X8_bestWay_70, r_X8_bestWay_73, r_X8_bestWay_74, r_X8_bestWay_77, r_X8_bestWay_78, ↓reduceIte, Option.isSome_some, Option.getD_some, rL_v, rL_n, cH_s, List.cons_append, List.nil_append, cat_i, cat_r, cat_n, ofN, g8_0 h1, g8_1 h1, g8_2 h1, g8_3 h1, g8_4 h1, g8_5 h1, g8_6 h1, g8_7 h1, g8_8 h1, ro8 h1, ro4 hH1, c_everyPlayer hH1 (show S 12 1 ≤ 7 by omega), q1, f0, f1]
        | succ k ih =>
          intro i X hi
          have q1 : ¬ nI (2 ^ S 12 1) - nI 1 < nI (i + 1) := by rw [nI_s hpos, nI_lt' (by omega) (by omega)]; omega
          have l1 := sp_le hI (i + 1) 0
          have l2 := sp_le hI (am (fun s => sp S s 0) i) 0
          have I := fun X => ih (i + 1) X (by omega)
          have hs : am (fun s => sp S s 0) (i + 1) = if sp S (i + 1) 0 < sp S (am (fun s => sp S s 0) i) 0 then i + 1 else am (fun s => sp S s 0) i := rfl
          rw [r_X8_bestWay_27]
          simp only [r_X8_bestWay_29, r_X8_bestWay_30, r_X8_bestWay_33, r_X8_bestWay_36, r_X8_bestWay_39, r_X8_bestWay_40, r_X8_bestWay_43, r_X8_bestWay_45, r_X8_bestWay_46, r_X8_bestWay_49, r_X8_bestWay_51, r_X8_bestWay_53, r_X8_bestWay_54, r_X8_bestWay_57, r_X8_bestWay_59, r_X8_bestWay_60, r_X8_bestWay_62, r_X8_bestWay_63, r_X8_bestWay_66, ↓reduceIte, Option.isSome_some, Option.getD_some, rL_v, rL_n, cH_s, List.cons_append, List.nil_append, cat_i, cat_r, cat_n, ofN, g8_0 h1, g8_1 h1, g8_2 h1, g8_3 h1, g8_4 h1, g8_5 h1, g8_6 h1, g8_7 h1, g8_8 h1, ro8 h1, ro4 hH1, c_everyPlayer hH1 (show S 12 1 ≤ 7 by omega), q1, c_lagSpread hI hH (show i + 1 < 2147483648 by omega) (show 0 < 2147483648 by decide), nI_le' (show sp S (am (fun s => sp S s 0) i) 0 < 2147483648 by omega) (show sp S (i + 1) 0 < 2147483648 by omega), nI_add]
          by_cases a : sp S (i + 1) 0 < sp S (am (fun s => sp S s 0) i) 0
          · rw [if_pos a] at hs
            rw [hs] at I
            rw [if_neg (by omega)]; exact I _
          · rw [if_neg a] at hs
            rw [hs] at I
            rw [if_pos (by omega)]; exact I _
      show Run M_X8_bestWay 0 [.ref 1, .int (nI q), .null, .null, .null, .null] [] h = _
      simp only [r_X8_bestWay_0, r_X8_bestWay_1, r_X8_bestWay_2, r_X8_bestWay_3, r_X8_bestWay_6, r_X8_bestWay_9, r_X8_bestWay_11, r_X8_bestWay_12, r_X8_bestWay_13, r_X8_bestWay_14, r_X8_bestWay_15, r_X8_bestWay_18, r_X8_bestWay_19, r_X8_bestWay_20, r_X8_bestWay_23, r_X8_bestWay_24, r_X8_bestWay_25, ↓reduceIte, Option.isSome_some, Option.getD_some, rL_v, rL_n, cH_s, List.cons_append, List.nil_append, cat_i, cat_r, cat_n, ofN, g8_0 h1, g8_1 h1, g8_2 h1, g8_3 h1, g8_4 h1, g8_5 h1, g8_6 h1, g8_7 h1, g8_8 h1, ro8 h1, ro4 hH1, c_within, ite_bI, hy, and_self, c_lagSpread hI hH (show 0 < 2147483648 by decide) (show 0 < 2147483648 by decide)]
      exact L (2 ^ S 12 1 - 1) 0 _ (by omega)
    · obtain ⟨⟨_, _, _, _, _, _, _, _, _, _, _, hm⟩, hA, -⟩ := id hr
      have L : ∀ k i, i + k = 2 ^ S 12 1 - 1 → Run M_X9_bestWay 16 [.ref 88, .int (nI q), .int (nI (am (fun s => sp S s 0) i)), .int (nI (i + 1))] [] h = some (h, some (.int (nI (if q = 0 then am (fun s => sp S s 0) (2 ^ S 12 1 - 1) else sp S (am (fun s => sp S s 0) (2 ^ S 12 1 - 1)) 0)))) := by
        intro k
        induction k with
        | zero =>
          intro i hi
          have e : i = 2 ^ S 12 1 - 1 := by omega
          subst e
          have q1 : nI (2 ^ S 12 1) ≤ nI (2 ^ S 12 1 - 1 + 1) := by rw [nI_le' (by omega) (by omega)]; omega
          have al := am_le (fun s => sp S s 0) (2 ^ S 12 1 - 1)
          rcases (show q = 0 ∨ q = 1 by omega) with rfl | rfl <;> simp only [r_X9_bestWay_16, r_X9_bestWay_17, r_X9_bestWay_18, r_X9_bestWay_19, r_X9_bestWay_22, r_X9_bestWay_23, r_X9_bestWay_53, r_X9_bestWay_54, r_X9_bestWay_57, r_X9_bestWay_58, r_X9_bestWay_61, r_X9_bestWay_62, r_X9_bestWay_63, r_X9_bestWay_64, r_X9_bestWay_67, ↓reduceIte, Option.isSome_some, Option.getD_some, rL_v, rL_n, cH_s, List.cons_append, List.nil_append, cat_i, cat_r, cat_n, ofN, g9_0 hm, g9_1 hm, g9_2 hm, g9_3 hm, g9_4 hm, g9_5 hm, g9_6 hm, g9_7 hm, g9_8 hm, g9_9 hm, g9_10 hm, g9_11 hm, g9_12 hm, g9_13 hm, g9_14 hm, g9_15 hm, g9_16 hm, g9_17 hm, g9_18 hm, g9_19 hm, g9_20 hm, g9_21 hm, g9_22 hm, g9_23 hm, g9_24 hm, g9_25 hm, g9_26 hm, g9_27 hm, g9_28 hm, g9_29 hm, g9_30 hm, g9_31 hm, g9_32 hm, g9_33 hm, g9_34 hm, g9_35 hm, g9_36 hm, g9_37 hm, g9_38 hm, g9_39 hm, ro9 hm, shl1 (show S 12 1 ≤ 7 by omega), q1, f0, f1, c_apartBy hI hr (show am (fun s => sp S s 0) (2 ^ S 12 1 - 1) < 2147483648 by omega) (show 0 < 2147483648 by decide)]
        | succ k ih =>
          intro i hi
          have q1 : ¬ nI (2 ^ S 12 1) ≤ nI (i + 1) := by rw [nI_le' (by omega) (by omega)]; omega
          have l1 := sp_le hI (i + 1) 0
          have l2 := sp_le hI (am (fun s => sp S s 0) i) 0
          have al := am_le (fun s => sp S s 0) i
          have I := ih (i + 1) (by omega)
          have hs : am (fun s => sp S s 0) (i + 1) = if sp S (i + 1) 0 < sp S (am (fun s => sp S s 0) i) 0 then i + 1 else am (fun s => sp S s 0) i := rfl
          rw [r_X9_bestWay_16]
          simp only [r_X9_bestWay_17, r_X9_bestWay_18, r_X9_bestWay_19, r_X9_bestWay_22, r_X9_bestWay_23, r_X9_bestWay_26, r_X9_bestWay_27, r_X9_bestWay_28, r_X9_bestWay_29, r_X9_bestWay_32, r_X9_bestWay_33, r_X9_bestWay_34, r_X9_bestWay_35, r_X9_bestWay_38, r_X9_bestWay_41, r_X9_bestWay_42, r_X9_bestWay_45, r_X9_bestWay_46, r_X9_bestWay_47, r_X9_bestWay_50, ↓reduceIte, Option.isSome_some, Option.getD_some, rL_v, rL_n, cH_s, List.cons_append, List.nil_append, cat_i, cat_r, cat_n, ofN, g9_0 hm, g9_1 hm, g9_2 hm, g9_3 hm, g9_4 hm, g9_5 hm, g9_6 hm, g9_7 hm, g9_8 hm, g9_9 hm, g9_10 hm, g9_11 hm, g9_12 hm, g9_13 hm, g9_14 hm, g9_15 hm, g9_16 hm, g9_17 hm, g9_18 hm, g9_19 hm, g9_20 hm, g9_21 hm, g9_22 hm, g9_23 hm, g9_24 hm, g9_25 hm, g9_26 hm, g9_27 hm, g9_28 hm, g9_29 hm, g9_30 hm, g9_31 hm, g9_32 hm, g9_33 hm, g9_34 hm, g9_35 hm, g9_36 hm, g9_37 hm, g9_38 hm, g9_39 hm, ro9 hm, shl1 (show S 12 1 ≤ 7 by omega), q1, c_apartBy hI hr (show i + 1 < 2147483648 by omega) (show 0 < 2147483648 by decide), c_apartBy hI hr (show am (fun s => sp S s 0) i < 2147483648 by omega) (show 0 < 2147483648 by decide), nI_le' (show sp S (am (fun s => sp S s 0) i) 0 < 2147483648 by omega) (show sp S (i + 1) 0 < 2147483648 by omega), nI_add]
          by_cases a : sp S (i + 1) 0 < sp S (am (fun s => sp S s 0) i) 0
          · rw [if_pos a] at hs
            rw [hs] at I
            rw [if_neg (by omega)]; exact I
          · rw [if_neg a] at hs
            rw [hs] at I
            rw [if_pos (by omega)]; exact I
      show Run M_X9_bestWay 0 [.ref 88, .int (nI q), .null, .null] [] h = _
      simp only [r_X9_bestWay_0, r_X9_bestWay_1, r_X9_bestWay_2, r_X9_bestWay_3, r_X9_bestWay_6, r_X9_bestWay_9, r_X9_bestWay_11, r_X9_bestWay_12, r_X9_bestWay_13, r_X9_bestWay_14, r_X9_bestWay_15, ↓reduceIte, Option.isSome_some, Option.getD_some, rL_v, rL_n, cH_s, List.cons_append, List.nil_append, cat_i, cat_r, cat_n, ofN, c_in, ite_bI, hy, and_self]
      exact L (2 ^ S 12 1 - 1) 0 (by omega)
  · refine OpV.read (r := .int (-1000000002)) hI (fun h hr => ?_) (fun h hr => ?_)
    · show Run M_X8_bestWay 0 [.ref 1, .int y, .null, .null, .null, .null] [] h = _
      simp only [r_X8_bestWay_0, r_X8_bestWay_1, r_X8_bestWay_2, r_X8_bestWay_3, r_X8_bestWay_6, r_X8_bestWay_9, r_X8_bestWay_11, ↓reduceIte, Option.isSome_some, Option.getD_some, rL_v, rL_n, cH_s, List.cons_append, List.nil_append, cat_i, cat_r, cat_n, ofN, c_within, ite_bI, hy]
    · show Run M_X9_bestWay 0 [.ref 88, .int y, .null, .null] [] h = _
      simp only [r_X9_bestWay_0, r_X9_bestWay_1, r_X9_bestWay_2, r_X9_bestWay_3, r_X9_bestWay_6, r_X9_bestWay_9, r_X9_bestWay_11, ↓reduceIte, Option.isSome_some, Option.getD_some, rL_v, rL_n, cH_s, List.cons_append, List.nil_append, cat_i, cat_r, cat_n, ofN, c_in, ite_bI, hy]
