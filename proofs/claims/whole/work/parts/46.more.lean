/-! ===== claps, ahead ===== -/
def clA (S : SS) (c : Nat) : Nat → Nat
  | 0 => 1
  | p + 1 => if S 3 p = 2 then clA S c p * (S 4 p * 8 + (8 - S 4 p) * (8 - c)) else clA S c p
def clB (S : SS) : Nat → Nat
  | 0 => 1
  | p + 1 => if S 3 p = 2 then clB S p * 64 else clB S p
theorem cl_le {S : SS} (hS : HOk S) (c : Nat) : ∀ k, k ≤ S 12 0 → clA S c k ≤ 64 ^ k ∧ clB S k ≤ 64 ^ k ∧ 1 ≤ clB S k
  | 0, _ => ⟨Nat.le_refl _, Nat.le_refl _, Nat.le_refl _⟩
  | k + 1, hk => by
    obtain ⟨h1, h2, h3⟩ := cl_le hS c k (by omega)
    obtain ⟨k1, k2, -⟩ := hS.2 k (by omega)
    have h4 : (8 - S 4 k) * (8 - c) ≤ (8 - S 4 k) * 8 := Nat.mul_le_mul_left _ (by omega)
    have h5 : S 4 k * 8 + (8 - S 4 k) * (8 - c) ≤ 64 := by omega
    have h6 : clA S c k * (S 4 k * 8 + (8 - S 4 k) * (8 - c)) ≤ 64 ^ k * 64 := Nat.mul_le_mul h1 h5
    simp only [clA, clB, Nat.pow_succ]
    split
    · exact ⟨h6, Nat.mul_le_mul_right _ h2, by omega⟩
    · exact ⟨by omega, by omega, h3⟩
theorem op_claps {S : SS} (hI : Inv S) (z y : Int32) : OpV M_X8_claps M_X9_claps [.int z, .int y] S := by
  have hS := hI.1
  have hn := hS.1
  by_cases hz : nI 0 ≤ z ∧ z ≤ nI 8
  · by_cases hy : nI 0 ≤ y ∧ y ≤ nI 1
    · obtain ⟨c, hc, rfl⟩ := rng (by decide) hz
      obtain ⟨q, hq, rfl⟩ := rng (by decide) hy
      have hy2 := low01 hq
      obtain ⟨l1, l2, l3⟩ := cl_le hS c (S 12 0) (Nat.le_refl _)
      have l4 : 64 ^ S 12 0 ≤ 64 ^ 7 := Nat.pow_le_pow_right (by decide) hn
      have l5 : 64 ^ 7 = 4398046511104 := by decide
      rw [l5] at l4
      refine ⟨.long (lN (low (clA S c (S 12 0)) (clB S (S 12 0)) q)), S, hI, fun h ⟨o, hr⟩ => ⟨h, ?_, ⟨o, hr⟩, frC.rf⟩, fun h hr => ⟨h, ?_, hr, frM.rf⟩⟩
      · obtain ⟨h0, h1, -, ⟨hH, ⟨fr, hr1, hr2⟩, -, -, -, -, hP⟩, -, hE, -⟩ := hr
        have L : ∀ k i X, i + k = S 12 0 → Run M_X8_claps 29 [.ref 1, .int (nI c), .int (nI q), .long (lN (clA S c i)), .null, .long (lN (clB S i)), .null, .int (nI i), X] [] h = some (h, some (.long (lN (low (clA S c (S 12 0)) (clB S (S 12 0)) q)))) := by
          intro k
          induction k with
          | zero =>
            intro i X hi
            have e : i = S 12 0 := by omega
            subst e
            simp only [r_X8_claps_29, r_X8_claps_31, r_X8_claps_32, r_X8_claps_35, r_X8_claps_38, r_X8_claps_41, r_X8_claps_42, r_X8_claps_45, r_X8_claps_48, r_X8_claps_50, r_X8_claps_51, r_X8_claps_53, r_X8_claps_55, r_X8_claps_58, r_X8_claps_59, r_X8_claps_62, r_X8_claps_63, r_X8_claps_65, r_X8_claps_68, r_X8_claps_70, r_X8_claps_71, r_X8_claps_73, r_X8_claps_76, r_X8_claps_78, r_X8_claps_79, r_X8_claps_80, r_X8_claps_81, r_X8_claps_82, r_X8_claps_83, r_X8_claps_84, r_X8_claps_85, r_X8_claps_87, r_X8_claps_90, r_X8_claps_91, r_X8_claps_93, r_X8_claps_96, r_X8_claps_99, r_X8_claps_100, r_X8_claps_102, r_X8_claps_103, r_X8_claps_106, ↓reduceIte, Option.isSome_some, Option.getD_some, rL_v, rL_n, cH_s, List.cons_append, List.nil_append, cat_i, cat_r, cat_n, ofN, g8_0 h1, g8_1 h1, g8_2 h1, g8_3 h1, g8_4 h1, g8_5 h1, g8_6 h1, g8_7 h1, g8_8 h1, ro8 h1, g4_0 hH, g4_1 hH, g4_2 hH, g4_3 hH, g4_4 hH, g4_5 hH, g4_6 hH, ro4 hH, Int32.le_refl, c_inLowest (h := h) (a := clA S c (S 12 0)) (b := clB S (S 12 0)) (by omega) (by omega) (by omega) (show q < 2 by omega)]
          | succ k ih =>
            intro i X hi
            have hi2 : i < S 12 0 := by omega
            obtain ⟨k1, k2, k3, k4, k5, k6⟩ := hS.2 i hi2
            obtain ⟨hp1, gl, hl, hgl⟩ := hP i hi2
            have q0 : ¬ nI (S 12 0) ≤ nI i := by rw [nI_le' (by omega) (by omega)]; omega
            have I := fun X => ih (i + 1) X (by omega)
            simp only [clA, clB] at I
            rw [r_X8_claps_29]
            by_cases h2 : S 3 i = 2
            · rw [if_pos h2, if_pos h2] at I
              have h4 : (8 - S 4 i) * (8 - c) ≤ (8 - S 4 i) * 8 := Nat.mul_le_mul_left _ (by omega)
              have e1 : (nI (S 4 i * 8 + (8 - S 4 i) * (8 - c))).toInt64 = lN (S 4 i * 8 + (8 - S 4 i) * (8 - c)) := nI_l (by omega)
              simp only [r_X8_claps_31, r_X8_claps_32, r_X8_claps_35, r_X8_claps_38, r_X8_claps_41, r_X8_claps_42, r_X8_claps_45, r_X8_claps_48, r_X8_claps_50, r_X8_claps_51, r_X8_claps_53, r_X8_claps_55, r_X8_claps_58, r_X8_claps_59, r_X8_claps_62, r_X8_claps_63, r_X8_claps_65, r_X8_claps_68, r_X8_claps_70, r_X8_claps_71, r_X8_claps_73, r_X8_claps_76, r_X8_claps_78, r_X8_claps_79, r_X8_claps_80, r_X8_claps_81, r_X8_claps_82, r_X8_claps_83, r_X8_claps_84, r_X8_claps_85, r_X8_claps_87, r_X8_claps_90, r_X8_claps_91, r_X8_claps_93, r_X8_claps_96, ↓reduceIte, Option.isSome_some, Option.getD_some, rL_v, rL_n, cH_s, List.cons_append, List.nil_append, cat_i, cat_r, cat_n, ofN, g8_0 h1, g8_1 h1, g8_2 h1, g8_3 h1, g8_4 h1, g8_5 h1, g8_6 h1, g8_7 h1, g8_8 h1, ro8 h1, g4_0 hH, g4_1 hH, g4_2 hH, g4_3 hH, g4_4 hH, g4_5 hH, g4_6 hH, ro4 hH, g6_0 hp1, g6_1 hp1, g6_2 hp1, g6_3 hp1, g6_4 hp1, ro6 hp1, q0, gR_nI hr1 (Or.inr (Or.inl rfl)) (by decide) (by omega) (hr2 i (by omega)) (show i < 7 by omega), h2, c_playedOf8 hp1 (show S 4 i ≤ 8 by omega), nI_s hc, nI_m, nI_add, e1, lN_mul]
              exact I _
            · rw [if_neg h2, if_neg h2] at I
              simp only [r_X8_claps_31, r_X8_claps_32, r_X8_claps_35, r_X8_claps_38, r_X8_claps_41, r_X8_claps_42, r_X8_claps_45, r_X8_claps_48, r_X8_claps_50, r_X8_claps_51, r_X8_claps_53, r_X8_claps_55, r_X8_claps_58, r_X8_claps_59, r_X8_claps_62, r_X8_claps_63, r_X8_claps_65, r_X8_claps_68, r_X8_claps_70, r_X8_claps_71, r_X8_claps_73, r_X8_claps_76, r_X8_claps_78, r_X8_claps_79, r_X8_claps_80, r_X8_claps_81, r_X8_claps_82, r_X8_claps_83, r_X8_claps_84, r_X8_claps_85, r_X8_claps_87, r_X8_claps_90, r_X8_claps_91, r_X8_claps_93, r_X8_claps_96, ↓reduceIte, Option.isSome_some, Option.getD_some, rL_v, rL_n, cH_s, List.cons_append, List.nil_append, cat_i, cat_r, cat_n, ofN, g8_0 h1, g8_1 h1, g8_2 h1, g8_3 h1, g8_4 h1, g8_5 h1, g8_6 h1, g8_7 h1, g8_8 h1, ro8 h1, g4_0 hH, g4_1 hH, g4_2 hH, g4_3 hH, g4_4 hH, g4_5 hH, g4_6 hH, ro4 hH, g6_0 hp1, g6_1 hp1, g6_2 hp1, g6_3 hp1, g6_4 hp1, ro6 hp1, q0, gR_nI hr1 (Or.inr (Or.inl rfl)) (by decide) (by omega) (hr2 i (by omega)) (show i < 7 by omega), nI_inj (show S 3 i < 2147483648 by omega) (show 2 < 2147483648 by decide), h2, nI_add]
              exact I _
        show Run M_X8_claps 0 [.ref 1, .int (nI c), .int (nI q), .null, .null, .null, .null, .null, .null] [] h = _
        simp only [r_X8_claps_0, r_X8_claps_1, r_X8_claps_2, r_X8_claps_4, r_X8_claps_7, r_X8_claps_10, r_X8_claps_11, r_X8_claps_14, r_X8_claps_17, r_X8_claps_20, r_X8_claps_21, r_X8_claps_22, r_X8_claps_23, r_X8_claps_24, r_X8_claps_26, r_X8_claps_27, ↓reduceIte, Option.isSome_some, Option.getD_some, rL_v, rL_n, cH_s, List.cons_append, List.nil_append, cat_i, cat_r, cat_n, ofN, c_within, c_isSide, ite_bI, hz, hy2, and_self]
        exact L (S 12 0) 0 _ (by omega)
      · obtain ⟨⟨_, _, _, _, _, _, _, _, _, _, _, hm⟩, hA, -⟩ := id hr
        have L : ∀ k i, i + k = S 12 0 → Run M_X9_claps 31 [.ref 88, .int (nI c), .int (nI q), .long (lN (clA S c i)), .null, .long (lN (clB S i)), .null, .int (nI i)] [] h = some (h, some (.long (lN (low (clA S c (S 12 0)) (clB S (S 12 0)) q)))) := by
          intro k
          induction k with
          | zero =>
            intro i hi
            have e : i = S 12 0 := by omega
            subst e
            simp only [r_X9_claps_31, r_X9_claps_33, r_X9_claps_34, r_X9_claps_37, r_X9_claps_40, r_X9_claps_41, r_X9_claps_44, r_X9_claps_46, r_X9_claps_47, r_X9_claps_48, r_X9_claps_51, r_X9_claps_52, r_X9_claps_54, r_X9_claps_55, r_X9_claps_58, r_X9_claps_60, r_X9_claps_61, r_X9_claps_62, r_X9_claps_64, r_X9_claps_65, r_X9_claps_68, r_X9_claps_70, r_X9_claps_71, r_X9_claps_72, r_X9_claps_74, r_X9_claps_75, r_X9_claps_76, r_X9_claps_77, r_X9_claps_78, r_X9_claps_79, r_X9_claps_80, r_X9_claps_81, r_X9_claps_83, r_X9_claps_86, r_X9_claps_87, r_X9_claps_89, r_X9_claps_92, r_X9_claps_95, r_X9_claps_96, r_X9_claps_98, r_X9_claps_99, r_X9_claps_102, ↓reduceIte, Option.isSome_some, Option.getD_some, rL_v, rL_n, cH_s, List.cons_append, List.nil_append, cat_i, cat_r, cat_n, ofN, g9_0 hm, g9_1 hm, g9_2 hm, g9_3 hm, g9_4 hm, g9_5 hm, g9_6 hm, g9_7 hm, g9_8 hm, g9_9 hm, g9_10 hm, g9_11 hm, g9_12 hm, g9_13 hm, g9_14 hm, g9_15 hm, g9_16 hm, g9_17 hm, g9_18 hm, g9_19 hm, g9_20 hm, g9_21 hm, g9_22 hm, g9_23 hm, g9_24 hm, g9_25 hm, g9_26 hm, g9_27 hm, g9_28 hm, g9_29 hm, g9_30 hm, g9_31 hm, g9_32 hm, g9_33 hm, g9_34 hm, g9_35 hm, g9_36 hm, g9_37 hm, g9_38 hm, g9_39 hm, ro9 hm, Int32.le_refl, c_share (h := h) (a := clA S c (S 12 0)) (b := clB S (S 12 0)) (by omega) (by omega) (by omega) (show q < 2 by omega)]
          | succ k ih =>
            intro i hi
            have hi2 : i < S 12 0 := by omega
            obtain ⟨k1, k2, k3, k4, k5, k6⟩ := hS.2 i hi2
            have q0 : ¬ nI (S 12 0) ≤ nI i := by rw [nI_le' (by omega) (by omega)]; omega
            have I := ih (i + 1) (by omega)
            simp only [clA, clB] at I
            rw [r_X9_claps_31]
            by_cases h2 : S 3 i = 2
            · rw [if_pos h2, if_pos h2, Nat.mul_comm (S 4 i)] at I
              have h4 : (8 - S 4 i) * (8 - c) ≤ (8 - S 4 i) * 8 := Nat.mul_le_mul_left _ (by omega)
              have e1 : (nI (8 * S 4 i + (8 - S 4 i) * (8 - c))).toInt64 = lN (8 * S 4 i + (8 - S 4 i) * (8 - c)) := nI_l (by omega)
              simp only [r_X9_claps_33, r_X9_claps_34, r_X9_claps_37, r_X9_claps_40, r_X9_claps_41, r_X9_claps_44, r_X9_claps_46, r_X9_claps_47, r_X9_claps_48, r_X9_claps_51, r_X9_claps_52, r_X9_claps_54, r_X9_claps_55, r_X9_claps_58, r_X9_claps_60, r_X9_claps_61, r_X9_claps_62, r_X9_claps_64, r_X9_claps_65, r_X9_claps_68, r_X9_claps_70, r_X9_claps_71, r_X9_claps_72, r_X9_claps_74, r_X9_claps_75, r_X9_claps_76, r_X9_claps_77, r_X9_claps_78, r_X9_claps_79, r_X9_claps_80, r_X9_claps_81, r_X9_claps_83, r_X9_claps_86, r_X9_claps_87, r_X9_claps_89, r_X9_claps_92, ↓reduceIte, Option.isSome_some, Option.getD_some, rL_v, rL_n, cH_s, List.cons_append, List.nil_append, cat_i, cat_r, cat_n, ofN, g9_0 hm, g9_1 hm, g9_2 hm, g9_3 hm, g9_4 hm, g9_5 hm, g9_6 hm, g9_7 hm, g9_8 hm, g9_9 hm, g9_10 hm, g9_11 hm, g9_12 hm, g9_13 hm, g9_14 hm, g9_15 hm, g9_16 hm, g9_17 hm, g9_18 hm, g9_19 hm, g9_20 hm, g9_21 hm, g9_22 hm, g9_23 hm, g9_24 hm, g9_25 hm, g9_26 hm, g9_27 hm, g9_28 hm, g9_29 hm, g9_30 hm, g9_31 hm, g9_32 hm, g9_33 hm, g9_34 hm, g9_35 hm, g9_36 hm, g9_37 hm, g9_38 hm, g9_39 hm, ro9 hm, q0, gI_nI (hA 92 _ rfl) (by decide) (show i < 7 by omega), gI_nI (hA 93 _ rfl) (by decide) (show i < 7 by omega), h2, nI_s (show S 4 i ≤ 8 by omega), nI_s hc, nI_m, nI_add, e1, lN_mul]
              exact I
            · rw [if_neg h2, if_neg h2] at I
              simp only [r_X9_claps_33, r_X9_claps_34, r_X9_claps_37, r_X9_claps_40, r_X9_claps_41, r_X9_claps_44, r_X9_claps_46, r_X9_claps_47, r_X9_claps_48, r_X9_claps_51, r_X9_claps_52, r_X9_claps_54, r_X9_claps_55, r_X9_claps_58, r_X9_claps_60, r_X9_claps_61, r_X9_claps_62, r_X9_claps_64, r_X9_claps_65, r_X9_claps_68, r_X9_claps_70, r_X9_claps_71, r_X9_claps_72, r_X9_claps_74, r_X9_claps_75, r_X9_claps_76, r_X9_claps_77, r_X9_claps_78, r_X9_claps_79, r_X9_claps_80, r_X9_claps_81, r_X9_claps_83, r_X9_claps_86, r_X9_claps_87, r_X9_claps_89, r_X9_claps_92, ↓reduceIte, Option.isSome_some, Option.getD_some, rL_v, rL_n, cH_s, List.cons_append, List.nil_append, cat_i, cat_r, cat_n, ofN, g9_0 hm, g9_1 hm, g9_2 hm, g9_3 hm, g9_4 hm, g9_5 hm, g9_6 hm, g9_7 hm, g9_8 hm, g9_9 hm, g9_10 hm, g9_11 hm, g9_12 hm, g9_13 hm, g9_14 hm, g9_15 hm, g9_16 hm, g9_17 hm, g9_18 hm, g9_19 hm, g9_20 hm, g9_21 hm, g9_22 hm, g9_23 hm, g9_24 hm, g9_25 hm, g9_26 hm, g9_27 hm, g9_28 hm, g9_29 hm, g9_30 hm, g9_31 hm, g9_32 hm, g9_33 hm, g9_34 hm, g9_35 hm, g9_36 hm, g9_37 hm, g9_38 hm, g9_39 hm, ro9 hm, q0, gI_nI (hA 92 _ rfl) (by decide) (show i < 7 by omega), nI_inj (show S 3 i < 2147483648 by omega) (show 2 < 2147483648 by decide), h2, nI_add]
              exact I
        show Run M_X9_claps 0 [.ref 88, .int (nI c), .int (nI q), .null, .null, .null, .null, .null] [] h = _
        simp only [r_X9_claps_0, r_X9_claps_1, r_X9_claps_2, r_X9_claps_4, r_X9_claps_7, r_X9_claps_10, r_X9_claps_11, r_X9_claps_12, r_X9_claps_13, r_X9_claps_16, r_X9_claps_19, r_X9_claps_22, r_X9_claps_23, r_X9_claps_24, r_X9_claps_25, r_X9_claps_26, r_X9_claps_28, r_X9_claps_29, ↓reduceIte, Option.isSome_some, Option.getD_some, rL_v, rL_n, cH_s, List.cons_append, List.nil_append, cat_i, cat_r, cat_n, ofN, c_in, ite_bI, hz, hy, and_self]
        exact L (S 12 0) 0 (by omega)
    · have hy2 : ¬ (y = nI 0 ∨ y = nI 1) := fun e => hy (in01.mpr e)
      refine OpV.read (r := .long (-1000000002)) hI (fun h hr => ?_) (fun h hr => ?_)
      · show Run M_X8_claps 0 [.ref 1, .int z, .int y, .null, .null, .null, .null, .null, .null] [] h = _
        simp only [r_X8_claps_0, r_X8_claps_1, r_X8_claps_2, r_X8_claps_4, r_X8_claps_7, r_X8_claps_10, r_X8_claps_11, r_X8_claps_14, r_X8_claps_17, r_X8_claps_20, ↓reduceIte, Option.isSome_some, Option.getD_some, rL_v, rL_n, cH_s, List.cons_append, List.nil_append, cat_i, cat_r, cat_n, ofN, c_within, c_isSide, ite_bI, hz, and_self, hy2]
      · show Run M_X9_claps 0 [.ref 88, .int z, .int y, .null, .null, .null, .null, .null] [] h = _
        simp only [r_X9_claps_0, r_X9_claps_1, r_X9_claps_2, r_X9_claps_4, r_X9_claps_7, r_X9_claps_10, r_X9_claps_11, r_X9_claps_12, r_X9_claps_13, r_X9_claps_16, r_X9_claps_19, r_X9_claps_22, ↓reduceIte, Option.isSome_some, Option.getD_some, rL_v, rL_n, cH_s, List.cons_append, List.nil_append, cat_i, cat_r, cat_n, ofN, c_in, ite_bI, hz, hy, and_self]
  · refine OpV.read (r := .long (-1000000002)) hI (fun h hr => ?_) (fun h hr => ?_)
    · show Run M_X8_claps 0 [.ref 1, .int z, .int y, .null, .null, .null, .null, .null, .null] [] h = _
      simp only [r_X8_claps_0, r_X8_claps_1, r_X8_claps_2, r_X8_claps_4, r_X8_claps_7, r_X8_claps_10, r_X8_claps_11, r_X8_claps_14, r_X8_claps_17, r_X8_claps_20, ↓reduceIte, Option.isSome_some, Option.getD_some, rL_v, rL_n, cH_s, List.cons_append, List.nil_append, cat_i, cat_r, cat_n, ofN, c_within, ite_bI, hz]
    · show Run M_X9_claps 0 [.ref 88, .int z, .int y, .null, .null, .null, .null, .null] [] h = _
      simp only [r_X9_claps_0, r_X9_claps_1, r_X9_claps_2, r_X9_claps_4, r_X9_claps_7, r_X9_claps_10, r_X9_claps_11, r_X9_claps_12, r_X9_claps_13, r_X9_claps_16, r_X9_claps_19, r_X9_claps_22, ↓reduceIte, Option.isSome_some, Option.getD_some, rL_v, rL_n, cH_s, List.cons_append, List.nil_append, cat_i, cat_r, cat_n, ofN, c_in, ite_bI, hz]
abbrev ahN (S : SS) (t k : Nat) : Nat := sm (fun i => if S 10 (2 * i + 1) < t then 1 else 0) k
theorem op_ahead {S : SS} (hI : Inv S) (x : Int32) : OpV M_X8_ahead M_X9_ahead [.int x] S := by
  obtain ⟨n1, n2⟩ := hI.2.2.2.2.1
  by_cases hx : nI 0 ≤ x ∧ x ≤ nI 999
  · obtain ⟨t, ht, rfl⟩ := rng (by decide) hx
    refine OpV.read (r := .int (nI (ahN S t (S 12 4)))) hI (fun h hr => ?_) (fun h hr => ?_)
    · obtain ⟨o, h0, h1, -, -, -, -, -, ⟨e1, ⟨f1, e2, e3⟩, f2, e4, e5⟩, -⟩ := hr
      have C : Call M_X3_aheadOf h [.ref 32, .int (nI t)] = some (h, some (.int (nI (ahN S t (S 12 4))))) := by
        have L : ∀ k i, i + k = S 12 4 → Run M_X3_aheadOf 4 [.ref 32, .int (nI t), .int (nI (ahN S t i)), .int (nI i)] [] h = some (h, some (.int (nI (ahN S t (S 12 4))))) := by
          intro k
          induction k with
          | zero =>
            intro i hi
            have e : i = S 12 4 := by omega
            subst e
            simp only [r_X3_aheadOf_4, r_X3_aheadOf_5, r_X3_aheadOf_6, r_X3_aheadOf_9, r_X3_aheadOf_12, r_X3_aheadOf_13, r_X3_aheadOf_16, r_X3_aheadOf_17, r_X3_aheadOf_18, r_X3_aheadOf_19, r_X3_aheadOf_22, r_X3_aheadOf_25, r_X3_aheadOf_28, r_X3_aheadOf_31, r_X3_aheadOf_32, ↓reduceIte, Option.isSome_some, Option.getD_some, rL_v, rL_n, cH_s, List.cons_append, List.nil_append, cat_i, cat_r, cat_n, ofN, g3_0 e1, g3_1 e1, g3_2 e1, ro3 e1, Int32.le_refl]
          | succ k ih =>
            intro i hi
            have q0 : ¬ nI (S 12 4) ≤ nI i := by rw [nI_le' (by omega) (by omega)]; omega
            have n3 := n2 i (by omega)
            have I := ih (i + 1) (by omega)
            rw [show ahN S t (i + 1) = ahN S t i + (if S 10 (2 * i + 1) < t then 1 else 0) from rfl] at I
            rw [r_X3_aheadOf_4]
            by_cases h2 : S 10 (2 * i + 1) < t
            · rw [if_pos h2] at I
              simp only [r_X3_aheadOf_5, r_X3_aheadOf_6, r_X3_aheadOf_9, r_X3_aheadOf_12, r_X3_aheadOf_13, r_X3_aheadOf_16, r_X3_aheadOf_17, r_X3_aheadOf_18, r_X3_aheadOf_19, r_X3_aheadOf_22, r_X3_aheadOf_25, r_X3_aheadOf_28, ↓reduceIte, Option.isSome_some, Option.getD_some, rL_v, rL_n, cH_s, List.cons_append, List.nil_append, cat_i, cat_r, cat_n, ofN, g3_0 e1, g3_1 e1, g3_2 e1, ro3 e1, q0, gI_nI e4 (by decide) (show i < 12 by omega), e5 i (by omega), nI_le' (show t < 2147483648 by omega) (show S 10 (2 * i + 1) < 2147483648 by omega), show ¬ t ≤ S 10 (2 * i + 1) by omega, nI_add]
              exact I
            · rw [if_neg h2] at I
              simp only [r_X3_aheadOf_5, r_X3_aheadOf_6, r_X3_aheadOf_9, r_X3_aheadOf_12, r_X3_aheadOf_13, r_X3_aheadOf_16, r_X3_aheadOf_17, r_X3_aheadOf_18, r_X3_aheadOf_19, r_X3_aheadOf_22, r_X3_aheadOf_25, r_X3_aheadOf_28, ↓reduceIte, Option.isSome_some, Option.getD_some, rL_v, rL_n, cH_s, List.cons_append, List.nil_append, cat_i, cat_r, cat_n, ofN, g3_0 e1, g3_1 e1, g3_2 e1, ro3 e1, q0, gI_nI e4 (by decide) (show i < 12 by omega), e5 i (by omega), nI_le' (show t < 2147483648 by omega) (show S 10 (2 * i + 1) < 2147483648 by omega), show t ≤ S 10 (2 * i + 1) by omega, nI_add]
              exact I
        show Run M_X3_aheadOf 0 [.ref 32, .int (nI t), .null, .null] [] h = _
        simp only [r_X3_aheadOf_0, r_X3_aheadOf_1, r_X3_aheadOf_2, r_X3_aheadOf_3, ↓reduceIte, Option.isSome_some, Option.getD_some, rL_v, rL_n, cH_s, List.cons_append, List.nil_append, cat_i, cat_r, cat_n, ofN]
        exact L (S 12 4) 0 (by omega)
      show Run M_X8_ahead 0 [.ref 1, .int (nI t)] [] h = _
      simp only [r_X8_ahead_0, r_X8_ahead_1, r_X8_ahead_2, r_X8_ahead_5, r_X8_ahead_8, r_X8_ahead_11, r_X8_ahead_12, r_X8_ahead_15, r_X8_ahead_16, r_X8_ahead_19, r_X8_ahead_22, r_X8_ahead_24, ↓reduceIte, Option.isSome_some, Option.getD_some, rL_v, rL_n, cH_s, List.cons_append, List.nil_append, cat_i, cat_r, cat_n, ofN, g8_0 h1, g8_1 h1, g8_2 h1, g8_3 h1, g8_4 h1, g8_5 h1, g8_6 h1, g8_7 h1, g8_8 h1, ro8 h1, ro3 e1, c_within, ite_bI, hx, and_self, C]
    · obtain ⟨⟨_, _, _, _, _, _, _, _, _, _, _, hm⟩, hA, -⟩ := id hr
      have L : ∀ k i, i + k = S 12 4 → Run M_X9_ahead 18 [.ref 88, .int (nI t), .int (nI (ahN S t i)), .int (nI i)] [] h = some (h, some (.int (nI (ahN S t (S 12 4))))) := by
        intro k
        induction k with
        | zero =>
          intro i hi
          have e : i = S 12 4 := by omega
          subst e
          simp only [r_X9_ahead_18, r_X9_ahead_19, r_X9_ahead_20, r_X9_ahead_23, r_X9_ahead_26, r_X9_ahead_27, r_X9_ahead_28, r_X9_ahead_31, r_X9_ahead_32, r_X9_ahead_33, r_X9_ahead_34, r_X9_ahead_35, r_X9_ahead_36, r_X9_ahead_37, r_X9_ahead_38, r_X9_ahead_41, r_X9_ahead_42, r_X9_ahead_45, r_X9_ahead_46, r_X9_ahead_47, r_X9_ahead_48, r_X9_ahead_51, r_X9_ahead_54, r_X9_ahead_55, ↓reduceIte, Option.isSome_some, Option.getD_some, rL_v, rL_n, cH_s, List.cons_append, List.nil_append, cat_i, cat_r, cat_n, ofN, g9_0 hm, g9_1 hm, g9_2 hm, g9_3 hm, g9_4 hm, g9_5 hm, g9_6 hm, g9_7 hm, g9_8 hm, g9_9 hm, g9_10 hm, g9_11 hm, g9_12 hm, g9_13 hm, g9_14 hm, g9_15 hm, g9_16 hm, g9_17 hm, g9_18 hm, g9_19 hm, g9_20 hm, g9_21 hm, g9_22 hm, g9_23 hm, g9_24 hm, g9_25 hm, g9_26 hm, g9_27 hm, g9_28 hm, g9_29 hm, g9_30 hm, g9_31 hm, g9_32 hm, g9_33 hm, g9_34 hm, g9_35 hm, g9_36 hm, g9_37 hm, g9_38 hm, g9_39 hm, ro9 hm, Int32.le_refl]
        | succ k ih =>
          intro i hi
          have q0 : ¬ nI (S 12 4) ≤ nI i := by rw [nI_le' (by omega) (by omega)]; omega
          have n3 := n2 i (by omega)
          have I := ih (i + 1) (by omega)
          rw [show ahN S t (i + 1) = ahN S t i + (if S 10 (2 * i + 1) < t then 1 else 0) from rfl] at I
          rw [r_X9_ahead_18]
          by_cases h2 : S 10 (2 * i + 1) < t
          · rw [if_pos h2] at I
            simp only [r_X9_ahead_19, r_X9_ahead_20, r_X9_ahead_23, r_X9_ahead_26, r_X9_ahead_27, r_X9_ahead_28, r_X9_ahead_31, r_X9_ahead_32, r_X9_ahead_33, r_X9_ahead_34, r_X9_ahead_35, r_X9_ahead_36, r_X9_ahead_37, r_X9_ahead_38, r_X9_ahead_41, r_X9_ahead_42, r_X9_ahead_45, r_X9_ahead_46, r_X9_ahead_47, r_X9_ahead_48, r_X9_ahead_51, ↓reduceIte, Option.isSome_some, Option.getD_some, rL_v, rL_n, cH_s, List.cons_append, List.nil_append, cat_i, cat_r, cat_n, ofN, g9_0 hm, g9_1 hm, g9_2 hm, g9_3 hm, g9_4 hm, g9_5 hm, g9_6 hm, g9_7 hm, g9_8 hm, g9_9 hm, g9_10 hm, g9_11 hm, g9_12 hm, g9_13 hm, g9_14 hm, g9_15 hm, g9_16 hm, g9_17 hm, g9_18 hm, g9_19 hm, g9_20 hm, g9_21 hm, g9_22 hm, g9_23 hm, g9_24 hm, g9_25 hm, g9_26 hm, g9_27 hm, g9_28 hm, g9_29 hm, g9_30 hm, g9_31 hm, g9_32 hm, g9_33 hm, g9_34 hm, g9_35 hm, g9_36 hm, g9_37 hm, g9_38 hm, g9_39 hm, ro9 hm, q0, nI_m, nI_add, gI_nI (hA 109 _ rfl) (by decide) (show 2 * i + 1 < 24 by omega), nI_le' (show t < 2147483648 by omega) (show S 10 (2 * i + 1) < 2147483648 by omega), show ¬ t ≤ S 10 (2 * i + 1) by omega]
            exact I
          · rw [if_neg h2] at I
            simp only [r_X9_ahead_19, r_X9_ahead_20, r_X9_ahead_23, r_X9_ahead_26, r_X9_ahead_27, r_X9_ahead_28, r_X9_ahead_31, r_X9_ahead_32, r_X9_ahead_33, r_X9_ahead_34, r_X9_ahead_35, r_X9_ahead_36, r_X9_ahead_37, r_X9_ahead_38, r_X9_ahead_41, r_X9_ahead_42, r_X9_ahead_45, r_X9_ahead_46, r_X9_ahead_47, r_X9_ahead_48, r_X9_ahead_51, ↓reduceIte, Option.isSome_some, Option.getD_some, rL_v, rL_n, cH_s, List.cons_append, List.nil_append, cat_i, cat_r, cat_n, ofN, g9_0 hm, g9_1 hm, g9_2 hm, g9_3 hm, g9_4 hm, g9_5 hm, g9_6 hm, g9_7 hm, g9_8 hm, g9_9 hm, g9_10 hm, g9_11 hm, g9_12 hm, g9_13 hm, g9_14 hm, g9_15 hm, g9_16 hm, g9_17 hm, g9_18 hm, g9_19 hm, g9_20 hm, g9_21 hm, g9_22 hm, g9_23 hm, g9_24 hm, g9_25 hm, g9_26 hm, g9_27 hm, g9_28 hm, g9_29 hm, g9_30 hm, g9_31 hm, g9_32 hm, g9_33 hm, g9_34 hm, g9_35 hm, g9_36 hm, g9_37 hm, g9_38 hm, g9_39 hm, ro9 hm, q0, nI_m, nI_add, gI_nI (hA 109 _ rfl) (by decide) (show 2 * i + 1 < 24 by omega), nI_le' (show t < 2147483648 by omega) (show S 10 (2 * i + 1) < 2147483648 by omega), show t ≤ S 10 (2 * i + 1) by omega]
            exact I
      show Run M_X9_ahead 0 [.ref 88, .int (nI t), .null, .null] [] h = _
      simp only [r_X9_ahead_0, r_X9_ahead_1, r_X9_ahead_2, r_X9_ahead_5, r_X9_ahead_8, r_X9_ahead_11, r_X9_ahead_13, r_X9_ahead_14, r_X9_ahead_15, r_X9_ahead_16, r_X9_ahead_17, ↓reduceIte, Option.isSome_some, Option.getD_some, rL_v, rL_n, cH_s, List.cons_append, List.nil_append, cat_i, cat_r, cat_n, ofN, c_in, ite_bI, hx, and_self]
      exact L (S 12 4) 0 (by omega)
  · refine OpV.read (r := .int (-1000000002)) hI (fun h hr => ?_) (fun h hr => ?_)
    · show Run M_X8_ahead 0 [.ref 1, .int x] [] h = _
      simp only [r_X8_ahead_0, r_X8_ahead_1, r_X8_ahead_2, r_X8_ahead_5, r_X8_ahead_8, r_X8_ahead_11, r_X8_ahead_12, r_X8_ahead_15, r_X8_ahead_16, r_X8_ahead_19, r_X8_ahead_22, r_X8_ahead_24, ↓reduceIte, Option.isSome_some, Option.getD_some, rL_v, rL_n, cH_s, List.cons_append, List.nil_append, cat_i, cat_r, cat_n, ofN, c_within, ite_bI, hx]
    · show Run M_X9_ahead 0 [.ref 88, .int x, .null, .null] [] h = _
      simp only [r_X9_ahead_0, r_X9_ahead_1, r_X9_ahead_2, r_X9_ahead_5, r_X9_ahead_8, r_X9_ahead_11, r_X9_ahead_13, ↓reduceIte, Option.isSome_some, Option.getD_some, rL_v, rL_n, cH_s, List.cons_append, List.nil_append, cat_i, cat_r, cat_n, ofN, c_in, ite_bI, hx]
