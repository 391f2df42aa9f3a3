/-! ===== help, firstIn ===== -/
theorem fI_s (n : Nat) : fI (n + 1) = nI n := by unfold fI; rw [nI_s (by omega), Nat.add_sub_cancel]
abbrev ef (S : SS) (p c i : Nat) : Nat := S 8 (2 * i + 1) + 5 * stp c (S 8 (2 * i)) + 3 * stp (S 8 (2 * i)) (S 5 p)
def hpN (S : SS) (p c : Nat) : Nat → Nat × Nat
  | 0 => (0, 0)
  | i + 1 => if (hpN S p c i).1 = 0 ∨ ef S p c i < (hpN S p c i).2 then (i + 1, ef S p c i) else hpN S p c i
theorem hpN_le {S : SS} (hI : Inv S) (p c : Nat) : ∀ i, i ≤ S 12 2 → (hpN S p c i).1 ≤ i ∧ (hpN S p c i).2 ≤ 1000
  | 0, _ => ⟨Nat.le_refl _, by show 0 ≤ 1000; omega⟩
  | i + 1, hi => by
    have h1 := hpN_le hI p c i (by omega)
    have h2 := hI.2.1.2.2 i (by omega)
    have h3 := stp_le c (S 8 (2 * i))
    have h4 := stp_le (S 8 (2 * i)) (S 5 p)
    simp only [hpN]
    split
    · exact ⟨Nat.le_refl _, by show S 8 (2 * i + 1) + 5 * stp c (S 8 (2 * i)) + 3 * stp (S 8 (2 * i)) (S 5 p) ≤ 1000; omega⟩
    · exact ⟨by omega, h1.2⟩
theorem op_help {S : SS} (hI : Inv S) (x z : Int32) : OpV M_X8_help M_X9_help [.int x, .int z] S := by
  have hS := hI.1
  have hn := hS.1
  have hT := hI.2.1
  have hT5 : S 12 2 ≤ 5 := hT.2.1
  by_cases hx : nI 0 ≤ x ∧ x ≤ nI (S 12 0) - nI 1
  · obtain ⟨p, hp, rfl⟩ := rngP (by omega) hx
    obtain ⟨k1, k2, k3, k4, k5, k6⟩ := hS.2 p hp
    by_cases hz : nI 0 ≤ z ∧ z ≤ nI 11
    · obtain ⟨c, hc, rfl⟩ := rng (by decide) hz
      refine OpV.read (r := .int (fI (hpN S p c (S 12 2)).1)) hI (fun h hr => ?_) (fun h hr => ?_)
      · obtain ⟨o, h0, h1, -, ⟨hH, ⟨fr, hr1, hr2⟩, ⟨f8, q1, q2⟩, ⟨f9, q3, q4⟩, -, -, hP⟩, -⟩ := hr
        obtain ⟨hp1, gl, hl, hgl⟩ := hP p hp
        have L : ∀ k i X Y, i + k = S 12 2 → Run M_X8_help 35 [.ref 1, .int (nI p), .int (nI c), .int (fI (hpN S p c i).1), .int (nI (hpN S p c i).2), .int (nI i), X, Y] [] h = some (h, some (.int (fI (hpN S p c (S 12 2)).1))) := by
          intro k
          induction k with
          | zero =>
            intro i X Y hi
            have e : i = S 12 2 := by omega
            subst e
            simp only [r_X8_help_35, r_X8_help_37, r_X8_help_38, r_X8_help_41, r_X8_help_44, r_X8_help_125, r_X8_help_126, ↓reduceIte, Option.isSome_some, Option.getD_some, rL_v, rL_n, cH_s, List.cons_append, List.nil_append, cat_i, cat_r, cat_n, ofN, g8_0 h1, g8_1 h1, g8_2 h1, g8_3 h1, g8_4 h1, g8_5 h1, g8_6 h1, g8_7 h1, g8_8 h1, ro8 h1, g4_0 hH, g4_1 hH, g4_2 hH, g4_3 hH, g4_4 hH, g4_5 hH, g4_6 hH, ro4 hH, Int32.le_refl]
          | succ k ih =>
            intro i X Y hi
            have hi2 : i < S 12 2 := by omega
            obtain ⟨t1, t2⟩ := hT.2.2 i hi2
            obtain ⟨l1, l2⟩ := hpN_le hI p c i (by omega)
            have h3 := stp_le c (S 8 (2 * i))
            have h4 := stp_le (S 8 (2 * i)) (S 5 p)
            have h5 : ef S p c i ≤ 1000 := by show S 8 (2 * i + 1) + 5 * stp c (S 8 (2 * i)) + 3 * stp (S 8 (2 * i)) (S 5 p) ≤ 1000; omega
            have q0 : ¬ nI (S 12 2) ≤ nI i := by rw [nI_le' (by omega) (by omega)]; omega
            have I := fun X Y => ih (i + 1) X Y (by omega)
            simp only [hpN] at I
            rw [r_X8_help_35]
            simp only [r_X8_help_37, r_X8_help_38, r_X8_help_41, r_X8_help_44, r_X8_help_47, r_X8_help_48, r_X8_help_51, r_X8_help_54, r_X8_help_56, r_X8_help_57, r_X8_help_59, r_X8_help_60, r_X8_help_63, r_X8_help_66, r_X8_help_68, r_X8_help_69, r_X8_help_70, r_X8_help_71, r_X8_help_73, r_X8_help_76, r_X8_help_77, r_X8_help_78, r_X8_help_79, r_X8_help_81, r_X8_help_82, r_X8_help_85, r_X8_help_88, r_X8_help_89, r_X8_help_90, r_X8_help_93, r_X8_help_96, r_X8_help_97, r_X8_help_98, r_X8_help_100, r_X8_help_101, r_X8_help_102, r_X8_help_105, r_X8_help_107, r_X8_help_109, r_X8_help_112, r_X8_help_114, r_X8_help_116, r_X8_help_118, r_X8_help_119, r_X8_help_122, ↓reduceIte, Option.isSome_some, Option.getD_some, rL_v, rL_n, cH_s, List.cons_append, List.nil_append, cat_i, cat_r, cat_n, ofN, g8_0 h1, g8_1 h1, g8_2 h1, g8_3 h1, g8_4 h1, g8_5 h1, g8_6 h1, g8_7 h1, g8_8 h1, ro8 h1, g4_0 hH, g4_1 hH, g4_2 hH, g4_3 hH, g4_4 hH, g4_5 hH, g4_6 hH, ro4 hH, g6_0 hp1, g6_1 hp1, g6_2 hp1, g6_3 hp1, g6_4 hp1, ro6 hp1, q0, gI_nI q1 (by decide) (show i < 5 by omega), q2 i hi2, gI_nI q3 (by decide) (show i < 5 by omega), q4 i hi2, gR_nI hr1 (Or.inr (Or.inl rfl)) (by decide) (by omega) (hr2 p (by omega)) (show p < 7 by omega), c_steps (h := h) (show c < 12 by omega) (show S 8 (2 * i) < 12 by omega), c_steps (h := h) (show S 8 (2 * i) < 12 by omega) (show S 5 p < 12 by omega), nI_m, nI_add, fI_eq (show (hpN S p c i).1 < 2147483648 by omega), nI_le' (show (hpN S p c i).2 < 2147483648 by omega) (show ef S p c i < 2147483648 by omega)]
            by_cases h6 : (hpN S p c i).1 = 0
            · rw [if_pos (Or.inl h6)] at I
              rw [if_pos h6]
              have := I (.int (nI (S 8 (2 * i)))) (.int (nI (ef S p c i)))
              rw [fI_s] at this
              exact this
            · rw [if_neg h6]
              by_cases h7 : (hpN S p c i).2 ≤ ef S p c i
              · rw [if_neg (by omega)] at I
                rw [if_pos h7]
                exact I _ _
              · rw [if_pos (by omega)] at I
                rw [if_neg h7]
                have := I (.int (nI (S 8 (2 * i)))) (.int (nI (ef S p c i)))
                rw [fI_s] at this
                exact this
        show Run M_X8_help 0 [.ref 1, .int (nI p), .int (nI c), .null, .null, .null, .null, .null] [] h = _
        simp only [r_X8_help_0, r_X8_help_1, r_X8_help_4, r_X8_help_5, r_X8_help_8, r_X8_help_11, r_X8_help_13, r_X8_help_14, r_X8_help_15, r_X8_help_16, r_X8_help_18, r_X8_help_21, r_X8_help_24, r_X8_help_26, r_X8_help_27, r_X8_help_28, r_X8_help_29, r_X8_help_30, r_X8_help_32, r_X8_help_33, ↓reduceIte, Option.isSome_some, Option.getD_some, rL_v, rL_n, cH_s, List.cons_append, List.nil_append, cat_i, cat_r, cat_n, ofN, g8_0 h1, g8_1 h1, g8_2 h1, g8_3 h1, g8_4 h1, g8_5 h1, g8_6 h1, g8_7 h1, g8_8 h1, ro8 h1, ro4 hH, c_hasPart hH, c_within, ite_bI, hx, hz, and_self]
        exact L (S 12 2) 0 _ _ (by omega)
      · obtain ⟨⟨_, _, _, _, _, _, _, _, _, _, _, hm⟩, hA, -⟩ := hr
        have L : ∀ k i X Y, i + k = S 12 2 → Run M_X9_help 32 [.ref 88, .int (nI p), .int (nI c), .int (fI (hpN S p c i).1), .int (nI (hpN S p c i).2), .int (nI i), X, Y] [] h = some (h, some (.int (fI (hpN S p c (S 12 2)).1))) := by
          intro k
          induction k with
          | zero =>
            intro i X Y hi
            have e : i = S 12 2 := by omega
            subst e
            simp only [r_X9_help_32, r_X9_help_34, r_X9_help_35, r_X9_help_38, r_X9_help_142, r_X9_help_143, ↓reduceIte, Option.isSome_some, Option.getD_some, rL_v, rL_n, cH_s, List.cons_append, List.nil_append, cat_i, cat_r, cat_n, ofN, g9_0 hm, g9_1 hm, g9_2 hm, g9_3 hm, g9_4 hm, g9_5 hm, g9_6 hm, g9_7 hm, g9_8 hm, g9_9 hm, g9_10 hm, g9_11 hm, g9_12 hm, g9_13 hm, g9_14 hm, g9_15 hm, g9_16 hm, g9_17 hm, g9_18 hm, g9_19 hm, g9_20 hm, g9_21 hm, g9_22 hm, g9_23 hm, g9_24 hm, g9_25 hm, g9_26 hm, g9_27 hm, g9_28 hm, g9_29 hm, g9_30 hm, g9_31 hm, g9_32 hm, g9_33 hm, g9_34 hm, g9_35 hm, g9_36 hm, g9_37 hm, g9_38 hm, g9_39 hm, ro9 hm, Int32.le_refl]
          | succ k ih =>
            intro i X Y hi
            have hi2 : i < S 12 2 := by omega
            obtain ⟨t1, t2⟩ := hT.2.2 i hi2
            obtain ⟨l1, l2⟩ := hpN_le hI p c i (by omega)
            have h3 := stp_le c (S 8 (2 * i))
            have h4 := stp_le (S 8 (2 * i)) (S 5 p)
            have h5 : ef S p c i ≤ 1000 := by show S 8 (2 * i + 1) + 5 * stp c (S 8 (2 * i)) + 3 * stp (S 8 (2 * i)) (S 5 p) ≤ 1000; omega
            have q0 : ¬ nI (S 12 2) ≤ nI i := by rw [nI_le' (by omega) (by omega)]; omega
            have I := fun X Y => ih (i + 1) X Y (by omega)
            simp only [hpN] at I
            have f1 : ¬ nI 1 = nI 0 := by decide
            have P := @gI_nI
            rw [r_X9_help_32]
            simp only [r_X9_help_34, r_X9_help_35, r_X9_help_38, r_X9_help_41, r_X9_help_42, r_X9_help_45, r_X9_help_46, r_X9_help_48, r_X9_help_49, r_X9_help_50, r_X9_help_51, r_X9_help_52, r_X9_help_53, r_X9_help_54, r_X9_help_55, r_X9_help_58, r_X9_help_59, r_X9_help_61, r_X9_help_62, r_X9_help_63, r_X9_help_66, r_X9_help_67, r_X9_help_68, r_X9_help_69, r_X9_help_70, r_X9_help_73, r_X9_help_74, r_X9_help_76, r_X9_help_77, r_X9_help_78, r_X9_help_79, r_X9_help_82, r_X9_help_83, r_X9_help_84, r_X9_help_87, r_X9_help_88, r_X9_help_89, r_X9_help_91, r_X9_help_92, r_X9_help_93, ↓reduceIte, Option.isSome_some, Option.getD_some, rL_v, rL_n, cH_s, List.cons_append, List.nil_append, cat_i, cat_r, cat_n, ofN, g9_0 hm, g9_1 hm, g9_2 hm, g9_3 hm, g9_4 hm, g9_5 hm, g9_6 hm, g9_7 hm, g9_8 hm, g9_9 hm, g9_10 hm, g9_11 hm, g9_12 hm, g9_13 hm, g9_14 hm, g9_15 hm, g9_16 hm, g9_17 hm, g9_18 hm, g9_19 hm, g9_20 hm, g9_21 hm, g9_22 hm, g9_23 hm, g9_24 hm, g9_25 hm, g9_26 hm, g9_27 hm, g9_28 hm, g9_29 hm, g9_30 hm, g9_31 hm, g9_32 hm, g9_33 hm, g9_34 hm, g9_35 hm, g9_36 hm, g9_37 hm, g9_38 hm, g9_39 hm, ro9 hm, q0, nI_m, nI_add, gI_nI (hA 97 _ rfl) (by decide) (show 2 * i + 1 < 10 by omega), gI_nI (hA 97 _ rfl) (by decide) (show 2 * i < 10 by omega), gI_nI (hA 94 _ rfl) (by decide) (show p < 7 by omega), c_mSteps (h := h) (show c < 12 by omega) (show S 8 (2 * i) < 12 by omega), c_mSteps (h := h) (show S 8 (2 * i) < 12 by omega) (show S 5 p < 12 by omega), fI_eq (show (hpN S p c i).1 < 2147483648 by omega)]
            by_cases h6 : (hpN S p c i).1 = 0
            · rw [if_pos (Or.inl h6)] at I
              rw [if_pos h6]
              have := I (.int (nI (ef S p c i))) (.int (nI 1))
              rw [fI_s] at this
              simp only [r_X9_help_103, r_X9_help_104, r_X9_help_107, r_X9_help_108, r_X9_help_110, r_X9_help_112, r_X9_help_115, r_X9_help_117, r_X9_help_120, r_X9_help_121, r_X9_help_122, r_X9_help_124, r_X9_help_127, r_X9_help_129, r_X9_help_132, r_X9_help_134, r_X9_help_136, r_X9_help_139, ↓reduceIte, Option.isSome_some, Option.getD_some, rL_v, rL_n, cH_s, List.cons_append, List.nil_append, cat_i, cat_r, cat_n, ofN, f1, nI_add]
              exact this
            · rw [if_neg h6]
              by_cases h7 : (hpN S p c i).2 ≤ ef S p c i
              · rw [if_neg (by omega)] at I
                simp only [r_X9_help_96, r_X9_help_98, r_X9_help_100, r_X9_help_103, r_X9_help_104, r_X9_help_107, r_X9_help_108, r_X9_help_110, r_X9_help_112, r_X9_help_115, r_X9_help_117, r_X9_help_120, r_X9_help_121, r_X9_help_122, r_X9_help_124, r_X9_help_127, r_X9_help_129, r_X9_help_132, r_X9_help_134, r_X9_help_136, r_X9_help_139, ↓reduceIte, Option.isSome_some, Option.getD_some, rL_v, rL_n, cH_s, List.cons_append, List.nil_append, cat_i, cat_r, cat_n, ofN, nI_le' (show (hpN S p c i).2 < 2147483648 by omega) (show ef S p c i < 2147483648 by omega), h7, nI_add]
                exact I _ _
              · rw [if_pos (by omega)] at I
                have := I (.int (nI (ef S p c i))) (.int (nI 1))
                rw [fI_s] at this
                simp only [r_X9_help_96, r_X9_help_98, r_X9_help_100, r_X9_help_103, r_X9_help_104, r_X9_help_107, r_X9_help_108, r_X9_help_110, r_X9_help_112, r_X9_help_115, r_X9_help_117, r_X9_help_120, r_X9_help_121, r_X9_help_122, r_X9_help_124, r_X9_help_127, r_X9_help_129, r_X9_help_132, r_X9_help_134, r_X9_help_136, r_X9_help_139, ↓reduceIte, Option.isSome_some, Option.getD_some, rL_v, rL_n, cH_s, List.cons_append, List.nil_append, cat_i, cat_r, cat_n, ofN, nI_le' (show (hpN S p c i).2 < 2147483648 by omega) (show ef S p c i < 2147483648 by omega), h7, f1, nI_add]
                exact this
        show Run M_X9_help 0 [.ref 88, .int (nI p), .int (nI c), .null, .null, .null, .null, .null] [] h = _
        simp only [r_X9_help_0, r_X9_help_1, r_X9_help_2, r_X9_help_5, r_X9_help_8, r_X9_help_10, r_X9_help_11, r_X9_help_12, r_X9_help_13, r_X9_help_15, r_X9_help_18, r_X9_help_21, r_X9_help_23, r_X9_help_24, r_X9_help_25, r_X9_help_26, r_X9_help_27, r_X9_help_29, r_X9_help_30, ↓reduceIte, Option.isSome_some, Option.getD_some, rL_v, rL_n, cH_s, List.cons_append, List.nil_append, cat_i, cat_r, cat_n, ofN, ro9 hm, c_isPart hm, c_in, ite_bI, hx, hz, and_self]
        exact L (S 12 2) 0 _ _ (by omega)
    · refine OpV.read (r := .int (-1000000002)) hI (fun h hr => ?_) (fun h hr => ?_)
      · obtain ⟨o, h0, h1, -, ⟨hH, -⟩, -⟩ := hr
        show Run M_X8_help 0 [.ref 1, .int (nI p), .int z, .null, .null, .null, .null, .null] [] h = _
        simp only [r_X8_help_0, r_X8_help_1, r_X8_help_4, r_X8_help_5, r_X8_help_8, r_X8_help_11, r_X8_help_13, r_X8_help_14, r_X8_help_15, r_X8_help_16, r_X8_help_18, r_X8_help_21, r_X8_help_24, r_X8_help_26, ↓reduceIte, Option.isSome_some, Option.getD_some, rL_v, rL_n, cH_s, List.cons_append, List.nil_append, cat_i, cat_r, cat_n, ofN, g8_0 h1, g8_1 h1, g8_2 h1, g8_3 h1, g8_4 h1, g8_5 h1, g8_6 h1, g8_7 h1, g8_8 h1, ro8 h1, ro4 hH, c_hasPart hH, c_within, ite_bI, hx, hz, and_self]
      · obtain ⟨⟨_, _, _, _, _, _, _, _, _, _, _, hm⟩, hA, -⟩ := hr
        show Run M_X9_help 0 [.ref 88, .int (nI p), .int z, .null, .null, .null, .null, .null] [] h = _
        simp only [r_X9_help_0, r_X9_help_1, r_X9_help_2, r_X9_help_5, r_X9_help_8, r_X9_help_10, r_X9_help_11, r_X9_help_12, r_X9_help_13, r_X9_help_15, r_X9_help_18, r_X9_help_21, r_X9_help_23, ↓reduceIte, Option.isSome_some, Option.getD_some, rL_v, rL_n, cH_s, List.cons_append, List.nil_append, cat_i, cat_r, cat_n, ofN, ro9 hm, c_isPart hm, c_in, ite_bI, hx, hz, and_self]
  · refine OpV.read (r := .int (-1000000001)) hI (fun h hr => ?_) (fun h hr => ?_)
    · obtain ⟨o, h0, h1, -, ⟨hH, -⟩, -⟩ := hr
      show Run M_X8_help 0 [.ref 1, .int x, .int z, .null, .null, .null, .null, .null] [] h = _
      simp only [r_X8_help_0, r_X8_help_1, r_X8_help_4, r_X8_help_5, r_X8_help_8, r_X8_help_11, r_X8_help_13, ↓reduceIte, Option.isSome_some, Option.getD_some, rL_v, rL_n, cH_s, List.cons_append, List.nil_append, cat_i, cat_r, cat_n, ofN, g8_0 h1, g8_1 h1, g8_2 h1, g8_3 h1, g8_4 h1, g8_5 h1, g8_6 h1, g8_7 h1, g8_8 h1, ro8 h1, ro4 hH, c_hasPart hH, ite_bI, hx]
    · obtain ⟨⟨_, _, _, _, _, _, _, _, _, _, _, hm⟩, hA, -⟩ := hr
      show Run M_X9_help 0 [.ref 88, .int x, .int z, .null, .null, .null, .null, .null] [] h = _
      simp only [r_X9_help_0, r_X9_help_1, r_X9_help_2, r_X9_help_5, r_X9_help_8, r_X9_help_10, ↓reduceIte, Option.isSome_some, Option.getD_some, rL_v, rL_n, cH_s, List.cons_append, List.nil_append, cat_i, cat_r, cat_n, ofN, ro9 hm, c_isPart hm, ite_bI, hx]
