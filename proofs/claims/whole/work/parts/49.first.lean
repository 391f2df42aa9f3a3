/-! ===== firstIn, judge ===== -/
abbrev ky (S : SS) (i : Nat) : Nat := 10 * S 10 (2 * i + 1) + S 10 (2 * i)
def fb (S : SS) : Nat → Nat
  | 0 => 0
  | i + 1 => if fb S i = 0 ∨ ky S i < ky S (fb S i - 1) then i + 1 else fb S i
theorem fb_le (S : SS) : ∀ i, fb S i ≤ i
  | 0 => Nat.le_refl _
  | i + 1 => by have := fb_le S i; simp only [fb]; split <;> omega
def mfb (S : SS) (i : Nat) : Nat := if fb S i = 0 then 0 else ky S (fb S i - 1) + 1
theorem c_isAhead {h : AH} {S : SS} (hI : Inv S) (e : EnR h S) {i j : Nat} (hi : i < S 12 4) (hj : j < S 12 4) : Call M_X3_isAhead h [.ref 32, .int (nI i), .int (nI j)] = some (h, some (.int (bI (ky S i < ky S j)))) := by
  obtain ⟨n1, n2⟩ := hI.2.2.2.2.1
  have p1 := n2 i hi
  have p2 := n2 j hj
  have p3 := hI.2.1.1
  obtain ⟨e1, ⟨f1, e2, e3⟩, f2, e4, e5⟩ := e
  have f0 : ¬ nI 1 = nI 0 := by decide
  show Run M_X3_isAhead 0 [.ref 32, .int (nI i), .int (nI j)] [] h = _
  simp only [r_X3_isAhead_0, r_X3_isAhead_1, r_X3_isAhead_4, r_X3_isAhead_5, r_X3_isAhead_6, r_X3_isAhead_7, r_X3_isAhead_10, r_X3_isAhead_11, r_X3_isAhead_12, r_X3_isAhead_15, r_X3_isAhead_16, r_X3_isAhead_19, r_X3_isAhead_20, r_X3_isAhead_21, r_X3_isAhead_22, r_X3_isAhead_25, r_X3_isAhead_26, r_X3_isAhead_27, r_X3_isAhead_30, r_X3_isAhead_31, r_X3_isAhead_34, r_X3_isAhead_35, r_X3_isAhead_36, r_X3_isAhead_37, r_X3_isAhead_40, r_X3_isAhead_41, r_X3_isAhead_42, ↓reduceIte, Option.isSome_some, Option.getD_some, rL_v, rL_n, cH_s, List.cons_append, List.nil_append, cat_i, cat_r, cat_n, ofN, g3_0 e1, g3_1 e1, g3_2 e1, ro3 e1, gI_nI e4 (by decide) (show i < 12 by omega), gI_nI e4 (by decide) (show j < 12 by omega), gI_nI e2 (by decide) (show i < 12 by omega), gI_nI e2 (by decide) (show j < 12 by omega), e5 i hi, e5 j hj, e3 i hi, e3 j hj, nI_lt' (show S 10 (2 * i + 1) < 2147483648 by omega) (show S 10 (2 * j + 1) < 2147483648 by omega), nI_inj (show S 10 (2 * i + 1) < 2147483648 by omega) (show S 10 (2 * j + 1) < 2147483648 by omega), nI_le' (show S 10 (2 * j) < 2147483648 by omega) (show S 10 (2 * i) < 2147483648 by omega)]
  by_cases a : S 10 (2 * i + 1) < S 10 (2 * j + 1)
  · rw [if_pos a, bI_t (show ky S i < ky S j by show 10 * S 10 (2 * i + 1) + S 10 (2 * i) < 10 * S 10 (2 * j + 1) + S 10 (2 * j); omega)]
    simp only [r_X3_isAhead_45, r_X3_isAhead_46, r_X3_isAhead_49, r_X3_isAhead_50_0, r_X3_isAhead_50_1, r_X3_isAhead_50_c, ↓reduceIte, Option.isSome_some, Option.getD_some, rL_v, rL_n, cH_s, List.cons_append, List.nil_append, cat_i, cat_r, cat_n, ofN]
  · rw [if_neg a]
    by_cases b : S 10 (2 * i + 1) = S 10 (2 * j + 1)
    · rw [if_pos b]
      by_cases c : S 10 (2 * j) ≤ S 10 (2 * i)
      · rw [if_pos c, bI_f (show ¬ ky S i < ky S j by show ¬ 10 * S 10 (2 * i + 1) + S 10 (2 * i) < 10 * S 10 (2 * j + 1) + S 10 (2 * j); omega)]
        simp only [r_X3_isAhead_45, r_X3_isAhead_46, r_X3_isAhead_49, r_X3_isAhead_50_0, r_X3_isAhead_50_1, r_X3_isAhead_50_c, ↓reduceIte, Option.isSome_some, Option.getD_some, rL_v, rL_n, cH_s, List.cons_append, List.nil_append, cat_i, cat_r, cat_n, ofN]
      · rw [if_neg c, bI_t (show ky S i < ky S j by show 10 * S 10 (2 * i + 1) + S 10 (2 * i) < 10 * S 10 (2 * j + 1) + S 10 (2 * j); omega)]
        simp only [r_X3_isAhead_45, r_X3_isAhead_46, r_X3_isAhead_49, r_X3_isAhead_50_0, r_X3_isAhead_50_1, r_X3_isAhead_50_c, ↓reduceIte, Option.isSome_some, Option.getD_some, rL_v, rL_n, cH_s, List.cons_append, List.nil_append, cat_i, cat_r, cat_n, ofN]
    · rw [if_neg b, bI_f (show ¬ ky S i < ky S j by show ¬ 10 * S 10 (2 * i + 1) + S 10 (2 * i) < 10 * S 10 (2 * j + 1) + S 10 (2 * j); omega)]
      simp only [r_X3_isAhead_45, r_X3_isAhead_46, r_X3_isAhead_49, r_X3_isAhead_50_0, r_X3_isAhead_50_1, r_X3_isAhead_50_c, ↓reduceIte, Option.isSome_some, Option.getD_some, rL_v, rL_n, cH_s, List.cons_append, List.nil_append, cat_i, cat_r, cat_n, ofN]
theorem c_first {h : AH} {S : SS} (hI : Inv S) (e : EnR h S) : Call M_X3_first h [.ref 32] = some (h, some (.int (fI (fb S (S 12 4))))) := by
  obtain ⟨n1, n2⟩ := hI.2.2.2.2.1
  have e1 := e.1
  have L : ∀ k i, i + k = S 12 4 → Run M_X3_first 4 [.ref 32, .int (fI (fb S i)), .int (nI i)] [] h = some (h, some (.int (fI (fb S (S 12 4))))) := by
    intro k
    induction k with
    | zero =>
      intro i hi
      have e : i = S 12 4 := by omega
      subst e
      simp only [r_X3_first_4, r_X3_first_5, r_X3_first_6, r_X3_first_9, r_X3_first_12, r_X3_first_13, r_X3_first_14, r_X3_first_17, r_X3_first_18, r_X3_first_19, r_X3_first_20, r_X3_first_23, r_X3_first_26, r_X3_first_27, r_X3_first_28, r_X3_first_31, r_X3_first_34, r_X3_first_35, ↓reduceIte, Option.isSome_some, Option.getD_some, rL_v, rL_n, cH_s, List.cons_append, List.nil_append, cat_i, cat_r, cat_n, ofN, g3_0 e1, g3_1 e1, g3_2 e1, ro3 e1, Int32.le_refl]
    | succ k ih =>
      intro i hi
      have q0 : ¬ nI (S 12 4) ≤ nI i := by rw [nI_le' (by omega) (by omega)]; omega
      have l := fb_le S i
      have I := ih (i + 1) (by omega)
      simp only [fb] at I
      rw [r_X3_first_4]
      by_cases a : fb S i = 0
      · rw [if_pos (Or.inl a), fI_s] at I
        simp only [r_X3_first_5, r_X3_first_6, r_X3_first_9, r_X3_first_12, r_X3_first_13, r_X3_first_14, r_X3_first_17, r_X3_first_18, r_X3_first_19, r_X3_first_20, r_X3_first_23, r_X3_first_26, r_X3_first_27, r_X3_first_28, r_X3_first_31, ↓reduceIte, Option.isSome_some, Option.getD_some, rL_v, rL_n, cH_s, List.cons_append, List.nil_append, cat_i, cat_r, cat_n, ofN, g3_0 e1, g3_1 e1, g3_2 e1, ro3 e1, q0, fI_eq (show fb S i < 2147483648 by omega), a, nI_add]
        exact I
      · have ef : fI (fb S i) = nI (fb S i - 1) := by
          rw [← fI_s (fb S i - 1), show fb S i - 1 + 1 = fb S i by omega]
        by_cases b : ky S i < ky S (fb S i - 1)
        · rw [if_pos (Or.inr b), fI_s] at I
          simp only [r_X3_first_5, r_X3_first_6, r_X3_first_9, r_X3_first_12, r_X3_first_13, r_X3_first_14, ↓reduceIte, Option.isSome_some, Option.getD_some, rL_v, rL_n, cH_s, List.cons_append, List.nil_append, cat_i, cat_r, cat_n, ofN, g3_0 e1, g3_1 e1, g3_2 e1, ro3 e1, q0, fI_eq (show fb S i < 2147483648 by omega), a]
          simp only [r_X3_first_17, r_X3_first_18, r_X3_first_19, r_X3_first_20, r_X3_first_23, r_X3_first_26, r_X3_first_27, r_X3_first_28, r_X3_first_31, ↓reduceIte, Option.isSome_some, Option.getD_some, rL_v, rL_n, cH_s, List.cons_append, List.nil_append, cat_i, cat_r, cat_n, ofN, ro3 e1, ef, c_isAhead hI e (show i < S 12 4 by omega) (show fb S i - 1 < S 12 4 by omega), ite_bI, b, nI_add]
          exact I
        · rw [if_neg (by omega), ef] at I
          simp only [r_X3_first_5, r_X3_first_6, r_X3_first_9, r_X3_first_12, r_X3_first_13, r_X3_first_14, ↓reduceIte, Option.isSome_some, Option.getD_some, rL_v, rL_n, cH_s, List.cons_append, List.nil_append, cat_i, cat_r, cat_n, ofN, g3_0 e1, g3_1 e1, g3_2 e1, ro3 e1, q0, fI_eq (show fb S i < 2147483648 by omega), a]
          simp only [r_X3_first_17, r_X3_first_18, r_X3_first_19, r_X3_first_20, r_X3_first_23, r_X3_first_26, r_X3_first_27, r_X3_first_28, r_X3_first_31, ↓reduceIte, Option.isSome_some, Option.getD_some, rL_v, rL_n, cH_s, List.cons_append, List.nil_append, cat_i, cat_r, cat_n, ofN, ro3 e1, ef, c_isAhead hI e (show i < S 12 4 by omega) (show fb S i - 1 < S 12 4 by omega), ite_bI, b, nI_add]
          exact I
  show Run M_X3_first 0 [.ref 32, .null, .null] [] h = _
  simp only [r_X3_first_0, r_X3_first_1, r_X3_first_2, r_X3_first_3, ↓reduceIte, Option.isSome_some, Option.getD_some, rL_v, rL_n, cH_s, List.cons_append, List.nil_append, cat_i, cat_r, cat_n, ofN]
  exact L (S 12 4) 0 (by omega)
theorem op_firstIn {S : SS} (hI : Inv S) (y : Int32) : OpV M_X8_firstIn M_X9_firstIn [.int y] S := by
  obtain ⟨n1, n2⟩ := hI.2.2.2.2.1
  have p3 := hI.2.1.1
  have n10 : ¬ nI 10 = 0 := by decide
  by_cases hy : nI 0 ≤ y ∧ y ≤ nI 1
  · obtain ⟨q, hq, rfl⟩ := rng (by decide) hy
    have lf := fb_le S (S 12 4)
    refine OpV.read (r := .int (if fb S (S 12 4) = 0 then -1 else nI (S 10 (2 * (fb S (S 12 4) - 1) + q)))) hI (fun h hr => ?_) (fun h hr => ?_)
    · obtain ⟨o, h0, h1, -, -, -, -, -, hE, -⟩ := hr
      obtain ⟨e1, ⟨f1, e2, e3⟩, f2, e4, e5⟩ := id hE
      show Run M_X8_firstIn 0 [.ref 1, .int (nI q), .null] [] h = _
      simp only [r_X8_firstIn_0, r_X8_firstIn_1, r_X8_firstIn_2, r_X8_firstIn_3, r_X8_firstIn_6, r_X8_firstIn_9, r_X8_firstIn_11, r_X8_firstIn_12, r_X8_firstIn_13, r_X8_firstIn_16, r_X8_firstIn_19, r_X8_firstIn_20, r_X8_firstIn_21, r_X8_firstIn_22, ↓reduceIte, Option.isSome_some, Option.getD_some, rL_v, rL_n, cH_s, List.cons_append, List.nil_append, cat_i, cat_r, cat_n, ofN, g8_0 h1, g8_1 h1, g8_2 h1, g8_3 h1, g8_4 h1, g8_5 h1, g8_6 h1, g8_7 h1, g8_8 h1, ro8 h1, ro3 e1, c_within, ite_bI, hy, and_self, c_first hI hE, fI_eq (show fb S (S 12 4) < 2147483648 by omega)]
      by_cases a : fb S (S 12 4) = 0
      · rw [if_pos a, if_pos a]
        simp only [r_X8_firstIn_25, r_X8_firstIn_26, ↓reduceIte, Option.isSome_some, Option.getD_some, rL_v, rL_n, cH_s, List.cons_append, List.nil_append, cat_i, cat_r, cat_n, ofN]
      · rw [if_neg a, if_neg a]
        have ef : fI (fb S (S 12 4)) = nI (fb S (S 12 4) - 1) := by
          rw [← fI_s (fb S (S 12 4) - 1), show fb S (S 12 4) - 1 + 1 = fb S (S 12 4) by omega]
        have f0 : ¬ nI 1 = nI 0 := by decide
        rcases (show q = 0 ∨ q = 1 by omega) with rfl | rfl
        · simp only [r_X8_firstIn_27, r_X8_firstIn_28, r_X8_firstIn_31, r_X8_firstIn_32, r_X8_firstIn_35, r_X8_firstIn_38, r_X8_firstIn_39, r_X8_firstIn_40, r_X8_firstIn_43, r_X8_firstIn_44, r_X8_firstIn_47, r_X8_firstIn_50, r_X8_firstIn_51, r_X8_firstIn_52, ↓reduceIte, Option.isSome_some, Option.getD_some, rL_v, rL_n, cH_s, List.cons_append, List.nil_append, cat_i, cat_r, cat_n, ofN, g8_0 h1, g8_1 h1, g8_2 h1, g8_3 h1, g8_4 h1, g8_5 h1, g8_6 h1, g8_7 h1, g8_8 h1, ro8 h1, g3_0 e1, g3_1 e1, g3_2 e1, ro3 e1, ef, gI_nI e2 (by decide) (show fb S (S 12 4) - 1 < 12 by omega), e3 (fb S (S 12 4) - 1) (by omega), Nat.add_zero]
        · simp only [r_X8_firstIn_27, r_X8_firstIn_28, r_X8_firstIn_31, r_X8_firstIn_32, r_X8_firstIn_35, r_X8_firstIn_38, r_X8_firstIn_39, r_X8_firstIn_40, r_X8_firstIn_43, r_X8_firstIn_44, r_X8_firstIn_47, r_X8_firstIn_50, r_X8_firstIn_51, r_X8_firstIn_52, ↓reduceIte, Option.isSome_some, Option.getD_some, rL_v, rL_n, cH_s, List.cons_append, List.nil_append, cat_i, cat_r, cat_n, ofN, g8_0 h1, g8_1 h1, g8_2 h1, g8_3 h1, g8_4 h1, g8_5 h1, g8_6 h1, g8_7 h1, g8_8 h1, ro8 h1, g3_0 e1, g3_1 e1, g3_2 e1, ro3 e1, ef, f0, gI_nI e4 (by decide) (show fb S (S 12 4) - 1 < 12 by omega), e5 (fb S (S 12 4) - 1) (by omega)]
    · obtain ⟨⟨_, _, _, _, _, _, _, _, _, _, _, hm⟩, hA, -⟩ := hr
      have B : ∀ i, i ≤ S 12 4 → mfb S i ≤ 10000 := by
        intro i hi
        have l := fb_le S i
        unfold mfb
        split
        · omega
        · have := n2 (fb S i - 1) (by omega)
          show 10 * S 10 (2 * (fb S i - 1) + 1) + S 10 (2 * (fb S i - 1)) + 1 ≤ 10000
          omega
      have L : ∀ k i X, i + k = S 12 4 → Run M_X9_firstIn 16 [.ref 88, .int (nI q), .int (fI (mfb S i)), .int (nI i), X] [] h = some (h, some (.int (if fb S (S 12 4) = 0 then -1 else nI (S 10 (2 * (fb S (S 12 4) - 1) + q))))) := by
        intro k
        induction k with
        | zero =>
          intro i X hi
          have e : i = S 12 4 := by omega
          subst e
          have b := B (S 12 4) (Nat.le_refl _)
          simp only [r_X9_firstIn_16, r_X9_firstIn_17, r_X9_firstIn_18, r_X9_firstIn_21, r_X9_firstIn_72, r_X9_firstIn_73, r_X9_firstIn_74, ↓reduceIte, Option.isSome_some, Option.getD_some, rL_v, rL_n, cH_s, List.cons_append, List.nil_append, cat_i, cat_r, cat_n, ofN, g9_0 hm, g9_1 hm, g9_2 hm, g9_3 hm, g9_4 hm, g9_5 hm, g9_6 hm, g9_7 hm, g9_8 hm, g9_9 hm, g9_10 hm, g9_11 hm, g9_12 hm, g9_13 hm, g9_14 hm, g9_15 hm, g9_16 hm, g9_17 hm, g9_18 hm, g9_19 hm, g9_20 hm, g9_21 hm, g9_22 hm, g9_23 hm, g9_24 hm, g9_25 hm, g9_26 hm, g9_27 hm, g9_28 hm, g9_29 hm, g9_30 hm, g9_31 hm, g9_32 hm, g9_33 hm, g9_34 hm, g9_35 hm, g9_36 hm, g9_37 hm, g9_38 hm, g9_39 hm, ro9 hm, Int32.le_refl, fI_eq (show mfb S (S 12 4) < 2147483648 by omega)]
          by_cases a : fb S (S 12 4) = 0
          · have z : mfb S (S 12 4) = 0 := by unfold mfb; rw [if_pos a]
            rw [if_pos z, if_pos a]
            simp only [r_X9_firstIn_77, r_X9_firstIn_78, r_X9_firstIn_96, ↓reduceIte, Option.isSome_some, Option.getD_some, rL_v, rL_n, cH_s, List.cons_append, List.nil_append, cat_i, cat_r, cat_n, ofN]
          · have z : mfb S (S 12 4) = ky S (fb S (S 12 4) - 1) + 1 := by unfold mfb; rw [if_neg a]
            rw [z, if_neg (by omega), if_neg a, fI_s]
            have hp := n2 (fb S (S 12 4) - 1) (by omega)
            have f0 : ¬ nI 1 = nI 0 := by decide
            have m1 : ky S (fb S (S 12 4) - 1) % 10 = S 10 (2 * (fb S (S 12 4) - 1)) := by
              show (10 * S 10 (2 * (fb S (S 12 4) - 1) + 1) + S 10 (2 * (fb S (S 12 4) - 1))) % 10 = _
              omega
            have m2 : ky S (fb S (S 12 4) - 1) / 10 = S 10 (2 * (fb S (S 12 4) - 1) + 1) := by
              show (10 * S 10 (2 * (fb S (S 12 4) - 1) + 1) + S 10 (2 * (fb S (S 12 4) - 1))) / 10 = _
              omega
            rcases (show q = 0 ∨ q = 1 by omega) with rfl | rfl
            · simp only [r_X9_firstIn_81, r_X9_firstIn_82, r_X9_firstIn_85, r_X9_firstIn_86, r_X9_firstIn_89, r_X9_firstIn_88 n10, r_X9_firstIn_96, ↓reduceIte, Option.isSome_some, Option.getD_some, rL_v, rL_n, cH_s, List.cons_append, List.nil_append, cat_i, cat_r, cat_n, ofN, nI_rem (show ky S (fb S (S 12 4) - 1) < 2147483648 by omega) (show 0 < 10 by decide) (show 10 < 2147483648 by decide), m1, Nat.add_zero]
            · simp only [r_X9_firstIn_81, r_X9_firstIn_82, r_X9_firstIn_92, r_X9_firstIn_93, r_X9_firstIn_95 n10, r_X9_firstIn_96, ↓reduceIte, Option.isSome_some, Option.getD_some, rL_v, rL_n, cH_s, List.cons_append, List.nil_append, cat_i, cat_r, cat_n, ofN, f0, nI_div (show ky S (fb S (S 12 4) - 1) < 2147483648 by omega) (show 0 < 10 by decide) (show 10 < 2147483648 by decide), m2]
        | succ k ih =>
          intro i X hi
          have q0 : ¬ nI (S 12 4) ≤ nI i := by rw [nI_le' (by omega) (by omega)]; omega
          have hp := n2 i (by omega)
          have l := fb_le S i
          have b := B i (by omega)
          have kb : ky S i ≤ 10000 := by show 10 * S 10 (2 * i + 1) + S 10 (2 * i) ≤ 10000; omega
          have I := fun X => ih (i + 1) X (by omega)
          rw [r_X9_firstIn_16]
          by_cases a : fb S i = 0
          · have z : mfb S i = 0 := by unfold mfb; rw [if_pos a]
            have z2 : mfb S (i + 1) = ky S i + 1 := by
              have : fb S (i + 1) = i + 1 := by simp only [fb]; rw [if_pos (Or.inl a)]
              unfold mfb; rw [this, if_neg (by omega), Nat.add_sub_cancel]
            rw [z2, fI_s] at I
            simp only [r_X9_firstIn_17, r_X9_firstIn_18, r_X9_firstIn_21, r_X9_firstIn_24, r_X9_firstIn_26, r_X9_firstIn_27, r_X9_firstIn_30, r_X9_firstIn_31, r_X9_firstIn_32, r_X9_firstIn_33, r_X9_firstIn_34, r_X9_firstIn_35, r_X9_firstIn_36, r_X9_firstIn_37, r_X9_firstIn_38, r_X9_firstIn_41, r_X9_firstIn_42, r_X9_firstIn_43, r_X9_firstIn_44, r_X9_firstIn_45, r_X9_firstIn_46, r_X9_firstIn_48, r_X9_firstIn_49, r_X9_firstIn_50, r_X9_firstIn_53, r_X9_firstIn_55, r_X9_firstIn_56, r_X9_firstIn_59, r_X9_firstIn_61, r_X9_firstIn_64, r_X9_firstIn_65, r_X9_firstIn_66, r_X9_firstIn_69, ↓reduceIte, Option.isSome_some, Option.getD_some, rL_v, rL_n, cH_s, List.cons_append, List.nil_append, cat_i, cat_r, cat_n, ofN, g9_0 hm, g9_1 hm, g9_2 hm, g9_3 hm, g9_4 hm, g9_5 hm, g9_6 hm, g9_7 hm, g9_8 hm, g9_9 hm, g9_10 hm, g9_11 hm, g9_12 hm, g9_13 hm, g9_14 hm, g9_15 hm, g9_16 hm, g9_17 hm, g9_18 hm, g9_19 hm, g9_20 hm, g9_21 hm, g9_22 hm, g9_23 hm, g9_24 hm, g9_25 hm, g9_26 hm, g9_27 hm, g9_28 hm, g9_29 hm, g9_30 hm, g9_31 hm, g9_32 hm, g9_33 hm, g9_34 hm, g9_35 hm, g9_36 hm, g9_37 hm, g9_38 hm, g9_39 hm, ro9 hm, q0, nI_m, nI_add, gI_nI (hA 109 _ rfl) (by decide) (show 2 * i + 1 < 24 by omega), gI_nI (hA 109 _ rfl) (by decide) (show 2 * i < 24 by omega), fI_eq (show mfb S i < 2147483648 by omega), z]
            exact I _
          · have z : mfb S i = ky S (fb S i - 1) + 1 := by unfold mfb; rw [if_neg a]
            have hne : ¬ nI (ky S (fb S i - 1)) = -1 := by rw [← fI_s, fI_eq (by omega)]; omega
            by_cases c : ky S i < ky S (fb S i - 1)
            · have z2 : mfb S (i + 1) = ky S i + 1 := by
                have : fb S (i + 1) = i + 1 := by simp only [fb]; rw [if_pos (Or.inr c)]
                unfold mfb; rw [this, if_neg (by omega), Nat.add_sub_cancel]
              rw [z2, fI_s] at I
              simp only [r_X9_firstIn_17, r_X9_firstIn_18, r_X9_firstIn_21, r_X9_firstIn_24, r_X9_firstIn_26, r_X9_firstIn_27, r_X9_firstIn_30, r_X9_firstIn_31, r_X9_firstIn_32, r_X9_firstIn_33, r_X9_firstIn_34, r_X9_firstIn_35, r_X9_firstIn_36, r_X9_firstIn_37, r_X9_firstIn_38, r_X9_firstIn_41, r_X9_firstIn_42, r_X9_firstIn_43, r_X9_firstIn_44, r_X9_firstIn_45, r_X9_firstIn_46, r_X9_firstIn_48, r_X9_firstIn_49, r_X9_firstIn_50, r_X9_firstIn_53, r_X9_firstIn_55, r_X9_firstIn_56, r_X9_firstIn_59, r_X9_firstIn_61, r_X9_firstIn_64, r_X9_firstIn_65, r_X9_firstIn_66, r_X9_firstIn_69, ↓reduceIte, Option.isSome_some, Option.getD_some, rL_v, rL_n, cH_s, List.cons_append, List.nil_append, cat_i, cat_r, cat_n, ofN, g9_0 hm, g9_1 hm, g9_2 hm, g9_3 hm, g9_4 hm, g9_5 hm, g9_6 hm, g9_7 hm, g9_8 hm, g9_9 hm, g9_10 hm, g9_11 hm, g9_12 hm, g9_13 hm, g9_14 hm, g9_15 hm, g9_16 hm, g9_17 hm, g9_18 hm, g9_19 hm, g9_20 hm, g9_21 hm, g9_22 hm, g9_23 hm, g9_24 hm, g9_25 hm, g9_26 hm, g9_27 hm, g9_28 hm, g9_29 hm, g9_30 hm, g9_31 hm, g9_32 hm, g9_33 hm, g9_34 hm, g9_35 hm, g9_36 hm, g9_37 hm, g9_38 hm, g9_39 hm, ro9 hm, q0, nI_m, nI_add, gI_nI (hA 109 _ rfl) (by decide) (show 2 * i + 1 < 24 by omega), gI_nI (hA 109 _ rfl) (by decide) (show 2 * i < 24 by omega), fI_eq (show mfb S i < 2147483648 by omega), z, fI_s, hne, nI_le' (show ky S (fb S i - 1) < 2147483648 by omega) (show ky S i < 2147483648 by omega), show ¬ ky S (fb S i - 1) ≤ ky S i by omega]
              exact I _
            · have z2 : mfb S (i + 1) = mfb S i := by
                have : fb S (i + 1) = fb S i := by simp only [fb]; rw [if_neg (by omega)]
                unfold mfb; rw [this]
              rw [z2, z, fI_s] at I
              simp only [r_X9_firstIn_17, r_X9_firstIn_18, r_X9_firstIn_21, r_X9_firstIn_24, r_X9_firstIn_26, r_X9_firstIn_27, r_X9_firstIn_30, r_X9_firstIn_31, r_X9_firstIn_32, r_X9_firstIn_33, r_X9_firstIn_34, r_X9_firstIn_35, r_X9_firstIn_36, r_X9_firstIn_37, r_X9_firstIn_38, r_X9_firstIn_41, r_X9_firstIn_42, r_X9_firstIn_43, r_X9_firstIn_44, r_X9_firstIn_45, r_X9_firstIn_46, r_X9_firstIn_48, r_X9_firstIn_49, r_X9_firstIn_50, r_X9_firstIn_53, r_X9_firstIn_55, r_X9_firstIn_56, r_X9_firstIn_59, r_X9_firstIn_61, r_X9_firstIn_64, r_X9_firstIn_65, r_X9_firstIn_66, r_X9_firstIn_69, ↓reduceIte, Option.isSome_some, Option.getD_some, rL_v, rL_n, cH_s, List.cons_append, List.nil_append, cat_i, cat_r, cat_n, ofN, g9_0 hm, g9_1 hm, g9_2 hm, g9_3 hm, g9_4 hm, g9_5 hm, g9_6 hm, g9_7 hm, g9_8 hm, g9_9 hm, g9_10 hm, g9_11 hm, g9_12 hm, g9_13 hm, g9_14 hm, g9_15 hm, g9_16 hm, g9_17 hm, g9_18 hm, g9_19 hm, g9_20 hm, g9_21 hm, g9_22 hm, g9_23 hm, g9_24 hm, g9_25 hm, g9_26 hm, g9_27 hm, g9_28 hm, g9_29 hm, g9_30 hm, g9_31 hm, g9_32 hm, g9_33 hm, g9_34 hm, g9_35 hm, g9_36 hm, g9_37 hm, g9_38 hm, g9_39 hm, ro9 hm, q0, nI_m, nI_add, gI_nI (hA 109 _ rfl) (by decide) (show 2 * i + 1 < 24 by omega), gI_nI (hA 109 _ rfl) (by decide) (show 2 * i < 24 by omega), fI_eq (show mfb S i < 2147483648 by omega), z, fI_s, hne, nI_le' (show ky S (fb S i - 1) < 2147483648 by omega) (show ky S i < 2147483648 by omega), show ky S (fb S i - 1) ≤ ky S i by omega]
              exact I _
      show Run M_X9_firstIn 0 [.ref 88, .int (nI q), .null, .null, .null] [] h = _
      simp only [r_X9_firstIn_0, r_X9_firstIn_1, r_X9_firstIn_2, r_X9_firstIn_3, r_X9_firstIn_6, r_X9_firstIn_9, r_X9_firstIn_11, r_X9_firstIn_12, r_X9_firstIn_13, r_X9_firstIn_14, r_X9_firstIn_15, ↓reduceIte, Option.isSome_some, Option.getD_some, rL_v, rL_n, cH_s, List.cons_append, List.nil_append, cat_i, cat_r, cat_n, ofN, c_in, ite_bI, hy, and_self]
      exact L (S 12 4) 0 _ (by omega)
  · refine OpV.read (r := .int (-1000000002)) hI (fun h hr => ?_) (fun h hr => ?_)
    · show Run M_X8_firstIn 0 [.ref 1, .int y, .null] [] h = _
      simp only [r_X8_firstIn_0, r_X8_firstIn_1, r_X8_firstIn_2, r_X8_firstIn_3, r_X8_firstIn_6, r_X8_firstIn_9, r_X8_firstIn_11, ↓reduceIte, Option.isSome_some, Option.getD_some, rL_v, rL_n, cH_s, List.cons_append, List.nil_append, cat_i, cat_r, cat_n, ofN, c_within, ite_bI, hy]
    · show Run M_X9_firstIn 0 [.ref 88, .int y, .null, .null, .null] [] h = _
      simp only [r_X9_firstIn_0, r_X9_firstIn_1, r_X9_firstIn_2, r_X9_firstIn_3, r_X9_firstIn_6, r_X9_firstIn_9, r_X9_firstIn_11, ↓reduceIte, Option.isSome_some, Option.getD_some, rL_v, rL_n, cH_s, List.cons_append, List.nil_append, cat_i, cat_r, cat_n, ofN, c_in, ite_bI, hy]
/-! the book -/
def anyL (f : Nat → Nat) (x : Nat) : Nat → Bool
  | 0 => false
  | c + 1 => anyL f x c || decide (f c = x)
theorem anyL_hasL {f : Nat → Nat} {x : Nat} : ∀ c, anyL f x c = true ↔ hasL f c x
  | 0 => ⟨fun h => Bool.noConfusion (show false = true from h), fun ⟨i, h, _⟩ => absurd h (by omega)⟩
  | c + 1 => by
    simp only [anyL, Bool.or_eq_true, decide_eq_true_eq, anyL_hasL c]
    constructor
    · rintro (⟨i, h1, h2⟩ | h)
      · exact ⟨i, by omega, h2⟩
      · exact ⟨c, by omega, h⟩
    · rintro ⟨i, h1, h2⟩
      by_cases h3 : i = c
      · subst h3; exact Or.inr h2
      · exact Or.inl ⟨i, by omega, h2⟩
def may (S : SS) (p l : Nat) : Bool := (decide (l = 0) && decide (0 < S 4 p)) || anyL (lenP S p) l (S 6 p)
theorem c_canBe {h : AH} {S : SS} {o p l : Nat} (hI : Inv S) (hr : HallR h o S) (hp : p < S 12 0) (hl : l ≤ 60) (ho : o ≠ 0) : Call M_X1_canBe h [.ref o, .int (nI p), .int (nI l)] = some (h, some (.int (nI (may S p l).toNat))) := by
  have hS := hI.1
  have hn := hS.1
  obtain ⟨k1, k2, k3, k4, k5, k6⟩ := hS.2 p hp
  obtain ⟨hH, ⟨fr, hr1, hr2⟩, -, -, -, -, hP⟩ := hr
  obtain ⟨hp1, gl, hg, hgl⟩ := hP p hp
  have hx := rngP_in (show S 12 0 < 2147483648 by omega) hp
  have f0 : ¬ nI 1 = nI 0 := by decide
  show Run M_X1_canBe 0 [.ref o, .int (nI p), .int (nI l), .null] [] h = _
  simp only [r_X1_canBe_0, r_X1_canBe_1, r_X1_canBe_2, r_X1_canBe_5, r_X1_canBe_8, r_X1_canBe_9_0, r_X1_canBe_9_1, r_X1_canBe_9_c, r_X1_canBe_10, r_X1_canBe_11, r_X1_canBe_14, r_X1_canBe_15, r_X1_canBe_16, r_X1_canBe_17, r_X1_canBe_18, ↓reduceIte, Option.isSome_some, Option.getD_some, rL_v, rL_n, cH_s, List.cons_append, List.nil_append, cat_i, cat_r, cat_n, ofN, ro4 hH, g4_0 hH, g4_1 hH, g4_2 hH, g4_3 hH, g4_4 hH, g4_5 hH, g4_6 hH, ro4 hH, c_hasPart hH, ite_bI, hx, and_self, gR_nI hr1 (Or.inr (Or.inl rfl)) (by decide) (by omega) (hr2 p (by omega)) (show p < 7 by omega), nI_inj (show l < 2147483648 by omega) (show 0 < 2147483648 by decide)]
  by_cases a : l = 0
  · subst a
    have na : anyL (lenP S p) 0 (S 6 p) = false := by
      cases hb : anyL (lenP S p) 0 (S 6 p) with
      | false => rfl
      | true =>
        obtain ⟨i, h1, h2⟩ := (anyL_hasL _).mp hb
        have := (k6 i h1).1
        have h3 : S 7 (4 * p + i) = 0 := h2
        omega
    have e : may S p 0 = decide (0 < S 4 p) := by unfold may; rw [na]; simp
    rw [if_pos rfl, e]
    simp only [r_X1_canBe_21, r_X1_canBe_22, r_X1_canBe_25, r_X1_canBe_28, r_X1_canBe_29, r_X1_canBe_32, r_X1_canBe_33, r_X1_canBe_36, r_X1_canBe_37, r_X1_canBe_38, r_X1_canBe_41_0, r_X1_canBe_41_1, r_X1_canBe_41_c, ↓reduceIte, Option.isSome_some, Option.getD_some, rL_v, rL_n, cH_s, List.cons_append, List.nil_append, cat_i, cat_r, cat_n, ofN, g6_0 hp1, g6_1 hp1, g6_2 hp1, g6_3 hp1, g6_4 hp1, ro6 hp1, nI_le' (show S 4 p < 2147483648 by omega) (show 0 < 2147483648 by decide)]
    by_cases b : 0 < S 4 p
    · rw [if_neg (by omega), decide_eq_true b]; rfl
    · rw [if_pos (by omega), decide_eq_false b]; rfl
  · have e : may S p l = anyL (lenP S p) l (S 6 p) := by unfold may; rw [decide_eq_false a]; simp
    rw [if_neg a, e]
    cases hb : anyL (lenP S p) l (S 6 p) with
    | false =>
      have nh : ¬ hasL (lenP S p) (S 6 p) l := fun q => by rw [← anyL_hasL, hb] at q; exact absurd q (by decide)
      have D : Decidable (hasL (lenP S p) (S 6 p) l) := isFalse nh
      have C := c_hasLength (x := l) hp1 hg hgl k5 (fun j hj => by have := k6 j hj; show S 7 (4 * p + j) < _; omega) (show l < 2147483648 by omega)
      rw [bI_f nh] at C
      simp only [r_X1_canBe_36, r_X1_canBe_37, r_X1_canBe_38, r_X1_canBe_41_0, r_X1_canBe_41_1, r_X1_canBe_41_c, ↓reduceIte, Option.isSome_some, Option.getD_some, rL_v, rL_n, cH_s, List.cons_append, List.nil_append, cat_i, cat_r, cat_n, ofN, ro6 hp1, C]
      rfl
    | true =>
      have nh : hasL (lenP S p) (S 6 p) l := (anyL_hasL _).mp hb
      have D : Decidable (hasL (lenP S p) (S 6 p) l) := isTrue nh
      have C := c_hasLength (x := l) hp1 hg hgl k5 (fun j hj => by have := k6 j hj; show S 7 (4 * p + j) < _; omega) (show l < 2147483648 by omega)
      rw [bI_t nh] at C
      simp only [r_X1_canBe_36, r_X1_canBe_37, r_X1_canBe_38, r_X1_canBe_41_0, r_X1_canBe_41_1, r_X1_canBe_41_c, ↓reduceIte, Option.isSome_some, Option.getD_some, rL_v, rL_n, cH_s, List.cons_append, List.nil_append, cat_i, cat_r, cat_n, ofN, ro6 hp1, C]
      rfl
theorem c_mayLast {h : AH} {S : SS} (hI : Inv S) (hr : RepM h S) {p l : Nat} (hp : p < S 12 0) (hl : l ≤ 60) : Call M_X9_mayLast h [.ref 88, .int (nI p), .int (nI l)] = some (h, some (.int (nI (may S p l).toNat))) := by
  have hS := hI.1
  have hn := hS.1
  obtain ⟨k1, k2, k3, k4, k5, k6⟩ := hS.2 p hp
  obtain ⟨⟨_, _, _, _, _, _, _, _, _, _, _, hm⟩, hA, -⟩ := hr
  have f0 : ¬ nI 1 = nI 0 := by decide
  have t1 : true.toNat = 1 := rfl
  have t0 : false.toNat = 0 := rfl
  have L : ∀ k i, i + k = S 6 p → Run M_X9_mayLast 22 [.ref 88, .int (nI p), .int (nI l), .int (nI ((decide (l = 0) && decide (0 < S 4 p)) || anyL (lenP S p) l i).toNat), .int (nI i)] [] h = some (h, some (.int (nI (may S p l).toNat))) := by
    intro k
    induction k with
    | zero =>
      intro i hi
      have e : i = S 6 p := by omega
      subst e
      show Run M_X9_mayLast 22 [.ref 88, .int (nI p), .int (nI l), .int (nI (may S p l).toNat), .int (nI (S 6 p))] [] h = _
      cases may S p l <;> simp only [r_X9_mayLast_22, r_X9_mayLast_24, r_X9_mayLast_25, r_X9_mayLast_28, r_X9_mayLast_29, r_X9_mayLast_30, r_X9_mayLast_64, r_X9_mayLast_65_0, r_X9_mayLast_65_1, r_X9_mayLast_65_c, ↓reduceIte, Option.isSome_some, Option.getD_some, rL_v, rL_n, cH_s, List.cons_append, List.nil_append, cat_i, cat_r, cat_n, ofN, g9_0 hm, g9_1 hm, g9_2 hm, g9_3 hm, g9_4 hm, g9_5 hm, g9_6 hm, g9_7 hm, g9_8 hm, g9_9 hm, g9_10 hm, g9_11 hm, g9_12 hm, g9_13 hm, g9_14 hm, g9_15 hm, g9_16 hm, g9_17 hm, g9_18 hm, g9_19 hm, g9_20 hm, g9_21 hm, g9_22 hm, g9_23 hm, g9_24 hm, g9_25 hm, g9_26 hm, g9_27 hm, g9_28 hm, g9_29 hm, g9_30 hm, g9_31 hm, g9_32 hm, g9_33 hm, g9_34 hm, g9_35 hm, g9_36 hm, g9_37 hm, g9_38 hm, g9_39 hm, ro9 hm, gI_nI (hA 95 _ rfl) (by decide) (show p < 7 by omega), Int32.le_refl, t1, t0]
    | succ k ih =>
      intro i hi
      have q0 : ¬ nI (S 6 p) ≤ nI i := by rw [nI_le' (by omega) (by omega)]; omega
      have h6 := k6 i (by omega)
      have I := ih (i + 1) (by omega)
      simp only [anyL, ← Bool.or_assoc] at I
      rw [r_X9_mayLast_22]
      cases hb : ((decide (l = 0) && decide (0 < S 4 p)) || anyL (lenP S p) l i) with
      | true =>
        rw [hb, Bool.true_or] at I
        simp only [r_X9_mayLast_24, r_X9_mayLast_25, r_X9_mayLast_28, r_X9_mayLast_29, r_X9_mayLast_30, r_X9_mayLast_33, r_X9_mayLast_34, r_X9_mayLast_37, r_X9_mayLast_38, r_X9_mayLast_41, r_X9_mayLast_42, r_X9_mayLast_43, r_X9_mayLast_44, r_X9_mayLast_46, r_X9_mayLast_47, r_X9_mayLast_48, r_X9_mayLast_49, r_X9_mayLast_52, r_X9_mayLast_53, r_X9_mayLast_56, r_X9_mayLast_57, r_X9_mayLast_58, r_X9_mayLast_61, ↓reduceIte, Option.isSome_some, Option.getD_some, rL_v, rL_n, cH_s, List.cons_append, List.nil_append, cat_i, cat_r, cat_n, ofN, g9_0 hm, g9_1 hm, g9_2 hm, g9_3 hm, g9_4 hm, g9_5 hm, g9_6 hm, g9_7 hm, g9_8 hm, g9_9 hm, g9_10 hm, g9_11 hm, g9_12 hm, g9_13 hm, g9_14 hm, g9_15 hm, g9_16 hm, g9_17 hm, g9_18 hm, g9_19 hm, g9_20 hm, g9_21 hm, g9_22 hm, g9_23 hm, g9_24 hm, g9_25 hm, g9_26 hm, g9_27 hm, g9_28 hm, g9_29 hm, g9_30 hm, g9_31 hm, g9_32 hm, g9_33 hm, g9_34 hm, g9_35 hm, g9_36 hm, g9_37 hm, g9_38 hm, g9_39 hm, ro9 hm, gI_nI (hA 95 _ rfl) (by decide) (show p < 7 by omega), q0, t1, f0, nI_add]
        exact I
      | false =>
        rw [hb, Bool.false_or] at I
        by_cases c : S 7 (4 * p + i) = l
        · rw [decide_eq_true c] at I
          simp only [r_X9_mayLast_24, r_X9_mayLast_25, r_X9_mayLast_28, r_X9_mayLast_29, r_X9_mayLast_30, r_X9_mayLast_33, r_X9_mayLast_34, r_X9_mayLast_37, r_X9_mayLast_38, r_X9_mayLast_41, r_X9_mayLast_42, r_X9_mayLast_43, r_X9_mayLast_44, r_X9_mayLast_46, r_X9_mayLast_47, r_X9_mayLast_48, r_X9_mayLast_49, r_X9_mayLast_52, r_X9_mayLast_53, r_X9_mayLast_56, r_X9_mayLast_57, r_X9_mayLast_58, r_X9_mayLast_61, ↓reduceIte, Option.isSome_some, Option.getD_some, rL_v, rL_n, cH_s, List.cons_append, List.nil_append, cat_i, cat_r, cat_n, ofN, g9_0 hm, g9_1 hm, g9_2 hm, g9_3 hm, g9_4 hm, g9_5 hm, g9_6 hm, g9_7 hm, g9_8 hm, g9_9 hm, g9_10 hm, g9_11 hm, g9_12 hm, g9_13 hm, g9_14 hm, g9_15 hm, g9_16 hm, g9_17 hm, g9_18 hm, g9_19 hm, g9_20 hm, g9_21 hm, g9_22 hm, g9_23 hm, g9_24 hm, g9_25 hm, g9_26 hm, g9_27 hm, g9_28 hm, g9_29 hm, g9_30 hm, g9_31 hm, g9_32 hm, g9_33 hm, g9_34 hm, g9_35 hm, g9_36 hm, g9_37 hm, g9_38 hm, g9_39 hm, ro9 hm, gI_nI (hA 95 _ rfl) (by decide) (show p < 7 by omega), q0, t0, nI_m, nI_add, gI_nI (hA 96 _ rfl) (by decide) (show 4 * p + i < 28 by omega), nI_inj (show S 7 (4 * p + i) < 2147483648 by omega) (show l < 2147483648 by omega), c]
          exact I
        · rw [decide_eq_false c] at I
          simp only [r_X9_mayLast_24, r_X9_mayLast_25, r_X9_mayLast_28, r_X9_mayLast_29, r_X9_mayLast_30, r_X9_mayLast_33, r_X9_mayLast_34, r_X9_mayLast_37, r_X9_mayLast_38, r_X9_mayLast_41, r_X9_mayLast_42, r_X9_mayLast_43, r_X9_mayLast_44, r_X9_mayLast_46, r_X9_mayLast_47, r_X9_mayLast_48, r_X9_mayLast_49, r_X9_mayLast_52, r_X9_mayLast_53, r_X9_mayLast_56, r_X9_mayLast_57, r_X9_mayLast_58, r_X9_mayLast_61, ↓reduceIte, Option.isSome_some, Option.getD_some, rL_v, rL_n, cH_s, List.cons_append, List.nil_append, cat_i, cat_r, cat_n, ofN, g9_0 hm, g9_1 hm, g9_2 hm, g9_3 hm, g9_4 hm, g9_5 hm, g9_6 hm, g9_7 hm, g9_8 hm, g9_9 hm, g9_10 hm, g9_11 hm, g9_12 hm, g9_13 hm, g9_14 hm, g9_15 hm, g9_16 hm, g9_17 hm, g9_18 hm, g9_19 hm, g9_20 hm, g9_21 hm, g9_22 hm, g9_23 hm, g9_24 hm, g9_25 hm, g9_26 hm, g9_27 hm, g9_28 hm, g9_29 hm, g9_30 hm, g9_31 hm, g9_32 hm, g9_33 hm, g9_34 hm, g9_35 hm, g9_36 hm, g9_37 hm, g9_38 hm, g9_39 hm, ro9 hm, gI_nI (hA 95 _ rfl) (by decide) (show p < 7 by omega), q0, t0, nI_m, nI_add, gI_nI (hA 96 _ rfl) (by decide) (show 4 * p + i < 28 by omega), nI_inj (show S 7 (4 * p + i) < 2147483648 by omega) (show l < 2147483648 by omega), c]
          exact I
  have L0 := L (S 6 p) 0 (by omega)
  simp only [anyL, Bool.or_false] at L0
  show Run M_X9_mayLast 0 [.ref 88, .int (nI p), .int (nI l), .null, .null] [] h = _
  by_cases a : l = 0
  · by_cases b : 0 < S 4 p
    · rw [decide_eq_true a, decide_eq_true b] at L0
      subst a
      simp only [r_X9_mayLast_0, r_X9_mayLast_1, r_X9_mayLast_4, r_X9_mayLast_5, r_X9_mayLast_8, r_X9_mayLast_9, r_X9_mayLast_10, r_X9_mayLast_13, r_X9_mayLast_14, r_X9_mayLast_17, r_X9_mayLast_18, r_X9_mayLast_19, r_X9_mayLast_20, ↓reduceIte, Option.isSome_some, Option.getD_some, rL_v, rL_n, cH_s, List.cons_append, List.nil_append, cat_i, cat_r, cat_n, ofN, g9_0 hm, g9_1 hm, g9_2 hm, g9_3 hm, g9_4 hm, g9_5 hm, g9_6 hm, g9_7 hm, g9_8 hm, g9_9 hm, g9_10 hm, g9_11 hm, g9_12 hm, g9_13 hm, g9_14 hm, g9_15 hm, g9_16 hm, g9_17 hm, g9_18 hm, g9_19 hm, g9_20 hm, g9_21 hm, g9_22 hm, g9_23 hm, g9_24 hm, g9_25 hm, g9_26 hm, g9_27 hm, g9_28 hm, g9_29 hm, g9_30 hm, g9_31 hm, g9_32 hm, g9_33 hm, g9_34 hm, g9_35 hm, g9_36 hm, g9_37 hm, g9_38 hm, g9_39 hm, ro9 hm, gI_nI (hA 93 _ rfl) (by decide) (show p < 7 by omega), nI_le' (show S 4 p < 2147483648 by omega) (show 0 < 2147483648 by decide), show ¬ S 4 p ≤ 0 by omega]
      exact L0
    · rw [decide_eq_false b, Bool.and_false] at L0
      subst a
      simp only [r_X9_mayLast_0, r_X9_mayLast_1, r_X9_mayLast_4, r_X9_mayLast_5, r_X9_mayLast_8, r_X9_mayLast_9, r_X9_mayLast_10, r_X9_mayLast_13, r_X9_mayLast_14, r_X9_mayLast_17, r_X9_mayLast_18, r_X9_mayLast_19, r_X9_mayLast_20, ↓reduceIte, Option.isSome_some, Option.getD_some, rL_v, rL_n, cH_s, List.cons_append, List.nil_append, cat_i, cat_r, cat_n, ofN, g9_0 hm, g9_1 hm, g9_2 hm, g9_3 hm, g9_4 hm, g9_5 hm, g9_6 hm, g9_7 hm, g9_8 hm, g9_9 hm, g9_10 hm, g9_11 hm, g9_12 hm, g9_13 hm, g9_14 hm, g9_15 hm, g9_16 hm, g9_17 hm, g9_18 hm, g9_19 hm, g9_20 hm, g9_21 hm, g9_22 hm, g9_23 hm, g9_24 hm, g9_25 hm, g9_26 hm, g9_27 hm, g9_28 hm, g9_29 hm, g9_30 hm, g9_31 hm, g9_32 hm, g9_33 hm, g9_34 hm, g9_35 hm, g9_36 hm, g9_37 hm, g9_38 hm, g9_39 hm, ro9 hm, gI_nI (hA 93 _ rfl) (by decide) (show p < 7 by omega), nI_le' (show S 4 p < 2147483648 by omega) (show 0 < 2147483648 by decide), show S 4 p ≤ 0 by omega]
      exact L0
  · rw [decide_eq_false a, Bool.false_and] at L0
    simp only [r_X9_mayLast_0, r_X9_mayLast_1, r_X9_mayLast_4, r_X9_mayLast_5, r_X9_mayLast_8, r_X9_mayLast_9, r_X9_mayLast_10, r_X9_mayLast_13, r_X9_mayLast_14, r_X9_mayLast_17, r_X9_mayLast_18, r_X9_mayLast_19, r_X9_mayLast_20, ↓reduceIte, Option.isSome_some, Option.getD_some, rL_v, rL_n, cH_s, List.cons_append, List.nil_append, cat_i, cat_r, cat_n, ofN, nI_inj (show l < 2147483648 by omega) (show 0 < 2147483648 by decide), a]
    exact L0
/-- the first wrong line of k from i on, + 1 -/
def fwr (S : SS) : Nat → Nat → Nat
  | _, 0 => 0
  | i, k + 1 => if S 11 (2 * i) = i % S 12 0 ∧ may S (i % S 12 0) (S 11 (2 * i + 1)) = true then fwr S (i + 1) k else i + 1
theorem op_judge {S : SS} (hI : Inv S) : OpV M_X8_judge M_X9_judge [] S := by
  have hS := hI.1
  have hn := hS.1
  obtain ⟨b1, b2⟩ := hI.2.2.2.2.2.1
  have f0 : ¬ nI 1 = nI 0 := by decide
  have t1 : true.toNat = 1 := rfl
  have t0 : false.toNat = 0 := rfl
  refine OpV.read (r := .int (fI (fwr S 0 (S 12 5)))) hI (fun h hr => ?_) (fun h hr => ?_)
  · obtain ⟨o, h0, h1, -, hH, -, -, -, -, ⟨e1, ⟨f1, e2, e3⟩, f2, e4, e5⟩, -⟩ := hr
    have hH1 := hH.1
    have C : Call M_X1_firstWrong h [.ref 35, .ref o] = some (h, some (.int (fI (fwr S 0 (S 12 5))))) := by
      have L : ∀ k i, i + k = S 12 5 → Run M_X1_firstWrong 4 [.ref 35, .ref o, .int (nI (if S 12 0 = 0 then 0 else i % S 12 0)), .int (nI i)] [] h = some (h, some (.int (fI (fwr S i k)))) := by
        intro k
        induction k with
        | zero =>
          intro i hi
          have e : i = S 12 5 := by omega
          subst e
          simp only [r_X1_firstWrong_4, r_X1_firstWrong_5, r_X1_firstWrong_6, r_X1_firstWrong_9, r_X1_firstWrong_62, r_X1_firstWrong_63, ↓reduceIte, Option.isSome_some, Option.getD_some, rL_v, rL_n, cH_s, List.cons_append, List.nil_append, cat_i, cat_r, cat_n, ofN, g1_0 e1, g1_1 e1, g1_2 e1, ro1 e1, Int32.le_refl]
          rfl
        | succ k ih =>
          intro i hi
          have hi2 : i < S 12 5 := by omega
          obtain ⟨c1, c2⟩ := b2 i hi2
          have q0 : ¬ nI (S 12 5) ≤ nI i := by rw [nI_le' (by omega) (by omega)]; omega
          have hpos : ¬ S 12 0 = 0 := by omega
          have hmd : i % S 12 0 < S 12 0 := Nat.mod_lt _ (by omega)
          have I := ih (i + 1) (by omega)
          rw [if_neg hpos] at I
          rw [if_neg hpos, r_X1_firstWrong_4]
          simp only [fwr]
          by_cases a : S 11 (2 * i) = i % S 12 0
          · cases hb : may S (i % S 12 0) (S 11 (2 * i + 1)) with
            | true =>
              have cc := c_canBe hI hH hmd c2 (by omega)
              rw [hb] at cc
              rw [if_pos ⟨a, rfl⟩]
              by_cases d : i % S 12 0 + 1 < S 12 0
              · have m : (i + 1) % S 12 0 = i % S 12 0 + 1 := by
                  rw [Nat.add_mod, Nat.mod_eq_of_lt (show 1 < S 12 0 by omega), Nat.mod_eq_of_lt d]
                rw [m] at I
                simp only [r_X1_firstWrong_5, r_X1_firstWrong_6, r_X1_firstWrong_9, r_X1_firstWrong_12, r_X1_firstWrong_13, r_X1_firstWrong_16, r_X1_firstWrong_17, r_X1_firstWrong_18, r_X1_firstWrong_19, r_X1_firstWrong_22, r_X1_firstWrong_23, r_X1_firstWrong_24, r_X1_firstWrong_25, r_X1_firstWrong_28, r_X1_firstWrong_29, r_X1_firstWrong_30, r_X1_firstWrong_33, r_X1_firstWrong_36, r_X1_firstWrong_37, r_X1_firstWrong_38, r_X1_firstWrong_39, r_X1_firstWrong_40, r_X1_firstWrong_41, r_X1_firstWrong_42, r_X1_firstWrong_45, r_X1_firstWrong_48, r_X1_firstWrong_49, r_X1_firstWrong_50, r_X1_firstWrong_51, r_X1_firstWrong_54, r_X1_firstWrong_55, r_X1_firstWrong_56, r_X1_firstWrong_59, ↓reduceIte, Option.isSome_some, Option.getD_some, rL_v, rL_n, cH_s, List.cons_append, List.nil_append, cat_i, cat_r, cat_n, ofN, g1_0 e1, g1_1 e1, g1_2 e1, ro1 e1, g4_0 hH1, g4_1 hH1, g4_2 hH1, g4_3 hH1, g4_4 hH1, g4_5 hH1, g4_6 hH1, ro4 hH1, q0, gI_nI e2 (by decide) (show i < 20 by omega), e3 i hi2, a, gI_nI e4 (by decide) (show i < 20 by omega), e5 i hi2, cc, t1, f0, nI_add, nI_le' (show S 12 0 < 2147483648 by omega) (show i % S 12 0 + 1 < 2147483648 by omega), show ¬ S 12 0 ≤ i % S 12 0 + 1 by omega]
                exact I
              · have m : (i + 1) % S 12 0 = 0 := by
                  have e : i % S 12 0 + 1 = S 12 0 := by omega
                  have e2 := Nat.div_add_mod i (S 12 0)
                  have e3 : i + 1 = S 12 0 * (i / S 12 0 + 1) := by rw [Nat.mul_succ]; omega
                  rw [e3, Nat.mul_mod_right]
                rw [m] at I
                simp only [r_X1_firstWrong_5, r_X1_firstWrong_6, r_X1_firstWrong_9, r_X1_firstWrong_12, r_X1_firstWrong_13, r_X1_firstWrong_16, r_X1_firstWrong_17, r_X1_firstWrong_18, r_X1_firstWrong_19, r_X1_firstWrong_22, r_X1_firstWrong_23, r_X1_firstWrong_24, r_X1_firstWrong_25, r_X1_firstWrong_28, r_X1_firstWrong_29, r_X1_firstWrong_30, r_X1_firstWrong_33, r_X1_firstWrong_36, r_X1_firstWrong_37, r_X1_firstWrong_38, r_X1_firstWrong_39, r_X1_firstWrong_40, r_X1_firstWrong_41, r_X1_firstWrong_42, r_X1_firstWrong_45, r_X1_firstWrong_48, r_X1_firstWrong_49, r_X1_firstWrong_50, r_X1_firstWrong_51, r_X1_firstWrong_54, r_X1_firstWrong_55, r_X1_firstWrong_56, r_X1_firstWrong_59, ↓reduceIte, Option.isSome_some, Option.getD_some, rL_v, rL_n, cH_s, List.cons_append, List.nil_append, cat_i, cat_r, cat_n, ofN, g1_0 e1, g1_1 e1, g1_2 e1, ro1 e1, g4_0 hH1, g4_1 hH1, g4_2 hH1, g4_3 hH1, g4_4 hH1, g4_5 hH1, g4_6 hH1, ro4 hH1, q0, gI_nI e2 (by decide) (show i < 20 by omega), e3 i hi2, a, gI_nI e4 (by decide) (show i < 20 by omega), e5 i hi2, cc, t1, f0, nI_add, nI_le' (show S 12 0 < 2147483648 by omega) (show i % S 12 0 + 1 < 2147483648 by omega), show S 12 0 ≤ i % S 12 0 + 1 by omega]
                exact I
            | false =>
              have cc := c_canBe hI hH hmd c2 (by omega)
              rw [hb] at cc
              rw [if_neg (fun e => Bool.noConfusion e.2), fI_s]
              simp only [r_X1_firstWrong_5, r_X1_firstWrong_6, r_X1_firstWrong_9, r_X1_firstWrong_12, r_X1_firstWrong_13, r_X1_firstWrong_16, r_X1_firstWrong_17, r_X1_firstWrong_18, r_X1_firstWrong_19, r_X1_firstWrong_22, r_X1_firstWrong_23, r_X1_firstWrong_24, r_X1_firstWrong_25, r_X1_firstWrong_28, r_X1_firstWrong_29, r_X1_firstWrong_30, r_X1_firstWrong_33, r_X1_firstWrong_36, r_X1_firstWrong_37, ↓reduceIte, Option.isSome_some, Option.getD_some, rL_v, rL_n, cH_s, List.cons_append, List.nil_append, cat_i, cat_r, cat_n, ofN, g1_0 e1, g1_1 e1, g1_2 e1, ro1 e1, g4_0 hH1, g4_1 hH1, g4_2 hH1, g4_3 hH1, g4_4 hH1, g4_5 hH1, g4_6 hH1, ro4 hH1, q0, gI_nI e2 (by decide) (show i < 20 by omega), e3 i hi2, a, gI_nI e4 (by decide) (show i < 20 by omega), e5 i hi2, cc, t0]
          · rw [if_neg (fun e => a e.1), fI_s]
            simp only [r_X1_firstWrong_5, r_X1_firstWrong_6, r_X1_firstWrong_9, r_X1_firstWrong_12, r_X1_firstWrong_13, r_X1_firstWrong_16, r_X1_firstWrong_17, r_X1_firstWrong_18, r_X1_firstWrong_19, r_X1_firstWrong_36, r_X1_firstWrong_37, ↓reduceIte, Option.isSome_some, Option.getD_some, rL_v, rL_n, cH_s, List.cons_append, List.nil_append, cat_i, cat_r, cat_n, ofN, g1_0 e1, g1_1 e1, g1_2 e1, ro1 e1, g4_0 hH1, g4_1 hH1, g4_2 hH1, g4_3 hH1, g4_4 hH1, g4_5 hH1, g4_6 hH1, ro4 hH1, q0, gI_nI e2 (by decide) (show i < 20 by omega), e3 i hi2, nI_inj (show S 11 (2 * i) < 2147483648 by omega) (show i % S 12 0 < 2147483648 by omega), a]
      have L0 := L (S 12 5) 0 (by omega)
      rw [Nat.zero_mod, ite_self] at L0
      show Run M_X1_firstWrong 0 [.ref 35, .ref o, .null, .null] [] h = _
      simp only [r_X1_firstWrong_0, r_X1_firstWrong_1, r_X1_firstWrong_2, r_X1_firstWrong_3, ↓reduceIte, Option.isSome_some, Option.getD_some, rL_v, rL_n, cH_s, List.cons_append, List.nil_append, cat_i, cat_r, cat_n, ofN]
      exact L0
    show Run M_X8_judge 0 [.ref 1] [] h = _
    simp only [r_X8_judge_0, r_X8_judge_1, r_X8_judge_4, r_X8_judge_5, r_X8_judge_8, r_X8_judge_11, ↓reduceIte, Option.isSome_some, Option.getD_some, rL_v, rL_n, cH_s, List.cons_append, List.nil_append, cat_i, cat_r, cat_n, ofN, g8_0 h1, g8_1 h1, g8_2 h1, g8_3 h1, g8_4 h1, g8_5 h1, g8_6 h1, g8_7 h1, g8_8 h1, ro8 h1, ro1 e1, C]
  · obtain ⟨⟨_, _, _, _, _, _, _, _, _, _, _, hm⟩, hA, -⟩ := id hr
    have L : ∀ k i X, i + k = S 12 5 → Run M_X9_judge 2 [.ref 88, .int (nI i), X] [] h = some (h, some (.int (fI (fwr S i k)))) := by
      intro k
      induction k with
      | zero =>
        intro i X hi
        have e : i = S 12 5 := by omega
        subst e
        simp only [r_X9_judge_2, r_X9_judge_3, r_X9_judge_4, r_X9_judge_7, r_X9_judge_70, r_X9_judge_71, ↓reduceIte, Option.isSome_some, Option.getD_some, rL_v, rL_n, cH_s, List.cons_append, List.nil_append, cat_i, cat_r, cat_n, ofN, g9_0 hm, g9_1 hm, g9_2 hm, g9_3 hm, g9_4 hm, g9_5 hm, g9_6 hm, g9_7 hm, g9_8 hm, g9_9 hm, g9_10 hm, g9_11 hm, g9_12 hm, g9_13 hm, g9_14 hm, g9_15 hm, g9_16 hm, g9_17 hm, g9_18 hm, g9_19 hm, g9_20 hm, g9_21 hm, g9_22 hm, g9_23 hm, g9_24 hm, g9_25 hm, g9_26 hm, g9_27 hm, g9_28 hm, g9_29 hm, g9_30 hm, g9_31 hm, g9_32 hm, g9_33 hm, g9_34 hm, g9_35 hm, g9_36 hm, g9_37 hm, g9_38 hm, g9_39 hm, ro9 hm, Int32.le_refl]
        rfl
      | succ k ih =>
        intro i X hi
        have hi2 : i < S 12 5 := by omega
        obtain ⟨c1, c2⟩ := b2 i hi2
        have q0 : ¬ nI (S 12 5) ≤ nI i := by rw [nI_le' (by omega) (by omega)]; omega
        have hmd : i % S 12 0 < S 12 0 := Nat.mod_lt _ (by omega)
        have nz : ¬ nI (S 12 0) = 0 := by
          rw [show (0 : Int32) = nI 0 from rfl, nI_inj (by omega) (by omega)]; omega
        have I := fun X => ih (i + 1) X (by omega)
        have rm := nI_rem (show i < 2147483648 by omega) (show 0 < S 12 0 by omega) (show S 12 0 < 2147483648 by omega)
        rw [r_X9_judge_2]
        simp only [fwr]
        by_cases a : S 11 (2 * i) = i % S 12 0
        · have cc := c_mayLast hI hr hmd c2
          cases hb : may S (i % S 12 0) (S 11 (2 * i + 1)) with
          | true =>
            rw [hb] at cc
            rw [if_pos ⟨a, rfl⟩]
            simp only [r_X9_judge_3, r_X9_judge_4, r_X9_judge_7, r_X9_judge_10, r_X9_judge_11, r_X9_judge_14, r_X9_judge_15, r_X9_judge_16, r_X9_judge_17, r_X9_judge_18, r_X9_judge_19, r_X9_judge_20, r_X9_judge_24, r_X9_judge_27, r_X9_judge_28, r_X9_judge_31, r_X9_judge_32, r_X9_judge_33, r_X9_judge_34, r_X9_judge_37, r_X9_judge_38, r_X9_judge_39, r_X9_judge_42, r_X9_judge_43, r_X9_judge_44, r_X9_judge_45, r_X9_judge_46, r_X9_judge_47, r_X9_judge_50, r_X9_judge_51, r_X9_judge_52, r_X9_judge_53, r_X9_judge_54, r_X9_judge_55, r_X9_judge_56, r_X9_judge_59, r_X9_judge_62, r_X9_judge_63, r_X9_judge_64, r_X9_judge_67, r_X9_judge_23 nz, ↓reduceIte, Option.isSome_some, Option.getD_some, rL_v, rL_n, cH_s, List.cons_append, List.nil_append, cat_i, cat_r, cat_n, ofN, g9_0 hm, g9_1 hm, g9_2 hm, g9_3 hm, g9_4 hm, g9_5 hm, g9_6 hm, g9_7 hm, g9_8 hm, g9_9 hm, g9_10 hm, g9_11 hm, g9_12 hm, g9_13 hm, g9_14 hm, g9_15 hm, g9_16 hm, g9_17 hm, g9_18 hm, g9_19 hm, g9_20 hm, g9_21 hm, g9_22 hm, g9_23 hm, g9_24 hm, g9_25 hm, g9_26 hm, g9_27 hm, g9_28 hm, g9_29 hm, g9_30 hm, g9_31 hm, g9_32 hm, g9_33 hm, g9_34 hm, g9_35 hm, g9_36 hm, g9_37 hm, g9_38 hm, g9_39 hm, ro9 hm, q0, nI_m, nI_add, gI_nI (hA 110 _ rfl) (by decide) (show 2 * i < 40 by omega), gI_nI (hA 110 _ rfl) (by decide) (show 2 * i + 1 < 40 by omega), rm, a, cc, t1, f0]
            exact I _
          | false =>
            rw [hb] at cc
            rw [if_neg (fun e => Bool.noConfusion e.2), fI_s]
            simp only [r_X9_judge_3, r_X9_judge_4, r_X9_judge_7, r_X9_judge_10, r_X9_judge_11, r_X9_judge_14, r_X9_judge_15, r_X9_judge_16, r_X9_judge_17, r_X9_judge_18, r_X9_judge_19, r_X9_judge_20, r_X9_judge_24, r_X9_judge_27, r_X9_judge_28, r_X9_judge_31, r_X9_judge_32, r_X9_judge_33, r_X9_judge_34, r_X9_judge_37, r_X9_judge_38, r_X9_judge_39, r_X9_judge_42, r_X9_judge_43, r_X9_judge_44, r_X9_judge_45, r_X9_judge_46, r_X9_judge_47, r_X9_judge_50, r_X9_judge_51, r_X9_judge_52, r_X9_judge_53, r_X9_judge_54, r_X9_judge_55, r_X9_judge_56, r_X9_judge_59, r_X9_judge_62, r_X9_judge_63, r_X9_judge_23 nz, ↓reduceIte, Option.isSome_some, Option.getD_some, rL_v, rL_n, cH_s, List.cons_append, List.nil_append, cat_i, cat_r, cat_n, ofN, g9_0 hm, g9_1 hm, g9_2 hm, g9_3 hm, g9_4 hm, g9_5 hm, g9_6 hm, g9_7 hm, g9_8 hm, g9_9 hm, g9_10 hm, g9_11 hm, g9_12 hm, g9_13 hm, g9_14 hm, g9_15 hm, g9_16 hm, g9_17 hm, g9_18 hm, g9_19 hm, g9_20 hm, g9_21 hm, g9_22 hm, g9_23 hm, g9_24 hm, g9_25 hm, g9_26 hm, g9_27 hm, g9_28 hm, g9_29 hm, g9_30 hm, g9_31 hm, g9_32 hm, g9_33 hm, g9_34 hm, g9_35 hm, g9_36 hm, g9_37 hm, g9_38 hm, g9_39 hm, ro9 hm, q0, nI_m, nI_add, gI_nI (hA 110 _ rfl) (by decide) (show 2 * i < 40 by omega), gI_nI (hA 110 _ rfl) (by decide) (show 2 * i + 1 < 40 by omega), rm, a, cc, t0, f0]
        · rw [if_neg (fun e => a e.1), fI_s]
          simp only [r_X9_judge_3, r_X9_judge_4, r_X9_judge_7, r_X9_judge_10, r_X9_judge_11, r_X9_judge_14, r_X9_judge_15, r_X9_judge_16, r_X9_judge_17, r_X9_judge_18, r_X9_judge_19, r_X9_judge_20, r_X9_judge_24, r_X9_judge_27, r_X9_judge_28, r_X9_judge_31, r_X9_judge_32, r_X9_judge_33, r_X9_judge_34, r_X9_judge_37, r_X9_judge_38, r_X9_judge_39, r_X9_judge_42, r_X9_judge_43, r_X9_judge_44, r_X9_judge_45, r_X9_judge_46, r_X9_judge_47, r_X9_judge_50, r_X9_judge_51, r_X9_judge_52, r_X9_judge_53, r_X9_judge_54, r_X9_judge_55, r_X9_judge_56, r_X9_judge_59, r_X9_judge_62, r_X9_judge_63, r_X9_judge_23 nz, ↓reduceIte, Option.isSome_some, Option.getD_some, rL_v, rL_n, cH_s, List.cons_append, List.nil_append, cat_i, cat_r, cat_n, ofN, g9_0 hm, g9_1 hm, g9_2 hm, g9_3 hm, g9_4 hm, g9_5 hm, g9_6 hm, g9_7 hm, g9_8 hm, g9_9 hm, g9_10 hm, g9_11 hm, g9_12 hm, g9_13 hm, g9_14 hm, g9_15 hm, g9_16 hm, g9_17 hm, g9_18 hm, g9_19 hm, g9_20 hm, g9_21 hm, g9_22 hm, g9_23 hm, g9_24 hm, g9_25 hm, g9_26 hm, g9_27 hm, g9_28 hm, g9_29 hm, g9_30 hm, g9_31 hm, g9_32 hm, g9_33 hm, g9_34 hm, g9_35 hm, g9_36 hm, g9_37 hm, g9_38 hm, g9_39 hm, ro9 hm, q0, nI_m, nI_add, gI_nI (hA 110 _ rfl) (by decide) (show 2 * i < 40 by omega), rm, nI_inj (show S 11 (2 * i) < 2147483648 by omega) (show i % S 12 0 < 2147483648 by omega), a]
    show Run M_X9_judge 0 [.ref 88, .null, .null] [] h = _
    simp only [r_X9_judge_0, r_X9_judge_1, ↓reduceIte, Option.isSome_some, Option.getD_some, rL_v, rL_n, cH_s, List.cons_append, List.nil_append, cat_i, cat_r, cat_n, ofN]
    exact L (S 12 5) 0 _ (by omega)
