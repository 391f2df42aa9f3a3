/-! ===== odds, costs: both ===== -/
theorem WA.ex {h : AH} {F : Nat → Nat} (w : WA h F) : ∃ f, h.2.2 107 = some (jA 421 f) := ⟨w.choose, w.choose_spec.1⟩
theorem c_goCost {h : AH} {S : SS} (hI : Inv S) (hr : RepM h S) {F : Nat → Nat} (hw : WA h F) {g : Nat} (hg : g ≤ 420) : Call M_X9_goCost h [.ref 88, .int (nI g)] = some (h, some (.long (lN (cst F (S 0 0) (S 0 1) g 0)))) := by
  obtain ⟨⟨_, _, _, _, _, _, _, _, _, _, _, hm⟩, hA, -⟩ := id hr
  have s := hA 89 _ rfl
  obtain ⟨gw, w1, w2⟩ := hw
  obtain ⟨a1, a2, -⟩ := hI.2.2.1.1
  have L : ∀ k i, i + k = 421 → Run M_X9_goCost 5 [.ref 88, .int (nI g), .long (lN (sm (fun t => F t * (S 0 0 * (t - g) + S 0 1 * (g - t))) i)), .null, .int (nI i)] [] h = some (h, some (.long (lN (cst F (S 0 0) (S 0 1) g 0)))) := by
    intro k
    induction k with
    | zero =>
      intro i hi
      have e : i = 421 := by omega
      subst e
      have q : nI 420 < nI 421 := by decide
      simp only [r_X9_goCost_0, r_X9_goCost_1, r_X9_goCost_2, r_X9_goCost_3, r_X9_goCost_5, r_X9_goCost_7, r_X9_goCost_10, r_X9_goCost_13, r_X9_goCost_14, r_X9_goCost_15, r_X9_goCost_18, r_X9_goCost_20, r_X9_goCost_21, r_X9_goCost_23, r_X9_goCost_24, r_X9_goCost_27, r_X9_goCost_28, r_X9_goCost_31, r_X9_goCost_32, r_X9_goCost_33, r_X9_goCost_35, r_X9_goCost_36, r_X9_goCost_37, r_X9_goCost_38, r_X9_goCost_41, r_X9_goCost_42, r_X9_goCost_45, r_X9_goCost_46, r_X9_goCost_47, r_X9_goCost_48, r_X9_goCost_50, r_X9_goCost_51, r_X9_goCost_52, r_X9_goCost_53, r_X9_goCost_54, r_X9_goCost_55, r_X9_goCost_56, r_X9_goCost_59, r_X9_goCost_62, r_X9_goCost_63, ↓reduceIte, Option.isSome_some, Option.getD_some, rL_v, rL_n, cH_s, List.cons_append, List.nil_append, cat_i, cat_r, cat_n, ofN, q]
      rfl
    | succ k ih =>
      intro i hi
      have q : ¬ nI 420 < nI i := by rw [nI_lt' (by omega) (by omega)]; omega
      have b1 : S 0 0 * (i - g) ≤ 20 * 420 := Nat.mul_le_mul a1 (by omega)
      have b2 : S 0 1 * (g - i) ≤ 20 * 420 := Nat.mul_le_mul a2 (by omega)
      have e1 : (nI (S 0 0 * (i - g))).toInt64 = lN (S 0 0 * (i - g)) := nI_l (by omega)
      have e2 : (nI (S 0 1 * (g - i))).toInt64 = lN (S 0 1 * (g - i)) := nI_l (by omega)
      have I := ih (i + 1) (by omega)
      simp only [sm] at I
      rw [r_X9_goCost_5]
      by_cases h1 : i ≤ g
      · have z : i - g = 0 := by omega
        rw [z, Nat.mul_zero, Nat.zero_add] at I
        simp only [r_X9_goCost_7, r_X9_goCost_10, r_X9_goCost_13, r_X9_goCost_14, r_X9_goCost_15, r_X9_goCost_18, r_X9_goCost_20, r_X9_goCost_21, r_X9_goCost_23, r_X9_goCost_24, r_X9_goCost_27, r_X9_goCost_28, r_X9_goCost_31, r_X9_goCost_32, r_X9_goCost_33, r_X9_goCost_35, r_X9_goCost_36, r_X9_goCost_37, r_X9_goCost_38, r_X9_goCost_41, r_X9_goCost_42, r_X9_goCost_45, r_X9_goCost_46, r_X9_goCost_47, r_X9_goCost_48, r_X9_goCost_50, r_X9_goCost_51, r_X9_goCost_52, r_X9_goCost_53, r_X9_goCost_54, r_X9_goCost_55, r_X9_goCost_56, r_X9_goCost_59, ↓reduceIte, Option.isSome_some, Option.getD_some, rL_v, rL_n, cH_s, List.cons_append, List.nil_append, cat_i, cat_r, cat_n, ofN, g9_0 hm, g9_1 hm, g9_2 hm, g9_3 hm, g9_4 hm, g9_5 hm, g9_6 hm, g9_7 hm, g9_8 hm, g9_9 hm, g9_10 hm, g9_11 hm, g9_12 hm, g9_13 hm, g9_14 hm, g9_15 hm, g9_16 hm, g9_17 hm, g9_18 hm, g9_19 hm, g9_20 hm, g9_21 hm, g9_22 hm, g9_23 hm, g9_24 hm, g9_25 hm, g9_26 hm, g9_27 hm, g9_28 hm, g9_29 hm, g9_30 hm, g9_31 hm, g9_32 hm, g9_33 hm, g9_34 hm, g9_35 hm, g9_36 hm, g9_37 hm, g9_38 hm, g9_39 hm, ro9 hm, q, gJ_nI w1 (by decide) (by decide) (show i < 421 by omega), w2 i (by omega), nI_le' (show i < 2147483648 by omega) (show g < 2147483648 by omega), h1, gI_nI s (by decide) (show 1 < 19 by decide), nI_s h1, nI_m, e2, lN_mul, lN_add, nI_add]
        exact I
      · have z : g - i = 0 := by omega
        rw [z, Nat.mul_zero, Nat.add_zero] at I
        simp only [r_X9_goCost_7, r_X9_goCost_10, r_X9_goCost_13, r_X9_goCost_14, r_X9_goCost_15, r_X9_goCost_18, r_X9_goCost_20, r_X9_goCost_21, r_X9_goCost_23, r_X9_goCost_24, r_X9_goCost_27, r_X9_goCost_28, r_X9_goCost_31, r_X9_goCost_32, r_X9_goCost_33, r_X9_goCost_35, r_X9_goCost_36, r_X9_goCost_37, r_X9_goCost_38, r_X9_goCost_41, r_X9_goCost_42, r_X9_goCost_45, r_X9_goCost_46, r_X9_goCost_47, r_X9_goCost_48, r_X9_goCost_50, r_X9_goCost_51, r_X9_goCost_52, r_X9_goCost_53, r_X9_goCost_54, r_X9_goCost_55, r_X9_goCost_56, r_X9_goCost_59, ↓reduceIte, Option.isSome_some, Option.getD_some, rL_v, rL_n, cH_s, List.cons_append, List.nil_append, cat_i, cat_r, cat_n, ofN, g9_0 hm, g9_1 hm, g9_2 hm, g9_3 hm, g9_4 hm, g9_5 hm, g9_6 hm, g9_7 hm, g9_8 hm, g9_9 hm, g9_10 hm, g9_11 hm, g9_12 hm, g9_13 hm, g9_14 hm, g9_15 hm, g9_16 hm, g9_17 hm, g9_18 hm, g9_19 hm, g9_20 hm, g9_21 hm, g9_22 hm, g9_23 hm, g9_24 hm, g9_25 hm, g9_26 hm, g9_27 hm, g9_28 hm, g9_29 hm, g9_30 hm, g9_31 hm, g9_32 hm, g9_33 hm, g9_34 hm, g9_35 hm, g9_36 hm, g9_37 hm, g9_38 hm, g9_39 hm, ro9 hm, q, gJ_nI w1 (by decide) (by decide) (show i < 421 by omega), w2 i (by omega), nI_le' (show i < 2147483648 by omega) (show g < 2147483648 by omega), h1, gI_nI s (by decide) (show 0 < 19 by decide), nI_s (show g ≤ i by omega), nI_m, e1, lN_mul, lN_add, nI_add]
        exact I
  show Run M_X9_goCost 0 [.ref 88, .int (nI g), .null, .null, .null] [] h = _
  simp only [r_X9_goCost_0, r_X9_goCost_1, r_X9_goCost_2, r_X9_goCost_3, ↓reduceIte, Option.isSome_some, Option.getD_some, rL_v, rL_n, cH_s, List.cons_append, List.nil_append, cat_i, cat_r, cat_n, ofN]
  exact L 421 0 (by omega)
theorem c_most0 {h : AH} {a b : Nat} (ha : a < 1000000) (hb : b < 1000000) : Call M_X9_most h [.int (nI 0), .int (nI a - nI b)] = some (h, some (.int (nI (a - b)))) := by
  show Run M_X9_most 0 [.int (nI 0), .int (nI a - nI b)] [] h = _
  by_cases h1 : b ≤ a
  · rw [nI_s h1]
    have q : nI 0 ≤ nI (a - b) := by rw [nI_le' (by decide) (by omega)]; omega
    simp only [r_X9_most_0, r_X9_most_1, r_X9_most_2, r_X9_most_5, r_X9_most_6, r_X9_most_9, r_X9_most_10, ↓reduceIte, Option.isSome_some, Option.getD_some, rL_v, rL_n, cH_s, List.cons_append, List.nil_append, cat_i, cat_r, cat_n, ofN, q]
  · have q : ¬ nI 0 ≤ nI a - nI b := by
      have := pk_sneg (a := a) (b := b) (by omega) (by omega)
      rw [← i_lt]; exact this
    simp only [r_X9_most_0, r_X9_most_1, r_X9_most_2, r_X9_most_5, r_X9_most_6, r_X9_most_9, r_X9_most_10, ↓reduceIte, Option.isSome_some, Option.getD_some, rL_v, rL_n, cH_s, List.cons_append, List.nil_append, cat_i, cat_r, cat_n, ofN, q]
    rw [show a - b = 0 by omega]
theorem c_liftCost {h : AH} {S : SS} (hI : Inv S) (hr : RepM h S) {F : Nat → Nat} (hw : WA h F) {g d : Nat} (hg : g ≤ 420) (hd : d ≤ 60) : Call M_X9_liftCost h [.ref 88, .int (nI g), .int (nI d)] = some (h, some (.long (lN (cst F (S 0 2) (S 0 1) g d)))) := by
  obtain ⟨⟨_, _, _, _, _, _, _, _, _, _, _, hm⟩, hA, -⟩ := id hr
  have s := hA 89 _ rfl
  obtain ⟨gw, w1, w2⟩ := hw
  obtain ⟨a1, a2, a3, -⟩ := hI.2.2.1.1
  have L : ∀ k i x6, i + k = 421 → Run M_X9_liftCost 5 [.ref 88, .int (nI g), .int (nI d), .long (lN (sm (fun t => F t * (S 0 2 * (t - g) + S 0 1 * (g + d - t))) i)), .null, .int (nI i), x6] [] h = some (h, some (.long (lN (cst F (S 0 2) (S 0 1) g d)))) := by
    intro k
    induction k with
    | zero =>
      intro i x6 hi
      have e : i = 421 := by omega
      subst e
      have q : nI 420 < nI 421 := by decide
      simp only [r_X9_liftCost_0, r_X9_liftCost_1, r_X9_liftCost_2, r_X9_liftCost_3, r_X9_liftCost_5, r_X9_liftCost_7, r_X9_liftCost_10, r_X9_liftCost_13, r_X9_liftCost_14, r_X9_liftCost_17, r_X9_liftCost_18, r_X9_liftCost_19, r_X9_liftCost_20, r_X9_liftCost_22, r_X9_liftCost_23, r_X9_liftCost_24, r_X9_liftCost_27, r_X9_liftCost_28, r_X9_liftCost_29, r_X9_liftCost_32, r_X9_liftCost_33, r_X9_liftCost_34, r_X9_liftCost_35, r_X9_liftCost_36, r_X9_liftCost_37, r_X9_liftCost_38, r_X9_liftCost_40, r_X9_liftCost_41, r_X9_liftCost_44, r_X9_liftCost_45, r_X9_liftCost_46, r_X9_liftCost_48, r_X9_liftCost_49, r_X9_liftCost_50, r_X9_liftCost_53, r_X9_liftCost_55, r_X9_liftCost_56, r_X9_liftCost_58, r_X9_liftCost_59, r_X9_liftCost_60, r_X9_liftCost_61, r_X9_liftCost_62, r_X9_liftCost_65, r_X9_liftCost_68, r_X9_liftCost_69, ↓reduceIte, Option.isSome_some, Option.getD_some, rL_v, rL_n, cH_s, List.cons_append, List.nil_append, cat_i, cat_r, cat_n, ofN, q]
      rfl
    | succ k ih =>
      intro i x6 hi
      have q : ¬ nI 420 < nI i := by rw [nI_lt' (by omega) (by omega)]; omega
      have b1 : S 0 2 * (i - g) ≤ 20 * 420 := Nat.mul_le_mul a3 (by omega)
      have b2 : S 0 1 * (g + d - i) ≤ 20 * 480 := Nat.mul_le_mul a2 (by omega)
      have e1 : (nI (S 0 2 * (i - g) + S 0 1 * (g + d - i))).toInt64 = lN (S 0 2 * (i - g) + S 0 1 * (g + d - i)) := nI_l (by omega)
      rw [r_X9_liftCost_5]
      simp only [r_X9_liftCost_7, r_X9_liftCost_10, r_X9_liftCost_13, r_X9_liftCost_14, r_X9_liftCost_17, r_X9_liftCost_18, r_X9_liftCost_19, r_X9_liftCost_20, r_X9_liftCost_22, r_X9_liftCost_23, r_X9_liftCost_24, r_X9_liftCost_27, r_X9_liftCost_28, r_X9_liftCost_29, r_X9_liftCost_32, r_X9_liftCost_33, r_X9_liftCost_34, r_X9_liftCost_35, r_X9_liftCost_36, r_X9_liftCost_37, r_X9_liftCost_38, r_X9_liftCost_40, r_X9_liftCost_41, r_X9_liftCost_44, r_X9_liftCost_45, r_X9_liftCost_46, r_X9_liftCost_48, r_X9_liftCost_49, r_X9_liftCost_50, r_X9_liftCost_53, r_X9_liftCost_55, r_X9_liftCost_56, r_X9_liftCost_58, r_X9_liftCost_59, r_X9_liftCost_60, r_X9_liftCost_61, r_X9_liftCost_62, r_X9_liftCost_65, ↓reduceIte, Option.isSome_some, Option.getD_some, rL_v, rL_n, cH_s, List.cons_append, List.nil_append, cat_i, cat_r, cat_n, ofN, g9_0 hm, g9_1 hm, g9_2 hm, g9_3 hm, g9_4 hm, g9_5 hm, g9_6 hm, g9_7 hm, g9_8 hm, g9_9 hm, g9_10 hm, g9_11 hm, g9_12 hm, g9_13 hm, g9_14 hm, g9_15 hm, g9_16 hm, g9_17 hm, g9_18 hm, g9_19 hm, g9_20 hm, g9_21 hm, g9_22 hm, g9_23 hm, g9_24 hm, g9_25 hm, g9_26 hm, g9_27 hm, g9_28 hm, g9_29 hm, g9_30 hm, g9_31 hm, g9_32 hm, g9_33 hm, g9_34 hm, g9_35 hm, g9_36 hm, g9_37 hm, g9_38 hm, g9_39 hm, ro9 hm, q, gI_nI s (by decide) (show 2 < 19 by decide), gI_nI s (by decide) (show 1 < 19 by decide), nI_add, c_most0 (h := h) (show i < 1000000 by omega) (show g < 1000000 by omega), c_most0 (h := h) (show g + d < 1000000 by omega) (show i < 1000000 by omega), nI_m, gJ_nI w1 (by decide) (by decide) (show i < 421 by omega), w2 i (by omega), e1, lN_mul, lN_add]
      exact ih (i + 1) _ (by omega)
  show Run M_X9_liftCost 0 [.ref 88, .int (nI g), .int (nI d), .null, .null, .null, .null] [] h = _
  simp only [r_X9_liftCost_0, r_X9_liftCost_1, r_X9_liftCost_2, r_X9_liftCost_3, ↓reduceIte, Option.isSome_some, Option.getD_some, rL_v, rL_n, cH_s, List.cons_append, List.nil_append, cat_i, cat_r, cat_n, ofN]
  exact L 421 0 _ (by omega)
theorem cst_lt {S : SS} (hS : HOk S) {e l a d : Nat} (he : e ≤ 20) (hl : l ≤ 20) (ha : a ≤ 420) (hd : d ≤ 60) : cst (Wt S (S 12 0)) e l a d ≤ 34359738368 * 18000 := by
  have h1 := cst_le (Wt S (S 12 0)) he hl ha hd
  have h2 := Ch_lt hS (p := S 12 0) (Nat.le_refl _)
  have h3 : sm (Wt S (S 12 0)) 421 = Ch S (S 12 0) := En_all hS
  rw [h3] at h1
  exact Nat.le_trans h1 (Nat.mul_le_mul_right _ h2)
abbrev bGo (S : SS) : Nat := am (fun a => cst (Wt S (S 12 0)) (S 0 0) (S 0 1) a 0) 420
abbrev bLi (S : SS) (d : Nat) : Nat := am (fun a => cst (Wt S (S 12 0)) (S 0 2) (S 0 1) a d) 420
theorem c_mBestGo {h : AH} {S : SS} (hI : Inv S) (hr : RepM h S) : ∃ h', Call M_X9_bestGo h [.ref 88] = some (h', some (.int (nI (bGo S)))) ∧ RepM h' S ∧ WS h h' ∧ WA h' (Wt S (S 12 0)) := by
  have hS := hI.1
  obtain ⟨a1, a2, a3, -⟩ := hI.2.2.1.1
  obtain ⟨h', cf, hw, hWA, hb⟩ := c_findWeights hS hr (Nat.le_refl _)
  have hr' := hr.ws hw hWA.ex hb
  obtain ⟨⟨_, _, _, _, _, _, _, _, _, _, _, hm⟩, -⟩ := id hr
  obtain ⟨⟨_, _, _, _, _, _, _, _, _, _, _, hm'⟩, -⟩ := id hr'
  refine ⟨h', ?_, hr', hw, hWA⟩
  have L : ∀ k i, i + k = 420 → Run M_X9_bestGo 12 [.ref 88, .int (nI (am (fun a => cst (Wt S (S 12 0)) (S 0 0) (S 0 1) a 0) i)), .int (nI (i + 1))] [] h' = some (h', some (.int (nI (bGo S)))) := by
    intro k
    induction k with
    | zero =>
      intro i hi
      have e : i = 420 := by omega
      subst e
      have q : nI 420 < nI (420 + 1) := by decide
      simp only [r_X9_bestGo_0, r_X9_bestGo_1, r_X9_bestGo_2, r_X9_bestGo_5, r_X9_bestGo_8, r_X9_bestGo_9, r_X9_bestGo_10, r_X9_bestGo_11, r_X9_bestGo_12, r_X9_bestGo_13, r_X9_bestGo_16, r_X9_bestGo_19, r_X9_bestGo_20, r_X9_bestGo_21, r_X9_bestGo_24, r_X9_bestGo_25, r_X9_bestGo_26, r_X9_bestGo_29, r_X9_bestGo_30, r_X9_bestGo_33, r_X9_bestGo_34, r_X9_bestGo_37, r_X9_bestGo_38, r_X9_bestGo_39, r_X9_bestGo_42, r_X9_bestGo_45, r_X9_bestGo_46, ↓reduceIte, Option.isSome_some, Option.getD_some, rL_v, rL_n, cH_s, List.cons_append, List.nil_append, cat_i, cat_r, cat_n, ofN, q]
    | succ k ih =>
      intro i hi
      have q : ¬ nI 420 < nI (i + 1) := by rw [nI_lt' (by omega) (by omega)]; omega
      have am1 := am_le (fun a => cst (Wt S (S 12 0)) (S 0 0) (S 0 1) a 0) i
      have I := ih (i + 1) (by omega)
      have l1 := cst_lt hS a1 a2 (show i + 1 ≤ 420 by omega) (show 0 ≤ 60 by decide)
      have l2 := cst_lt hS a1 a2 (show am (fun a => cst (Wt S (S 12 0)) (S 0 0) (S 0 1) a 0) i ≤ 420 by omega) (show 0 ≤ 60 by decide)
      rw [r_X9_bestGo_12]
      simp only [r_X9_bestGo_13, r_X9_bestGo_16, r_X9_bestGo_19, r_X9_bestGo_20, r_X9_bestGo_21, r_X9_bestGo_24, r_X9_bestGo_25, r_X9_bestGo_26, r_X9_bestGo_29, r_X9_bestGo_30, r_X9_bestGo_33, r_X9_bestGo_34, r_X9_bestGo_37, r_X9_bestGo_38, r_X9_bestGo_39, r_X9_bestGo_42, ↓reduceIte, Option.isSome_some, Option.getD_some, rL_v, rL_n, cH_s, List.cons_append, List.nil_append, cat_i, cat_r, cat_n, ofN, ro9 hm', q, c_goCost hI hr' hWA (show i + 1 ≤ 420 by omega), c_goCost hI hr' hWA (show am (fun a => cst (Wt S (S 12 0)) (S 0 0) (S 0 1) a 0) i ≤ 420 by omega), cmp_ge, lN_le' (show cst (Wt S (S 12 0)) (S 0 0) (S 0 1) (am (fun a => cst (Wt S (S 12 0)) (S 0 0) (S 0 1) a 0) i) 0 < 9223372036854775808 by omega) (show cst (Wt S (S 12 0)) (S 0 0) (S 0 1) (i + 1) 0 < 9223372036854775808 by omega), nI_add]
      have hs : am (fun a => cst (Wt S (S 12 0)) (S 0 0) (S 0 1) a 0) (i + 1) = if cst (Wt S (S 12 0)) (S 0 0) (S 0 1) (i + 1) 0 < cst (Wt S (S 12 0)) (S 0 0) (S 0 1) (am (fun a => cst (Wt S (S 12 0)) (S 0 0) (S 0 1) a 0) i) 0 then i + 1 else am (fun a => cst (Wt S (S 12 0)) (S 0 0) (S 0 1) a 0) i := rfl
      by_cases h1 : cst (Wt S (S 12 0)) (S 0 0) (S 0 1) (i + 1) 0 < cst (Wt S (S 12 0)) (S 0 0) (S 0 1) (am (fun a => cst (Wt S (S 12 0)) (S 0 0) (S 0 1) a 0) i) 0
      · rw [if_pos h1] at hs
        rw [hs] at I
        rw [if_neg (by omega)]; exact I
      · rw [if_neg h1] at hs
        rw [hs] at I
        rw [if_pos (by omega)]; exact I
  show Run M_X9_bestGo 0 [.ref 88, .null, .null] [] h = _
  simp only [r_X9_bestGo_0, r_X9_bestGo_1, r_X9_bestGo_2, r_X9_bestGo_5, r_X9_bestGo_8, r_X9_bestGo_9, r_X9_bestGo_10, r_X9_bestGo_11, ↓reduceIte, Option.isSome_some, Option.getD_some, rL_v, rL_n, cH_s, List.cons_append, List.nil_append, cat_i, cat_r, cat_n, ofN, g9_0 hm, g9_1 hm, g9_2 hm, g9_3 hm, g9_4 hm, g9_5 hm, g9_6 hm, g9_7 hm, g9_8 hm, g9_9 hm, g9_10 hm, g9_11 hm, g9_12 hm, g9_13 hm, g9_14 hm, g9_15 hm, g9_16 hm, g9_17 hm, g9_18 hm, g9_19 hm, g9_20 hm, g9_21 hm, g9_22 hm, g9_23 hm, g9_24 hm, g9_25 hm, g9_26 hm, g9_27 hm, g9_28 hm, g9_29 hm, g9_30 hm, g9_31 hm, g9_32 hm, g9_33 hm, g9_34 hm, g9_35 hm, g9_36 hm, g9_37 hm, g9_38 hm, g9_39 hm, ro9 hm, cf]
  exact L 420 0 (by omega)
theorem c_cheapestGo {h : AH} {S : SS} {o : Nat} (hI : Inv S) (hr : RepCo h S o) : Call M_X8_cheapestGo h [.ref 1] = some (h, some (.int (nI (bGo S)))) := by
  obtain ⟨a1, a2, a3, -⟩ := hI.2.2.1.1
  obtain ⟨h0, h1, -, ⟨hH, -, -, -, hA, -⟩, -, hE, -⟩ := hr
  have hA1 := hA.1
  have hE1 := hE.1
  show Run M_X8_cheapestGo 0 [.ref 1] [] h = _
  simp only [r_X8_cheapestGo_0, r_X8_cheapestGo_1, r_X8_cheapestGo_4, r_X8_cheapestGo_5, r_X8_cheapestGo_8, r_X8_cheapestGo_11, r_X8_cheapestGo_14, r_X8_cheapestGo_15, r_X8_cheapestGo_18, r_X8_cheapestGo_21, r_X8_cheapestGo_24, r_X8_cheapestGo_25, r_X8_cheapestGo_28, ↓reduceIte, Option.isSome_some, Option.getD_some, rL_v, rL_n, cH_s, List.cons_append, List.nil_append, cat_i, cat_r, cat_n, ofN, g8_0 h1, g8_1 h1, g8_2 h1, g8_3 h1, g8_4 h1, g8_5 h1, g8_6 h1, g8_7 h1, g8_8 h1, ro8 h1, g4_0 hH, g4_1 hH, g4_2 hH, g4_3 hH, g4_4 hH, g4_5 hH, g4_6 hH, ro4 hH, g0_0 hA1, g0_1 hA1, g0_2 hA1, g0_3 hA1, g0_4 hA1, g0_5 hA1, g0_6 hA1, g0_7 hA1, g0_8 hA1, g0_9 hA1, g0_10 hA1, ro0 hA1, ro2 hE1, c_cheapest hE hI.1 a1 a2 (show 0 ≤ 60 by decide)]
theorem c_cGoCost {h : AH} {S : SS} {o g : Nat} (hI : Inv S) (hr : RepCo h S o) (hg : g ≤ 420) : Call M_X8_goCost h [.ref 1, .int (nI g)] = some (h, some (.long (lN (cst (Wt S (S 12 0)) (S 0 0) (S 0 1) g 0)))) := by
  obtain ⟨a1, a2, a3, -⟩ := hI.2.2.1.1
  obtain ⟨h0, h1, -, ⟨hH, -, -, -, hA, -⟩, -, hE, -⟩ := hr
  have hA1 := hA.1
  have hE1 := hE.1
  show Run M_X8_goCost 0 [.ref 1, .int (nI g)] [] h = _
  simp only [r_X8_goCost_0, r_X8_goCost_1, r_X8_goCost_4, r_X8_goCost_5, r_X8_goCost_8, r_X8_goCost_11, r_X8_goCost_14, r_X8_goCost_15, r_X8_goCost_18, r_X8_goCost_21, r_X8_goCost_24, r_X8_goCost_25, r_X8_goCost_26, r_X8_goCost_29, ↓reduceIte, Option.isSome_some, Option.getD_some, rL_v, rL_n, cH_s, List.cons_append, List.nil_append, cat_i, cat_r, cat_n, ofN, g8_0 h1, g8_1 h1, g8_2 h1, g8_3 h1, g8_4 h1, g8_5 h1, g8_6 h1, g8_7 h1, g8_8 h1, ro8 h1, g4_0 hH, g4_1 hH, g4_2 hH, g4_3 hH, g4_4 hH, g4_5 hH, g4_6 hH, ro4 hH, g0_0 hA1, g0_1 hA1, g0_2 hA1, g0_3 hA1, g0_4 hA1, g0_5 hA1, g0_6 hA1, g0_7 hA1, g0_8 hA1, g0_9 hA1, g0_10 hA1, ro0 hA1, ro2 hE1, c_cost hE hI.1 (show S 0 0 < 2147483648 by omega) (show S 0 1 < 2147483648 by omega) hg (show 0 ≤ 60 by decide)]
theorem op_bestGo {S : SS} (hI : Inv S) : OpV M_X8_bestGo M_X9_bestGo [] S := by
  refine ⟨.int (nI (bGo S)), S, hI, fun h ⟨o, hr⟩ => ⟨h, ?_, ⟨o, hr⟩, frC.rf⟩, fun h hr => ?_⟩
  · have h1 := hr.2.1
    show Run M_X8_bestGo 0 [.ref 1] [] h = _
    simp only [r_X8_bestGo_0, r_X8_bestGo_1, r_X8_bestGo_4, ↓reduceIte, Option.isSome_some, Option.getD_some, rL_v, rL_n, cH_s, List.cons_append, List.nil_append, cat_i, cat_r, cat_n, ofN, ro8 h1, c_cheapestGo hI hr]
  · obtain ⟨h', a, b, c, -⟩ := c_mBestGo hI hr
    exact ⟨h', a, b, c.frM⟩
theorem low01 {q : Nat} (hq : q ≤ 1) : (nI q = nI 0 ∨ nI q = nI 1) := by
  rcases (show q = 0 ∨ q = 1 by omega) with rfl | rfl
  · exact Or.inl rfl
  · exact Or.inr rfl
theorem op_ends {S : SS} (hI : Inv S) (x y : Int32) : OpV M_X8_ends M_X9_ends [.int x, .int y] S := by
  have hS := hI.1
  by_cases hx : nI 0 ≤ x ∧ x ≤ nI 420
  · by_cases hy : nI 0 ≤ y ∧ y ≤ nI 1
    · obtain ⟨t, ht, rfl⟩ := rng (by decide) hx
      obtain ⟨q, hq, rfl⟩ := rng (by decide) hy
      have hy2 := low01 hq
      have p1 := Ch_pos hS (S 12 0) (Nat.le_refl _)
      have p2 := Ch_lt hS (p := S 12 0) (Nat.le_refl _)
      have p3 : Wt S (S 12 0) t ≤ Ch S (S 12 0) := by
        have := En_le hS ht
        have h2 : Wt S (S 12 0) t ≤ sm (Wt S (S 12 0)) (t + 1) := by simp only [sm]; omega
        exact Nat.le_trans h2 this
      refine ⟨.long (lN (low (Wt S (S 12 0) t) (Ch S (S 12 0)) q)), S, hI, fun h ⟨o, hr⟩ => ⟨h, ?_, ⟨o, hr⟩, frC.rf⟩, fun h hr => ?_⟩
      · obtain ⟨h0, h1, -, -, -, hE, -⟩ := hr
        have hE1 := hE.1
        have ca := c_all hE
        rw [En_all hS] at ca
        show Run M_X8_ends 0 [.ref 1, .int (nI t), .int (nI q)] [] h = _
        simp only [r_X8_ends_0, r_X8_ends_1, r_X8_ends_4, r_X8_ends_7, r_X8_ends_8, r_X8_ends_11, r_X8_ends_14, r_X8_ends_17, r_X8_ends_18, r_X8_ends_19, r_X8_ends_22, r_X8_ends_23, r_X8_ends_26, r_X8_ends_27, r_X8_ends_30, r_X8_ends_33, r_X8_ends_34, r_X8_ends_37, ↓reduceIte, Option.isSome_some, Option.getD_some, rL_v, rL_n, cH_s, List.cons_append, List.nil_append, cat_i, cat_r, cat_n, ofN, g8_0 h1, g8_1 h1, g8_2 h1, g8_3 h1, g8_4 h1, g8_5 h1, g8_6 h1, g8_7 h1, g8_8 h1, ro8 h1, ro2 hE1, c_isTenth, c_isSide, ite_bI, hx, and_self, hy2, c_endingAt hE hS ht, ca, c_inLowest (h := h) (a := Wt S (S 12 0) t) (b := Ch S (S 12 0)) (show _ < _ by omega) (by omega) (by omega) (show q < 2 by omega)]
      · obtain ⟨h', cf, hw, hWA, hb⟩ := c_findWeights hS hr (Nat.le_refl _)
        have hr' := hr.ws hw hWA.ex hb
        obtain ⟨⟨_, _, _, _, _, _, _, _, _, _, _, hm⟩, -⟩ := id hr
        obtain ⟨⟨_, _, _, _, _, _, _, _, _, _, _, hm'⟩, -⟩ := id hr'
        obtain ⟨gw, w1, w2⟩ := hWA
        have cw := c_whole hS hr' (Nat.zero_le (S 12 0)) (Nat.le_refl _)
        rw [Nat.sub_zero, Wh_Ch] at cw
        refine ⟨h', ?_, hr', hw.frM⟩
        show Run M_X9_ends 0 [.ref 88, .int (nI t), .int (nI q)] [] h = _
        simp only [r_X9_ends_0, r_X9_ends_1, r_X9_ends_4, r_X9_ends_7, r_X9_ends_8, r_X9_ends_9, r_X9_ends_10, r_X9_ends_13, r_X9_ends_16, r_X9_ends_19, r_X9_ends_20, r_X9_ends_21, r_X9_ends_22, r_X9_ends_25, r_X9_ends_28, r_X9_ends_29, r_X9_ends_32, r_X9_ends_33, r_X9_ends_34, r_X9_ends_35, r_X9_ends_36, r_X9_ends_37, r_X9_ends_40, r_X9_ends_43, r_X9_ends_44, r_X9_ends_47, ↓reduceIte, Option.isSome_some, Option.getD_some, rL_v, rL_n, cH_s, List.cons_append, List.nil_append, cat_i, cat_r, cat_n, ofN, g9_0 hm, g9_1 hm, g9_2 hm, g9_3 hm, g9_4 hm, g9_5 hm, g9_6 hm, g9_7 hm, g9_8 hm, g9_9 hm, g9_10 hm, g9_11 hm, g9_12 hm, g9_13 hm, g9_14 hm, g9_15 hm, g9_16 hm, g9_17 hm, g9_18 hm, g9_19 hm, g9_20 hm, g9_21 hm, g9_22 hm, g9_23 hm, g9_24 hm, g9_25 hm, g9_26 hm, g9_27 hm, g9_28 hm, g9_29 hm, g9_30 hm, g9_31 hm, g9_32 hm, g9_33 hm, g9_34 hm, g9_35 hm, g9_36 hm, g9_37 hm, g9_38 hm, g9_39 hm, ro9 hm, g9_0 hm', g9_1 hm', g9_2 hm', g9_3 hm', g9_4 hm', g9_5 hm', g9_6 hm', g9_7 hm', g9_8 hm', g9_9 hm', g9_10 hm', g9_11 hm', g9_12 hm', g9_13 hm', g9_14 hm', g9_15 hm', g9_16 hm', g9_17 hm', g9_18 hm', g9_19 hm', g9_20 hm', g9_21 hm', g9_22 hm', g9_23 hm', g9_24 hm', g9_25 hm', g9_26 hm', g9_27 hm', g9_28 hm', g9_29 hm', g9_30 hm', g9_31 hm', g9_32 hm', g9_33 hm', g9_34 hm', g9_35 hm', g9_36 hm', g9_37 hm', g9_38 hm', g9_39 hm', ro9 hm', c_mTenth, c_in, ite_bI, hx, hy, and_self, cf, gJ_nI w1 (by decide) (by decide) (show t < 421 by omega), w2 t (by omega), cw, c_share (h := h') (a := Wt S (S 12 0) t) (b := Ch S (S 12 0)) (show _ < _ by omega) (by omega) (by omega) (show q < 2 by omega)]
    · have hy2 : ¬ (y = nI 0 ∨ y = nI 1) := fun e => hy (in01.mpr e)
      refine OpV.read (r := .long (-1000000002)) hI (fun h hr => ?_) (fun h hr => ?_)
      · show Run M_X8_ends 0 [.ref 1, .int x, .int y] [] h = _
        simp only [r_X8_ends_0, r_X8_ends_1, r_X8_ends_4, r_X8_ends_7, r_X8_ends_8, r_X8_ends_11, r_X8_ends_14, r_X8_ends_17, ↓reduceIte, Option.isSome_some, Option.getD_some, rL_v, rL_n, cH_s, List.cons_append, List.nil_append, cat_i, cat_r, cat_n, ofN, c_isTenth, c_isSide, ite_bI, hx, and_self, hy2]
      · show Run M_X9_ends 0 [.ref 88, .int x, .int y] [] h = _
        simp only [r_X9_ends_0, r_X9_ends_1, r_X9_ends_4, r_X9_ends_7, r_X9_ends_8, r_X9_ends_9, r_X9_ends_10, r_X9_ends_13, r_X9_ends_16, r_X9_ends_19, ↓reduceIte, Option.isSome_some, Option.getD_some, rL_v, rL_n, cH_s, List.cons_append, List.nil_append, cat_i, cat_r, cat_n, ofN, c_mTenth, c_in, ite_bI, hx, hy, and_self]
  · refine OpV.read (r := .long (-1000000002)) hI (fun h hr => ?_) (fun h hr => ?_)
    · show Run M_X8_ends 0 [.ref 1, .int x, .int y] [] h = _
      simp only [r_X8_ends_0, r_X8_ends_1, r_X8_ends_4, r_X8_ends_7, r_X8_ends_8, r_X8_ends_11, r_X8_ends_14, r_X8_ends_17, ↓reduceIte, Option.isSome_some, Option.getD_some, rL_v, rL_n, cH_s, List.cons_append, List.nil_append, cat_i, cat_r, cat_n, ofN, c_isTenth, ite_bI, hx]
    · show Run M_X9_ends 0 [.ref 88, .int x, .int y] [] h = _
      simp only [r_X9_ends_0, r_X9_ends_1, r_X9_ends_4, r_X9_ends_7, r_X9_ends_8, r_X9_ends_9, r_X9_ends_10, r_X9_ends_13, r_X9_ends_16, r_X9_ends_19, ↓reduceIte, Option.isSome_some, Option.getD_some, rL_v, rL_n, cH_s, List.cons_append, List.nil_append, cat_i, cat_r, cat_n, ofN, c_mTenth, ite_bI, hx]
