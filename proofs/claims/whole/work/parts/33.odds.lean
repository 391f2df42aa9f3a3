/-! ===== EndOdds ===== -/
theorem c_sumUp {h : AH} {e : Nat} {ea ta b c : Nat} {pt : Int32} {G : Nat → Nat} {g1 g2 : Nat → Int64} {ra : Nat} (he : h.2.2 e = some (oEo b c ea ta pt)) (hra : h.2.2 ra = some (jA 421 (fun t => lN (G t)))) (h1 : h.2.2 ea = some (jA 421 g1)) (h2 : h.2.2 ta = some (jA 421 g2)) (n1 : ea ≠ ta) (n2 : ra ≠ ea) (n3 : ra ≠ ta) (z1 : ea ≠ 0) (z2 : ta ≠ 0) (z3 : ra ≠ 0) :
    Call M_X2_sumUp h [.ref e, .ref ra] = some (hup (hup h ea (jA 421 (fun t => if t < 421 then lN (sm G (t + 1)) else g1 t))) ta (jA 421 (fun t => if t < 421 then lN (sm (fun u => G u * u) (t + 1)) else g2 t)), none) := by
  show Run M_X2_sumUp 0 [.ref e, .ref ra, .null, .null, .null, .null, .null] [] h = _
  have L : ∀ (k i : Nat) (H : AH) (f1 f2 : Nat → Int64), i + k = 421 → H.2.2 e = some (oEo b c ea ta pt) → H.2.2 ra = some (jA 421 (fun t => lN (G t))) → H.2.2 ea = some (jA 421 f1) → H.2.2 ta = some (jA 421 f2) →
      Run M_X2_sumUp 8 [.ref e, .ref ra, .long (lN (sm G i)), .null, .long (lN (sm (fun u => G u * u) i)), .null, .int (nI i)] [] H = some (hup (hup H ea (jA 421 (fun t => if i ≤ t ∧ t < 421 then lN (sm G (t + 1)) else f1 t))) ta (jA 421 (fun t => if i ≤ t ∧ t < 421 then lN (sm (fun u => G u * u) (t + 1)) else f2 t)), none) := by
    intro k
    induction k with
    | zero =>
      intro i H f1 f2 hi hE hR h1 h2
      have hi : i = 421 := by omega
      subst hi
      rw [hup_same (h := H) (a := ea) (by rw [h1]; congr 4; funext t; rw [if_neg (by omega)]), hup_same (h := H) (a := ta) (by rw [h2]; congr 4; funext t; rw [if_neg (by omega)])]
      have q : nI 420 < nI 421 := by decide
      simp only [r_X2_sumUp_0, r_X2_sumUp_1, r_X2_sumUp_2, r_X2_sumUp_3, r_X2_sumUp_5, r_X2_sumUp_6, r_X2_sumUp_8, r_X2_sumUp_10, r_X2_sumUp_13, r_X2_sumUp_16, r_X2_sumUp_18, r_X2_sumUp_19, r_X2_sumUp_20, r_X2_sumUp_23, r_X2_sumUp_24, r_X2_sumUp_25, r_X2_sumUp_27, r_X2_sumUp_28, r_X2_sumUp_29, r_X2_sumUp_30, r_X2_sumUp_32, r_X2_sumUp_33, r_X2_sumUp_35, r_X2_sumUp_36, r_X2_sumUp_38, r_X2_sumUp_39, r_X2_sumUp_40, r_X2_sumUp_41, r_X2_sumUp_43, r_X2_sumUp_44, r_X2_sumUp_47, r_X2_sumUp_49, r_X2_sumUp_50, r_X2_sumUp_51, r_X2_sumUp_52, r_X2_sumUp_55, r_X2_sumUp_57, r_X2_sumUp_59, r_X2_sumUp_60, r_X2_sumUp_63, r_X2_sumUp_66, ↓reduceIte, Option.isSome_some, Option.getD_some, rL_v, rL_n, cH_s, List.cons_append, List.nil_append, cat_i, cat_r, cat_n, ofN, q]
    | succ k ih =>
      intro i H f1 f2 hi hE hR h1 h2
      have q : ¬ nI 420 < nI i := by rw [nI_lt' (by omega) (by omega)]; omega
      have q2 : ¬ nI 421 ≤ nI i := by rw [nI_le' (by omega) (by omega)]; omega
      have hi' : i < 421 := by omega
      have hel : (nI i).toInt64 = lN i := nI_l (by omega)
      rw [r_X2_sumUp_8]
      simp only [r_X2_sumUp_10, r_X2_sumUp_13, r_X2_sumUp_16, r_X2_sumUp_18, r_X2_sumUp_19, r_X2_sumUp_20, r_X2_sumUp_23, r_X2_sumUp_24, r_X2_sumUp_25, r_X2_sumUp_27, r_X2_sumUp_28, r_X2_sumUp_29, r_X2_sumUp_30, r_X2_sumUp_32, r_X2_sumUp_33, r_X2_sumUp_35, r_X2_sumUp_36, r_X2_sumUp_38, r_X2_sumUp_39, r_X2_sumUp_40, r_X2_sumUp_41, r_X2_sumUp_43, r_X2_sumUp_44, r_X2_sumUp_47, r_X2_sumUp_49, r_X2_sumUp_50, ↓reduceIte, Option.isSome_some, Option.getD_some, rL_v, rL_n, cH_s, List.cons_append, List.nil_append, cat_i, cat_r, cat_n, ofN, g2_0 hE, g2_1 hE, g2_2 hE, g2_3 hE, g2_4 hE, ro2 hE, q, gN_of hR, q2, gJ_nI hR (by decide) z3 hi', lN_add, lN_mul, hel, pJ_nI h1 (by decide) z1 hi']
      have hE' : (hup H ea (jA 421 (vp_updL f1 i (lN (sm G i + G i))))).2.2 e = some (oEo b c ea ta pt) := by rw [hup_ne (kind_ne hE h1 (fun h => by cases h))]; exact hE
      have h2' : (hup H ea (jA 421 (vp_updL f1 i (lN (sm G i + G i))))).2.2 ta = some (jA 421 f2) := by rw [hup_ne (Ne.symm n1)]; exact h2
      simp only [r_X2_sumUp_51, r_X2_sumUp_52, r_X2_sumUp_55, r_X2_sumUp_57, r_X2_sumUp_59, r_X2_sumUp_60, r_X2_sumUp_63, ↓reduceIte, Option.isSome_some, Option.getD_some, rL_v, rL_n, cH_s, List.cons_append, List.nil_append, cat_i, cat_r, cat_n, ofN, g2_0 hE', g2_1 hE', g2_2 hE', g2_3 hE', g2_4 hE', ro2 hE', pJ_nI h2' (by decide) z2 hi', nI_add]
      have R := ih (i + 1) (hup (hup H ea (jA 421 (vp_updL f1 i (lN (sm G i + G i))))) ta (jA 421 (vp_updL f2 i (lN (sm (fun u => G u * u) i + G i * i))))) _ _ (by omega) (by rw [hup_ne (kind_ne hE h2 (fun h => by cases h))]; exact hE') (by rw [hup_ne n3, hup_ne n2]; exact hR) (by rw [hup_ne n1]; exact hup_get) hup_get
      simp only [sm] at R
      rw [R, hup_swap n1, hup_hup, hup_hup]
      congr 3
      · congr 4
        funext t
        by_cases ht : t = i
        · subst ht; rw [if_neg (by omega), if_pos (by omega)]; simp [vp_updL, sm]
        · by_cases h3 : i + 1 ≤ t ∧ t < 421
          · rw [if_pos h3, if_pos (by omega)]; rfl
          · rw [if_neg h3, if_neg (by omega)]; simp [vp_updL, ht]
      · congr 3
        funext t
        by_cases ht : t = i
        · subst ht; rw [if_neg (by omega), if_pos (by omega)]; simp [vp_updL, sm]
        · by_cases h3 : i + 1 ≤ t ∧ t < 421
          · rw [if_pos h3, if_pos (by omega)]; rfl
          · rw [if_neg h3, if_neg (by omega)]; simp [vp_updL, ht]
  simp only [r_X2_sumUp_0, r_X2_sumUp_1, r_X2_sumUp_2, r_X2_sumUp_3, r_X2_sumUp_5, r_X2_sumUp_6, ↓reduceIte, Option.isSome_some, Option.getD_some, rL_v, rL_n, cH_s, List.cons_append, List.nil_append, cat_i, cat_r, cat_n, ofN]
  have R := L 421 0 h g1 g2 (by omega) he hra h1 h2
  simp only [Nat.zero_le, true_and] at R
  exact R
