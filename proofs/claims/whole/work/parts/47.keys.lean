/-! ===== lost, help, firstIn ===== -/
theorem nI_rem {a d : Nat} (ha : a < 2147483648) (h0 : 0 < d) (hd : d < 2147483648) : nI a - nI a / nI d * nI d = nI (a % d) := pk_rem ha h0 hd
theorem nI_div {a d : Nat} (ha : a < 2147483648) (h0 : 0 < d) (hd : d < 2147483648) : nI a / nI d = nI (a / d) := pk_div ha h0 hd
def sr (a b : Nat) : Nat := (7 * (b + 12 - a)) % 12
def stp (a b : Nat) : Nat := min (sr a b) (12 - sr a b)
theorem sr_fl : ∀ a, a < 12 → ∀ b, b < 12 → (if nI 0 ≤ ((nI b - nI a) * nI 7) ^^^ nI 12 then ((nI b - nI a) * nI 7) - ((nI b - nI a) * nI 7) / nI 12 * nI 12 else if ((nI b - nI a) * nI 7) - ((nI b - nI a) * nI 7) / nI 12 * nI 12 = nI 0 then ((nI b - nI a) * nI 7) - ((nI b - nI a) * nI 7) / nI 12 * nI 12 else ((nI b - nI a) * nI 7) - ((nI b - nI a) * nI 7) / nI 12 * nI 12 + nI 12) = nI (sr a b) := by decide +kernel
theorem sr_no : ∀ a, a < 12 → ∀ b, b < 12 → ∀ k, k < sr a b → (a + 7 * k) % 12 ≠ b := by decide +kernel
theorem sr_yes : ∀ a, a < 12 → ∀ b, b < 12 → (a + 7 * sr a b) % 12 = b := by decide +kernel
theorem sr_lt (a b : Nat) : sr a b < 12 := Nat.mod_lt _ (by decide)
theorem stp_le (a b : Nat) : stp a b ≤ 6 := by unfold stp; omega
theorem c_steps {h : AH} {a b : Nat} (ha : a < 12) (hb : b < 12) : Call M_X8_steps h [.int (nI a), .int (nI b)] = some (h, some (.int (nI (stp a b)))) := by
  have n12 : ¬ nI 12 = 0 := by decide
  have F : Call M_J9_floorMod_7cf53 h [.int ((nI b - nI a) * nI 7), .int (nI 12)] = some (h, some (.int (nI (sr a b)))) := by
    have e := sr_fl a ha b hb
    show Run M_J9_floorMod_7cf53 0 [.int ((nI b - nI a) * nI 7), .int (nI 12), .null] [] h = _
    rw [← e]
    simp only [r_J9_floorMod_7cf53_0, r_J9_floorMod_7cf53_1, r_J9_floorMod_7cf53_3, r_J9_floorMod_7cf53_4, r_J9_floorMod_7cf53_5, r_J9_floorMod_7cf53_6, r_J9_floorMod_7cf53_7, r_J9_floorMod_7cf53_10, r_J9_floorMod_7cf53_11, r_J9_floorMod_7cf53_14, r_J9_floorMod_7cf53_15, r_J9_floorMod_7cf53_16, r_J9_floorMod_7cf53_17, r_J9_floorMod_7cf53_18, r_J9_floorMod_7cf53_19, r_J9_floorMod_7cf53_2 n12, ↓reduceIte, Option.isSome_some, Option.getD_some, rL_v, rL_n, cH_s, List.cons_append, List.nil_append, cat_i, cat_r, cat_n, ofN]
    split
    · rfl
    · split <;> rfl
  have l := sr_lt a b
  show Run M_X8_steps 0 [.int (nI a), .int (nI b), .null] [] h = _
  simp only [r_X8_steps_0, r_X8_steps_1, r_X8_steps_2, r_X8_steps_3, r_X8_steps_5, r_X8_steps_6, r_X8_steps_8, r_X8_steps_11, r_X8_steps_12, r_X8_steps_13, r_X8_steps_15, r_X8_steps_16, r_X8_steps_17, r_X8_steps_20, ↓reduceIte, Option.isSome_some, Option.getD_some, rL_v, rL_n, cH_s, List.cons_append, List.nil_append, cat_i, cat_r, cat_n, ofN, F, nI_s (show sr a b ≤ 12 by omega), c_min (show sr a b < 2147483648 by omega) (show 12 - sr a b < 2147483648 by omega)]
  rfl
theorem c_mSteps {h : AH} {a b : Nat} (ha : a < 12) (hb : b < 12) : Call M_X9_steps h [.int (nI a), .int (nI b)] = some (h, some (.int (nI (stp a b)))) := by
  have n12 : ¬ nI 12 = 0 := by decide
  have l := sr_lt a b
  have L : ∀ k i, i + k = sr a b → Run M_X9_steps 2 [.int (nI a), .int (nI b), .int (nI i)] [] h = some (h, some (.int (nI (stp a b)))) := by
    intro k
    induction k with
    | zero =>
      intro i hi
      have e : i = sr a b := by omega
      subst e
      have y := sr_yes a ha b hb
      simp only [r_X9_steps_2, r_X9_steps_3, r_X9_steps_5, r_X9_steps_6, r_X9_steps_7, r_X9_steps_8, r_X9_steps_11, r_X9_steps_12, r_X9_steps_15, r_X9_steps_18, r_X9_steps_21, r_X9_steps_22, r_X9_steps_24, r_X9_steps_25, r_X9_steps_26, r_X9_steps_29, r_X9_steps_30, r_X9_steps_10 n12, r_X9_steps_33, r_X9_steps_35, r_X9_steps_36, r_X9_steps_37, ↓reduceIte, Option.isSome_some, Option.getD_some, rL_v, rL_n, cH_s, List.cons_append, List.nil_append, cat_i, cat_r, cat_n, ofN, nI_m, nI_add, nI_rem (show a + 7 * sr a b < 2147483648 by omega) (show 0 < 12 by decide) (show 12 < 2147483648 by decide), y, nI_s (show sr a b ≤ 12 by omega), nI_le' (show 12 - sr a b < 2147483648 by omega) (show sr a b < 2147483648 by omega)]
      unfold stp
      by_cases h1 : 12 - sr a b ≤ sr a b
      · rw [if_pos h1, Nat.min_eq_right h1]
      · rw [if_neg h1, Nat.min_eq_left (by omega)]
    | succ k ih =>
      intro i hi
      have y := sr_no a ha b hb i (by omega)
      have y2 : (a + 7 * i) % 12 < 12 := Nat.mod_lt _ (by decide)
      rw [r_X9_steps_2]
      simp only [r_X9_steps_3, r_X9_steps_5, r_X9_steps_6, r_X9_steps_7, r_X9_steps_8, r_X9_steps_11, r_X9_steps_12, r_X9_steps_15, r_X9_steps_18, r_X9_steps_10 n12, ↓reduceIte, Option.isSome_some, Option.getD_some, rL_v, rL_n, cH_s, List.cons_append, List.nil_append, cat_i, cat_r, cat_n, ofN, nI_m, nI_add, nI_rem (show a + 7 * i < 2147483648 by omega) (show 0 < 12 by decide) (show 12 < 2147483648 by decide), nI_inj (show (a + 7 * i) % 12 < 2147483648 by omega) (show b < 2147483648 by omega), y]
      exact ih (i + 1) (by omega)
  show Run M_X9_steps 0 [.int (nI a), .int (nI b), .null] [] h = _
  simp only [r_X9_steps_0, r_X9_steps_1, ↓reduceIte, Option.isSome_some, Option.getD_some, rL_v, rL_n, cH_s, List.cons_append, List.nil_append, cat_i, cat_r, cat_n, ofN]
  exact L (sr a b) 0 (by omega)
theorem op_lost {S : SS} (hI : Inv S) (x z : Int32) : OpV M_X8_lost M_X9_lost [.int x, .int z] S := by
  have hS := hI.1
  have hn := hS.1
  by_cases hx : nI 0 ≤ x ∧ x ≤ nI (S 12 0) - nI 1
  · obtain ⟨p, hp, rfl⟩ := rngP (by omega) hx
    obtain ⟨k1, k2, k3, k4, k5, k6⟩ := hS.2 p hp
    by_cases hz : nI 0 ≤ z ∧ z ≤ nI 11
    · obtain ⟨c, hc, rfl⟩ := rng (by decide) hz
      refine OpV.read (r := .int (nI (stp c (S 5 p)))) hI (fun h hr => ?_) (fun h hr => ?_)
      · obtain ⟨o, h0, h1, -, ⟨hH, ⟨fr, hr1, hr2⟩, -, -, -, -, hP⟩, -⟩ := hr
        obtain ⟨hp1, gl, hl, hgl⟩ := hP p hp
        show Run M_X8_lost 0 [.ref 1, .int (nI p), .int (nI c)] [] h = _
        simp only [r_X8_lost_0, r_X8_lost_1, r_X8_lost_4, r_X8_lost_5, r_X8_lost_8, r_X8_lost_11, r_X8_lost_13, r_X8_lost_14, r_X8_lost_15, r_X8_lost_16, r_X8_lost_18, r_X8_lost_21, r_X8_lost_24, r_X8_lost_26, r_X8_lost_27, r_X8_lost_28, r_X8_lost_29, r_X8_lost_32, r_X8_lost_35, r_X8_lost_36, r_X8_lost_37, r_X8_lost_40, r_X8_lost_43, ↓reduceIte, Option.isSome_some, Option.getD_some, rL_v, rL_n, cH_s, List.cons_append, List.nil_append, cat_i, cat_r, cat_n, ofN, g8_0 h1, g8_1 h1, g8_2 h1, g8_3 h1, g8_4 h1, g8_5 h1, g8_6 h1, g8_7 h1, g8_8 h1, ro8 h1, g4_0 hH, g4_1 hH, g4_2 hH, g4_3 hH, g4_4 hH, g4_5 hH, g4_6 hH, ro4 hH, g6_0 hp1, g6_1 hp1, g6_2 hp1, g6_3 hp1, g6_4 hp1, ro6 hp1, c_hasPart hH, c_within, ite_bI, hx, hz, and_self, gR_nI hr1 (Or.inr (Or.inl rfl)) (by decide) (by omega) (hr2 p (by omega)) (show p < 7 by omega), c_steps (h := h) (show c < 12 by omega) (show S 5 p < 12 by omega)]
      · obtain ⟨⟨_, _, _, _, _, _, _, _, _, _, _, hm⟩, hA, -⟩ := hr
        show Run M_X9_lost 0 [.ref 88, .int (nI p), .int (nI c)] [] h = _
        simp only [r_X9_lost_0, r_X9_lost_1, r_X9_lost_2, r_X9_lost_5, r_X9_lost_8, r_X9_lost_10, r_X9_lost_11, r_X9_lost_12, r_X9_lost_13, r_X9_lost_15, r_X9_lost_18, r_X9_lost_21, r_X9_lost_22, r_X9_lost_23, r_X9_lost_26, r_X9_lost_27, r_X9_lost_28, r_X9_lost_31, r_X9_lost_34, r_X9_lost_36, ↓reduceIte, Option.isSome_some, Option.getD_some, rL_v, rL_n, cH_s, List.cons_append, List.nil_append, cat_i, cat_r, cat_n, ofN, g9_0 hm, g9_1 hm, g9_2 hm, g9_3 hm, g9_4 hm, g9_5 hm, g9_6 hm, g9_7 hm, g9_8 hm, g9_9 hm, g9_10 hm, g9_11 hm, g9_12 hm, g9_13 hm, g9_14 hm, g9_15 hm, g9_16 hm, g9_17 hm, g9_18 hm, g9_19 hm, g9_20 hm, g9_21 hm, g9_22 hm, g9_23 hm, g9_24 hm, g9_25 hm, g9_26 hm, g9_27 hm, g9_28 hm, g9_29 hm, g9_30 hm, g9_31 hm, g9_32 hm, g9_33 hm, g9_34 hm, g9_35 hm, g9_36 hm, g9_37 hm, g9_38 hm, g9_39 hm, ro9 hm, c_isPart hm, c_in, ite_bI, hx, hz, and_self, gI_nI (hA 94 _ rfl) (by decide) (show p < 7 by omega), c_mSteps (h := h) (show c < 12 by omega) (show S 5 p < 12 by omega)]
    · refine OpV.read (r := .int (-1000000002)) hI (fun h hr => ?_) (fun h hr => ?_)
      · obtain ⟨o, h0, h1, -, ⟨hH, -⟩, -⟩ := hr
        show Run M_X8_lost 0 [.ref 1, .int (nI p), .int z] [] h = _
        simp only [r_X8_lost_0, r_X8_lost_1, r_X8_lost_4, r_X8_lost_5, r_X8_lost_8, r_X8_lost_11, r_X8_lost_13, r_X8_lost_14, r_X8_lost_15, r_X8_lost_16, r_X8_lost_18, r_X8_lost_21, r_X8_lost_24, r_X8_lost_26, ↓reduceIte, Option.isSome_some, Option.getD_some, rL_v, rL_n, cH_s, List.cons_append, List.nil_append, cat_i, cat_r, cat_n, ofN, g8_0 h1, g8_1 h1, g8_2 h1, g8_3 h1, g8_4 h1, g8_5 h1, g8_6 h1, g8_7 h1, g8_8 h1, ro8 h1, ro4 hH, c_hasPart hH, c_within, ite_bI, hx, hz, and_self]
      · obtain ⟨⟨_, _, _, _, _, _, _, _, _, _, _, hm⟩, hA, -⟩ := hr
        show Run M_X9_lost 0 [.ref 88, .int (nI p), .int z] [] h = _
        simp only [r_X9_lost_0, r_X9_lost_1, r_X9_lost_2, r_X9_lost_5, r_X9_lost_8, r_X9_lost_10, r_X9_lost_11, r_X9_lost_12, r_X9_lost_13, r_X9_lost_15, r_X9_lost_18, r_X9_lost_34, r_X9_lost_36, ↓reduceIte, Option.isSome_some, Option.getD_some, rL_v, rL_n, cH_s, List.cons_append, List.nil_append, cat_i, cat_r, cat_n, ofN, ro9 hm, c_isPart hm, c_in, ite_bI, hx, hz, and_self]
  · refine OpV.read (r := .int (-1000000001)) hI (fun h hr => ?_) (fun h hr => ?_)
    · obtain ⟨o, h0, h1, -, ⟨hH, -⟩, -⟩ := hr
      show Run M_X8_lost 0 [.ref 1, .int x, .int z] [] h = _
      simp only [r_X8_lost_0, r_X8_lost_1, r_X8_lost_4, r_X8_lost_5, r_X8_lost_8, r_X8_lost_11, r_X8_lost_13, ↓reduceIte, Option.isSome_some, Option.getD_some, rL_v, rL_n, cH_s, List.cons_append, List.nil_append, cat_i, cat_r, cat_n, ofN, g8_0 h1, g8_1 h1, g8_2 h1, g8_3 h1, g8_4 h1, g8_5 h1, g8_6 h1, g8_7 h1, g8_8 h1, ro8 h1, ro4 hH, c_hasPart hH, ite_bI, hx]
    · obtain ⟨⟨_, _, _, _, _, _, _, _, _, _, _, hm⟩, hA, -⟩ := hr
      show Run M_X9_lost 0 [.ref 88, .int x, .int z] [] h = _
      simp only [r_X9_lost_0, r_X9_lost_1, r_X9_lost_2, r_X9_lost_5, r_X9_lost_8, r_X9_lost_10, ↓reduceIte, Option.isSome_some, Option.getD_some, rL_v, rL_n, cH_s, List.cons_append, List.nil_append, cat_i, cat_r, cat_n, ofN, ro9 hm, c_isPart hm, ite_bI, hx]
