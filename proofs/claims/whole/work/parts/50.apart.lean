/-! ===== apart, bestWay ===== -/
theorem sh_k {k : Nat} (hk : k < 8) : ((nI k &&& 31).toBitVec.smod 32).toNat = k := by
  rcases (show k = 0 ∨ k = 1 ∨ k = 2 ∨ k = 3 ∨ k = 4 ∨ k = 5 ∨ k = 6 ∨ k = 7 by omega) with rfl | rfl | rfl | rfl | rfl | rfl | rfl | rfl <;> decide
theorem shrB {n k : Nat} (hn : n < 2147483648) (hk : k < 8) : (nI n >>> (nI k &&& 31)) &&& nI 1 = nI (n / 2 ^ k % 2) := by
  have h1 : n / 2 ^ k ≤ n := Nat.div_le_self _ _
  rw [pk_shrN hn _ k (sh_k hk), pk_andN (show n / 2 ^ k < 2 ^ 32 by omega) 1 (by decide)]
def hd (S : SS) (b l p : Nat) : Nat := if l / 2 ^ p % 2 = 1 then 0 else S 0 (5 + 2 * p + b / 2 ^ p % 2)
def mnH (S : SS) (b l c : Nat) : Nat → Nat
  | 0 => c
  | p + 1 => min (mnH S b l c p) (hd S b l p)
def mxH (S : SS) (b l : Nat) : Nat → Nat
  | 0 => 0
  | p + 1 => max (mxH S b l p) (hd S b l p)
def sp (S : SS) (b l : Nat) : Nat := if S 12 1 < 2 then 0 else mxH S b l (S 12 1) - mnH S b l 30 (S 12 1)
theorem hd_le {S : SS} (hI : Inv S) {b l p : Nat} (hp : p < S 12 1) : hd S b l p ≤ 30 := by
  have h := hI.2.2.1.2.1 p hp
  unfold hd
  split
  · omega
  · rcases (show b / 2 ^ p % 2 = 0 ∨ b / 2 ^ p % 2 = 1 by omega) with e | e <;> rw [e]
    · exact h.1
    · exact h.2
theorem mnH_le (S : SS) (b l c : Nat) : ∀ k, mnH S b l c k ≤ c
  | 0 => Nat.le_refl _
  | k + 1 => by have := mnH_le S b l c k; simp only [mnH]; omega
theorem mxH_le {S : SS} (hI : Inv S) (b l : Nat) : ∀ k, k ≤ S 12 1 → mxH S b l k ≤ 30
  | 0, _ => Nat.zero_le _
  | k + 1, hk => by have := mxH_le hI b l k (by omega); have := hd_le hI (b := b) (l := l) (p := k) (by omega); simp only [mxH]; omega
theorem mnx (S : SS) (b l c : Nat) : ∀ k, mnH S b l c (k + 1) ≤ mxH S b l (k + 1)
  | 0 => by simp only [mnH, mxH]; omega
  | k + 1 => by
    have := mnx S b l c k
    show min (mnH S b l c (k + 1)) (hd S b l (k + 1)) ≤ max (mxH S b l (k + 1)) (hd S b l (k + 1))
    omega
theorem mnH_c {S : SS} (hI : Inv S) (b l : Nat) : ∀ k, k + 1 ≤ S 12 1 → mnH S b l 99 (k + 1) = mnH S b l 30 (k + 1)
  | 0, h => by have := hd_le hI (b := b) (l := l) (p := 0) (by omega); simp only [mnH]; omega
  | k + 1, h => by
    have := mnH_c hI b l k (by omega)
    show min (mnH S b l 99 (k + 1)) _ = min (mnH S b l 30 (k + 1)) _
    rw [this]
theorem c_lagSpread {h : AH} {S : SS} {o : Nat} (hI : Inv S) (hr : HallR h o S) {b l : Nat} (hb : b < 2147483648) (hl : l < 2147483648) : Call M_X4_lagSpread h [.ref o, .int (nI b), .int (nI l)] = some (h, some (.int (nI (sp S b l)))) := by
  have h5 := hI.2.1.1
  obtain ⟨hH, -, -, -, ⟨hA1, ⟨f1, b1, c1⟩, ⟨f2, b2, c2⟩⟩, -⟩ := hr
  show Run M_X4_lagSpread 0 [.ref o, .int (nI b), .int (nI l), .null, .null, .null, .null, .null] [] h = _
  by_cases hn : S 12 1 < 2
  · have q : ¬ nI 2 ≤ nI (S 12 1) := by rw [nI_le' (by decide) (by omega)]; omega
    simp only [r_X4_lagSpread_0, r_X4_lagSpread_1, r_X4_lagSpread_4, r_X4_lagSpread_5, r_X4_lagSpread_8, r_X4_lagSpread_9, ↓reduceIte, Option.isSome_some, Option.getD_some, rL_v, rL_n, cH_s, List.cons_append, List.nil_append, cat_i, cat_r, cat_n, ofN, g4_0 hH, g4_1 hH, g4_2 hH, g4_3 hH, g4_4 hH, g4_5 hH, g4_6 hH, ro4 hH, q]
    unfold sp
    rw [if_pos hn]
  · have q : nI 2 ≤ nI (S 12 1) := by rw [nI_le' (by decide) (by omega)]; omega
    have L : ∀ k i X Y, i + k = S 12 1 → Run M_X4_lagSpread 19 [.ref o, .int (nI b), .int (nI l), .int (nI (mnH S b l 30 i)), .int (nI (mxH S b l i)), .int (nI i), X, Y] [] h = some (h, some (.int (nI (sp S b l)))) := by
      intro k
      induction k with
      | zero =>
        intro i X Y hi
        have e : i = S 12 1 := by omega
        subst e
        have m := mnx S b l 30 (S 12 1 - 1)
        rw [show S 12 1 - 1 + 1 = S 12 1 by omega] at m
        simp only [r_X4_lagSpread_19, r_X4_lagSpread_21, r_X4_lagSpread_22, r_X4_lagSpread_25, r_X4_lagSpread_103, r_X4_lagSpread_105, r_X4_lagSpread_106, r_X4_lagSpread_107, ↓reduceIte, Option.isSome_some, Option.getD_some, rL_v, rL_n, cH_s, List.cons_append, List.nil_append, cat_i, cat_r, cat_n, ofN, g4_0 hH, g4_1 hH, g4_2 hH, g4_3 hH, g4_4 hH, g4_5 hH, g4_6 hH, ro4 hH, Int32.le_refl, nI_s m]
        unfold sp
        rw [if_neg hn]
      | succ k ih =>
        intro i X Y hi
        have hi2 : i < S 12 1 := by omega
        have q0 : ¬ nI (S 12 1) ≤ nI i := by rw [nI_le' (by omega) (by omega)]; omega
        have I := fun X Y => ih (i + 1) X Y (by omega)
        simp only [mnH, mxH] at I
        have m1 := mnH_le S b l 30 i
        have m2 := mxH_le hI b l i (by omega)
        have m3 := hd_le hI (b := b) (l := l) hi2
        have g1 := hI.2.2.1.2.1 i hi2
        rw [r_X4_lagSpread_19]
        have f0 : ¬ nI 0 = nI 1 := by decide
        rcases (show b / 2 ^ i % 2 = 0 ∨ b / 2 ^ i % 2 = 1 by omega) with eb | eb <;> rcases (show l / 2 ^ i % 2 = 0 ∨ l / 2 ^ i % 2 = 1 by omega) with el | el
        · have e : hd S b l i = S 0 (5 + 2 * i) := by unfold hd; rw [if_neg (by omega), eb, Nat.add_zero]
          rw [e] at I m3
          simp only [r_X4_lagSpread_21, r_X4_lagSpread_22, r_X4_lagSpread_25, r_X4_lagSpread_28, r_X4_lagSpread_29, r_X4_lagSpread_31, r_X4_lagSpread_32, r_X4_lagSpread_33, r_X4_lagSpread_34, r_X4_lagSpread_35, r_X4_lagSpread_38, r_X4_lagSpread_39, r_X4_lagSpread_42, r_X4_lagSpread_45, r_X4_lagSpread_47, r_X4_lagSpread_48, r_X4_lagSpread_51, r_X4_lagSpread_52, r_X4_lagSpread_55, r_X4_lagSpread_58, r_X4_lagSpread_60, r_X4_lagSpread_61, r_X4_lagSpread_63, r_X4_lagSpread_64, r_X4_lagSpread_66, r_X4_lagSpread_67, r_X4_lagSpread_68, r_X4_lagSpread_69, r_X4_lagSpread_70, r_X4_lagSpread_73, r_X4_lagSpread_74, r_X4_lagSpread_77, r_X4_lagSpread_79, r_X4_lagSpread_81, r_X4_lagSpread_82, r_X4_lagSpread_84, r_X4_lagSpread_87, r_X4_lagSpread_88, r_X4_lagSpread_90, r_X4_lagSpread_92, r_X4_lagSpread_95, r_X4_lagSpread_97, r_X4_lagSpread_100, ↓reduceIte, Option.isSome_some, Option.getD_some, rL_v, rL_n, cH_s, List.cons_append, List.nil_append, cat_i, cat_r, cat_n, ofN, g4_0 hH, g4_1 hH, g4_2 hH, g4_3 hH, g4_4 hH, g4_5 hH, g4_6 hH, ro4 hH, g0_0 hA1, g0_1 hA1, g0_2 hA1, g0_3 hA1, g0_4 hA1, g0_5 hA1, g0_6 hA1, g0_7 hA1, g0_8 hA1, g0_9 hA1, g0_10 hA1, ro0 hA1, q0, shrB hb (show i < 8 by omega), shrB hl (show i < 8 by omega), eb, el, f0, gI_nI b1 (by decide) (show i < 5 by omega), c1 i hi2, c_min (show mnH S b l 30 i < 2147483648 by omega) (show S 0 (5 + 2 * i) < 2147483648 by omega), c_max (show mxH S b l i < 2147483648 by omega) (show S 0 (5 + 2 * i) < 2147483648 by omega), nI_add]
          exact I _ _
        · have e : hd S b l i = 0 := by unfold hd; rw [if_pos el]
          rw [e] at I m3
          simp only [r_X4_lagSpread_21, r_X4_lagSpread_22, r_X4_lagSpread_25, r_X4_lagSpread_28, r_X4_lagSpread_29, r_X4_lagSpread_31, r_X4_lagSpread_32, r_X4_lagSpread_33, r_X4_lagSpread_34, r_X4_lagSpread_35, r_X4_lagSpread_38, r_X4_lagSpread_39, r_X4_lagSpread_42, r_X4_lagSpread_45, r_X4_lagSpread_47, r_X4_lagSpread_48, r_X4_lagSpread_51, r_X4_lagSpread_52, r_X4_lagSpread_55, r_X4_lagSpread_58, r_X4_lagSpread_60, r_X4_lagSpread_61, r_X4_lagSpread_63, r_X4_lagSpread_64, r_X4_lagSpread_66, r_X4_lagSpread_67, r_X4_lagSpread_68, r_X4_lagSpread_69, r_X4_lagSpread_70, r_X4_lagSpread_73, r_X4_lagSpread_74, r_X4_lagSpread_77, r_X4_lagSpread_79, r_X4_lagSpread_81, r_X4_lagSpread_82, r_X4_lagSpread_84, r_X4_lagSpread_87, r_X4_lagSpread_88, r_X4_lagSpread_90, r_X4_lagSpread_92, r_X4_lagSpread_95, r_X4_lagSpread_97, r_X4_lagSpread_100, ↓reduceIte, Option.isSome_some, Option.getD_some, rL_v, rL_n, cH_s, List.cons_append, List.nil_append, cat_i, cat_r, cat_n, ofN, g4_0 hH, g4_1 hH, g4_2 hH, g4_3 hH, g4_4 hH, g4_5 hH, g4_6 hH, ro4 hH, g0_0 hA1, g0_1 hA1, g0_2 hA1, g0_3 hA1, g0_4 hA1, g0_5 hA1, g0_6 hA1, g0_7 hA1, g0_8 hA1, g0_9 hA1, g0_10 hA1, ro0 hA1, q0, shrB hb (show i < 8 by omega), shrB hl (show i < 8 by omega), eb, el, f0, gI_nI b1 (by decide) (show i < 5 by omega), c1 i hi2, c_min (show mnH S b l 30 i < 2147483648 by omega) (show 0 < 2147483648 by omega), c_max (show mxH S b l i < 2147483648 by omega) (show 0 < 2147483648 by omega), nI_add]
          exact I _ _
        · have e : hd S b l i = S 0 (5 + 2 * i + 1) := by unfold hd; rw [if_neg (by omega), eb]
          rw [e] at I m3
          simp only [r_X4_lagSpread_21, r_X4_lagSpread_22, r_X4_lagSpread_25, r_X4_lagSpread_28, r_X4_lagSpread_29, r_X4_lagSpread_31, r_X4_lagSpread_32, r_X4_lagSpread_33, r_X4_lagSpread_34, r_X4_lagSpread_35, r_X4_lagSpread_38, r_X4_lagSpread_39, r_X4_lagSpread_42, r_X4_lagSpread_45, r_X4_lagSpread_47, r_X4_lagSpread_48, r_X4_lagSpread_51, r_X4_lagSpread_52, r_X4_lagSpread_55, r_X4_lagSpread_58, r_X4_lagSpread_60, r_X4_lagSpread_61, r_X4_lagSpread_63, r_X4_lagSpread_64, r_X4_lagSpread_66, r_X4_lagSpread_67, r_X4_lagSpread_68, r_X4_lagSpread_69, r_X4_lagSpread_70, r_X4_lagSpread_73, r_X4_lagSpread_74, r_X4_lagSpread_77, r_X4_lagSpread_79, r_X4_lagSpread_81, r_X4_lagSpread_82, r_X4_lagSpread_84, r_X4_lagSpread_87, r_X4_lagSpread_88, r_X4_lagSpread_90, r_X4_lagSpread_92, r_X4_lagSpread_95, r_X4_lagSpread_97, r_X4_lagSpread_100, ↓reduceIte, Option.isSome_some, Option.getD_some, rL_v, rL_n, cH_s, List.cons_append, List.nil_append, cat_i, cat_r, cat_n, ofN, g4_0 hH, g4_1 hH, g4_2 hH, g4_3 hH, g4_4 hH, g4_5 hH, g4_6 hH, ro4 hH, g0_0 hA1, g0_1 hA1, g0_2 hA1, g0_3 hA1, g0_4 hA1, g0_5 hA1, g0_6 hA1, g0_7 hA1, g0_8 hA1, g0_9 hA1, g0_10 hA1, ro0 hA1, q0, shrB hb (show i < 8 by omega), shrB hl (show i < 8 by omega), eb, el, f0, gI_nI b2 (by decide) (show i < 5 by omega), c2 i hi2, c_min (show mnH S b l 30 i < 2147483648 by omega) (show S 0 (5 + 2 * i + 1) < 2147483648 by omega), c_max (show mxH S b l i < 2147483648 by omega) (show S 0 (5 + 2 * i + 1) < 2147483648 by omega), nI_add]
          exact I _ _
        · have e : hd S b l i = 0 := by unfold hd; rw [if_pos el]
          rw [e] at I m3
          simp only [r_X4_lagSpread_21, r_X4_lagSpread_22, r_X4_lagSpread_25, r_X4_lagSpread_28, r_X4_lagSpread_29, r_X4_lagSpread_31, r_X4_lagSpread_32, r_X4_lagSpread_33, r_X4_lagSpread_34, r_X4_lagSpread_35, r_X4_lagSpread_38, r_X4_lagSpread_39, r_X4_lagSpread_42, r_X4_lagSpread_45, r_X4_lagSpread_47, r_X4_lagSpread_48, r_X4_lagSpread_51, r_X4_lagSpread_52, r_X4_lagSpread_55, r_X4_lagSpread_58, r_X4_lagSpread_60, r_X4_lagSpread_61, r_X4_lagSpread_63, r_X4_lagSpread_64, r_X4_lagSpread_66, r_X4_lagSpread_67, r_X4_lagSpread_68, r_X4_lagSpread_69, r_X4_lagSpread_70, r_X4_lagSpread_73, r_X4_lagSpread_74, r_X4_lagSpread_77, r_X4_lagSpread_79, r_X4_lagSpread_81, r_X4_lagSpread_82, r_X4_lagSpread_84, r_X4_lagSpread_87, r_X4_lagSpread_88, r_X4_lagSpread_90, r_X4_lagSpread_92, r_X4_lagSpread_95, r_X4_lagSpread_97, r_X4_lagSpread_100, ↓reduceIte, Option.isSome_some, Option.getD_some, rL_v, rL_n, cH_s, List.cons_append, List.nil_append, cat_i, cat_r, cat_n, ofN, g4_0 hH, g4_1 hH, g4_2 hH, g4_3 hH, g4_4 hH, g4_5 hH, g4_6 hH, ro4 hH, g0_0 hA1, g0_1 hA1, g0_2 hA1, g0_3 hA1, g0_4 hA1, g0_5 hA1, g0_6 hA1, g0_7 hA1, g0_8 hA1, g0_9 hA1, g0_10 hA1, ro0 hA1, q0, shrB hb (show i < 8 by omega), shrB hl (show i < 8 by omega), eb, el, f0, gI_nI b2 (by decide) (show i < 5 by omega), c2 i hi2, c_min (show mnH S b l 30 i < 2147483648 by omega) (show 0 < 2147483648 by omega), c_max (show mxH S b l i < 2147483648 by omega) (show 0 < 2147483648 by omega), nI_add]
          exact I _ _
    simp only [r_X4_lagSpread_0, r_X4_lagSpread_1, r_X4_lagSpread_4, r_X4_lagSpread_5, r_X4_lagSpread_8, r_X4_lagSpread_9, r_X4_lagSpread_10, r_X4_lagSpread_12, r_X4_lagSpread_13, r_X4_lagSpread_14, r_X4_lagSpread_16, r_X4_lagSpread_17, ↓reduceIte, Option.isSome_some, Option.getD_some, rL_v, rL_n, cH_s, List.cons_append, List.nil_append, cat_i, cat_r, cat_n, ofN, g4_0 hH, g4_1 hH, g4_2 hH, g4_3 hH, g4_4 hH, g4_5 hH, g4_6 hH, ro4 hH, q]
    exact L (S 12 1) 0 _ _ (by omega)
theorem c_has {h : AH} {b p : Nat} (hb : b < 2147483648) (hp : p < 8) : Call M_X9_has h [.int (nI b), .int (nI p)] = some (h, some (.int (nI (b / 2 ^ p % 2)))) := by
  have f0 : ¬ nI 0 = nI 1 := by decide
  show Run M_X9_has 0 [.int (nI b), .int (nI p)] [] h = _
  rcases (show b / 2 ^ p % 2 = 0 ∨ b / 2 ^ p % 2 = 1 by omega) with e | e <;> simp only [r_X9_has_0, r_X9_has_1, r_X9_has_2, r_X9_has_3, r_X9_has_4, r_X9_has_5, r_X9_has_6, r_X9_has_9, r_X9_has_10, r_X9_has_13, r_X9_has_14_0, r_X9_has_14_1, r_X9_has_14_c, ↓reduceIte, Option.isSome_some, Option.getD_some, rL_v, rL_n, cH_s, List.cons_append, List.nil_append, cat_i, cat_r, cat_n, ofN, shrB hb hp, e, f0]
theorem c_apartBy {h : AH} {S : SS} (hI : Inv S) (hr : RepM h S) {b l : Nat} (hb : b < 2147483648) (hl : l < 2147483648) : Call M_X9_apartBy h [.ref 88, .int (nI b), .int (nI l)] = some (h, some (.int (nI (sp S b l)))) := by
  have h5 := hI.2.1.1
  obtain ⟨⟨_, _, _, _, _, _, _, _, _, _, _, hm⟩, hA, -⟩ := id hr
  have L : ∀ k i X, i + k = S 12 1 → Run M_X9_apartBy 9 [.ref 88, .int (nI b), .int (nI l), .int (nI (mnH S b l 99 i)), .int (nI (mxH S b l i)), .int (nI i), X] [] h = some (h, some (.int (nI (sp S b l)))) := by
    intro k
    induction k with
    | zero =>
      intro i X hi
      have e : i = S 12 1 := by omega
      subst e
      by_cases hn : S 12 1 < 2
      · have q : ¬ nI 2 ≤ nI (S 12 1) := by rw [nI_le' (by decide) (by omega)]; omega
        simp only [r_X9_apartBy_9, r_X9_apartBy_11, r_X9_apartBy_12, r_X9_apartBy_15, r_X9_apartBy_86, r_X9_apartBy_87, r_X9_apartBy_90, r_X9_apartBy_91, r_X9_apartBy_94, r_X9_apartBy_95, r_X9_apartBy_98, r_X9_apartBy_100, r_X9_apartBy_101, r_X9_apartBy_102, ↓reduceIte, Option.isSome_some, Option.getD_some, rL_v, rL_n, cH_s, List.cons_append, List.nil_append, cat_i, cat_r, cat_n, ofN, g9_0 hm, g9_1 hm, g9_2 hm, g9_3 hm, g9_4 hm, g9_5 hm, g9_6 hm, g9_7 hm, g9_8 hm, g9_9 hm, g9_10 hm, g9_11 hm, g9_12 hm, g9_13 hm, g9_14 hm, g9_15 hm, g9_16 hm, g9_17 hm, g9_18 hm, g9_19 hm, g9_20 hm, g9_21 hm, g9_22 hm, g9_23 hm, g9_24 hm, g9_25 hm, g9_26 hm, g9_27 hm, g9_28 hm, g9_29 hm, g9_30 hm, g9_31 hm, g9_32 hm, g9_33 hm, g9_34 hm, g9_35 hm, g9_36 hm, g9_37 hm, g9_38 hm, g9_39 hm, ro9 hm, Int32.le_refl, q]
        unfold sp
        rw [if_pos hn]
      · have q : nI 2 ≤ nI (S 12 1) := by rw [nI_le' (by decide) (by omega)]; omega
        have m := mnx S b l 30 (S 12 1 - 1)
        have m2 := mnH_c hI b l (S 12 1 - 1) (by omega)
        rw [show S 12 1 - 1 + 1 = S 12 1 by omega] at m m2
        simp only [r_X9_apartBy_9, r_X9_apartBy_11, r_X9_apartBy_12, r_X9_apartBy_15, r_X9_apartBy_86, r_X9_apartBy_87, r_X9_apartBy_90, r_X9_apartBy_91, r_X9_apartBy_94, r_X9_apartBy_95, r_X9_apartBy_98, r_X9_apartBy_100, r_X9_apartBy_101, r_X9_apartBy_102, ↓reduceIte, Option.isSome_some, Option.getD_some, rL_v, rL_n, cH_s, List.cons_append, List.nil_append, cat_i, cat_r, cat_n, ofN, g9_0 hm, g9_1 hm, g9_2 hm, g9_3 hm, g9_4 hm, g9_5 hm, g9_6 hm, g9_7 hm, g9_8 hm, g9_9 hm, g9_10 hm, g9_11 hm, g9_12 hm, g9_13 hm, g9_14 hm, g9_15 hm, g9_16 hm, g9_17 hm, g9_18 hm, g9_19 hm, g9_20 hm, g9_21 hm, g9_22 hm, g9_23 hm, g9_24 hm, g9_25 hm, g9_26 hm, g9_27 hm, g9_28 hm, g9_29 hm, g9_30 hm, g9_31 hm, g9_32 hm, g9_33 hm, g9_34 hm, g9_35 hm, g9_36 hm, g9_37 hm, g9_38 hm, g9_39 hm, ro9 hm, Int32.le_refl, q, m2, nI_s m]
        unfold sp
        rw [if_neg hn]
    | succ k ih =>
      intro i X hi
      have hi2 : i < S 12 1 := by omega
      have q0 : ¬ nI (S 12 1) ≤ nI i := by rw [nI_le' (by omega) (by omega)]; omega
      have I := fun X => ih (i + 1) X (by omega)
      simp only [mnH, mxH] at I
      have m1 := mnH_le S b l 99 i
      have m2 := mxH_le hI b l i (by omega)
      have m3 := hd_le hI (b := b) (l := l) hi2
      have f0 : ¬ nI 1 = nI 0 := by decide
      have lt : b / 2 ^ i % 2 < 2 := Nat.mod_lt _ (by decide)
      have T : ∀ d, d ≤ 30 → hd S b l i = d → Run M_X9_apartBy 51 [.ref 88, .int (nI b), .int (nI l), .int (nI (mnH S b l 99 i)), .int (nI (mxH S b l i)), .int (nI i), .int (nI d)] [] h = some (h, some (.int (nI (sp S b l)))) := by
        intro d hd1 hd2
        rw [hd2] at I
        by_cases a : mnH S b l 99 i ≤ d <;> by_cases c : d ≤ mxH S b l i
        · rw [Nat.min_eq_left a, Nat.max_eq_left c] at I
          simp only [r_X9_apartBy_51, r_X9_apartBy_53, r_X9_apartBy_54, r_X9_apartBy_57, r_X9_apartBy_59, r_X9_apartBy_62, r_X9_apartBy_63, r_X9_apartBy_64, r_X9_apartBy_66, r_X9_apartBy_68, r_X9_apartBy_71, r_X9_apartBy_73, r_X9_apartBy_76, r_X9_apartBy_78, r_X9_apartBy_80, r_X9_apartBy_83, ↓reduceIte, Option.isSome_some, Option.getD_some, rL_v, rL_n, cH_s, List.cons_append, List.nil_append, cat_i, cat_r, cat_n, ofN, nI_le' (show mnH S b l 99 i < 2147483648 by omega) (show d < 2147483648 by omega), nI_le' (show d < 2147483648 by omega) (show mxH S b l i < 2147483648 by omega), a, c, nI_add]
          exact I _
        · rw [Nat.min_eq_left a, Nat.max_eq_right (by omega)] at I
          simp only [r_X9_apartBy_51, r_X9_apartBy_53, r_X9_apartBy_54, r_X9_apartBy_57, r_X9_apartBy_59, r_X9_apartBy_62, r_X9_apartBy_63, r_X9_apartBy_64, r_X9_apartBy_66, r_X9_apartBy_68, r_X9_apartBy_71, r_X9_apartBy_73, r_X9_apartBy_76, r_X9_apartBy_78, r_X9_apartBy_80, r_X9_apartBy_83, ↓reduceIte, Option.isSome_some, Option.getD_some, rL_v, rL_n, cH_s, List.cons_append, List.nil_append, cat_i, cat_r, cat_n, ofN, nI_le' (show mnH S b l 99 i < 2147483648 by omega) (show d < 2147483648 by omega), nI_le' (show d < 2147483648 by omega) (show mxH S b l i < 2147483648 by omega), a, c, nI_add]
          exact I _
        · rw [Nat.min_eq_right (by omega), Nat.max_eq_left c] at I
          simp only [r_X9_apartBy_51, r_X9_apartBy_53, r_X9_apartBy_54, r_X9_apartBy_57, r_X9_apartBy_59, r_X9_apartBy_62, r_X9_apartBy_63, r_X9_apartBy_64, r_X9_apartBy_66, r_X9_apartBy_68, r_X9_apartBy_71, r_X9_apartBy_73, r_X9_apartBy_76, r_X9_apartBy_78, r_X9_apartBy_80, r_X9_apartBy_83, ↓reduceIte, Option.isSome_some, Option.getD_some, rL_v, rL_n, cH_s, List.cons_append, List.nil_append, cat_i, cat_r, cat_n, ofN, nI_le' (show mnH S b l 99 i < 2147483648 by omega) (show d < 2147483648 by omega), nI_le' (show d < 2147483648 by omega) (show mxH S b l i < 2147483648 by omega), a, c, nI_add]
          exact I _
        · rw [Nat.min_eq_right (by omega), Nat.max_eq_right (by omega)] at I
          simp only [r_X9_apartBy_51, r_X9_apartBy_53, r_X9_apartBy_54, r_X9_apartBy_57, r_X9_apartBy_59, r_X9_apartBy_62, r_X9_apartBy_63, r_X9_apartBy_64, r_X9_apartBy_66, r_X9_apartBy_68, r_X9_apartBy_71, r_X9_apartBy_73, r_X9_apartBy_76, r_X9_apartBy_78, r_X9_apartBy_80, r_X9_apartBy_83, ↓reduceIte, Option.isSome_some, Option.getD_some, rL_v, rL_n, cH_s, List.cons_append, List.nil_append, cat_i, cat_r, cat_n, ofN, nI_le' (show mnH S b l 99 i < 2147483648 by omega) (show d < 2147483648 by omega), nI_le' (show d < 2147483648 by omega) (show mxH S b l i < 2147483648 by omega), a, c, nI_add]
          exact I _
      rw [r_X9_apartBy_9]
      rcases (show l / 2 ^ i % 2 = 0 ∨ l / 2 ^ i % 2 = 1 by omega) with el | el
      · have e : hd S b l i = S 0 (5 + 2 * i + b / 2 ^ i % 2) := by unfold hd; rw [if_neg (by omega)]
        simp only [r_X9_apartBy_11, r_X9_apartBy_12, r_X9_apartBy_15, r_X9_apartBy_18, r_X9_apartBy_19, r_X9_apartBy_21, r_X9_apartBy_24, r_X9_apartBy_27, r_X9_apartBy_28, r_X9_apartBy_31, r_X9_apartBy_32, r_X9_apartBy_35, r_X9_apartBy_36, r_X9_apartBy_37, r_X9_apartBy_39, r_X9_apartBy_40, r_X9_apartBy_41, r_X9_apartBy_42, r_X9_apartBy_44, r_X9_apartBy_45, r_X9_apartBy_46, r_X9_apartBy_47, r_X9_apartBy_48, r_X9_apartBy_49, ↓reduceIte, Option.isSome_some, Option.getD_some, rL_v, rL_n, cH_s, List.cons_append, List.nil_append, cat_i, cat_r, cat_n, ofN, g9_0 hm, g9_1 hm, g9_2 hm, g9_3 hm, g9_4 hm, g9_5 hm, g9_6 hm, g9_7 hm, g9_8 hm, g9_9 hm, g9_10 hm, g9_11 hm, g9_12 hm, g9_13 hm, g9_14 hm, g9_15 hm, g9_16 hm, g9_17 hm, g9_18 hm, g9_19 hm, g9_20 hm, g9_21 hm, g9_22 hm, g9_23 hm, g9_24 hm, g9_25 hm, g9_26 hm, g9_27 hm, g9_28 hm, g9_29 hm, g9_30 hm, g9_31 hm, g9_32 hm, g9_33 hm, g9_34 hm, g9_35 hm, g9_36 hm, g9_37 hm, g9_38 hm, g9_39 hm, ro9 hm, q0, c_has (h := h) hl (show i < 8 by omega), el, nI_m, nI_add, shrB hb (show i < 8 by omega), gI_nI (hA 89 _ rfl) (by decide) (show 5 + 2 * i + b / 2 ^ i % 2 < 19 by omega)]
        exact T _ (by omega) e
      · have e : hd S b l i = 0 := by unfold hd; rw [if_pos el]
        simp only [r_X9_apartBy_11, r_X9_apartBy_12, r_X9_apartBy_15, r_X9_apartBy_18, r_X9_apartBy_19, r_X9_apartBy_21, r_X9_apartBy_24, r_X9_apartBy_27, r_X9_apartBy_28, r_X9_apartBy_31, r_X9_apartBy_32, r_X9_apartBy_35, r_X9_apartBy_36, r_X9_apartBy_37, r_X9_apartBy_39, r_X9_apartBy_40, r_X9_apartBy_41, r_X9_apartBy_42, r_X9_apartBy_44, r_X9_apartBy_45, r_X9_apartBy_46, r_X9_apartBy_47, r_X9_apartBy_48, r_X9_apartBy_49, ↓reduceIte, Option.isSome_some, Option.getD_some, rL_v, rL_n, cH_s, List.cons_append, List.nil_append, cat_i, cat_r, cat_n, ofN, g9_0 hm, g9_1 hm, g9_2 hm, g9_3 hm, g9_4 hm, g9_5 hm, g9_6 hm, g9_7 hm, g9_8 hm, g9_9 hm, g9_10 hm, g9_11 hm, g9_12 hm, g9_13 hm, g9_14 hm, g9_15 hm, g9_16 hm, g9_17 hm, g9_18 hm, g9_19 hm, g9_20 hm, g9_21 hm, g9_22 hm, g9_23 hm, g9_24 hm, g9_25 hm, g9_26 hm, g9_27 hm, g9_28 hm, g9_29 hm, g9_30 hm, g9_31 hm, g9_32 hm, g9_33 hm, g9_34 hm, g9_35 hm, g9_36 hm, g9_37 hm, g9_38 hm, g9_39 hm, ro9 hm, q0, c_has (h := h) hl (show i < 8 by omega), el, f0]
        exact T _ (by omega) e
  show Run M_X9_apartBy 0 [.ref 88, .int (nI b), .int (nI l), .null, .null, .null, .null] [] h = _
  simp only [r_X9_apartBy_0, r_X9_apartBy_2, r_X9_apartBy_3, r_X9_apartBy_4, r_X9_apartBy_6, r_X9_apartBy_7, ↓reduceIte, Option.isSome_some, Option.getD_some, rL_v, rL_n, cH_s, List.cons_append, List.nil_append, cat_i, cat_r, cat_n, ofN]
  exact L (S 12 1) 0 _ (by omega)
theorem lead_lt {S : SS} (hI : Inv S) : S 0 15 < 128 := by
  have h1 := hI.2.2.1.2.2.1
  have h2 : 2 ^ S 12 1 ≤ 2 ^ 7 := Nat.pow_le_pow_right (by decide) (by have := hI.2.1.1; omega)
  omega
theorem op_apart {S : SS} (hI : Inv S) : OpV M_X8_apart M_X9_apart [] S := by
  have hl := lead_lt hI
  refine OpV.read (r := .int (nI (sp S (S 0 15) 0))) hI (fun h hr => ?_) (fun h hr => ?_)
  · obtain ⟨o, h0, h1, -, hH, -⟩ := hr
    have hH1 := hH.1
    have hA1 := hH.2.2.2.2.1.1
    show Run M_X8_apart 0 [.ref 1] [] h = _
    simp only [r_X8_apart_0, r_X8_apart_1, r_X8_apart_4, r_X8_apart_5, r_X8_apart_8, r_X8_apart_11, r_X8_apart_14, r_X8_apart_15, r_X8_apart_18, ↓reduceIte, Option.isSome_some, Option.getD_some, rL_v, rL_n, cH_s, List.cons_append, List.nil_append, cat_i, cat_r, cat_n, ofN, g8_0 h1, g8_1 h1, g8_2 h1, g8_3 h1, g8_4 h1, g8_5 h1, g8_6 h1, g8_7 h1, g8_8 h1, ro8 h1, g4_0 hH1, g4_1 hH1, g4_2 hH1, g4_3 hH1, g4_4 hH1, g4_5 hH1, g4_6 hH1, ro4 hH1, g0_0 hA1, g0_1 hA1, g0_2 hA1, g0_3 hA1, g0_4 hA1, g0_5 hA1, g0_6 hA1, g0_7 hA1, g0_8 hA1, g0_9 hA1, g0_10 hA1, ro0 hA1, c_lagSpread hI hH (show S 0 15 < 2147483648 by omega) (show 0 < 2147483648 by decide)]
  · obtain ⟨⟨_, _, _, _, _, _, _, _, _, _, _, hm⟩, hA, -⟩ := id hr
    show Run M_X9_apart 0 [.ref 88] [] h = _
    simp only [r_X9_apart_0, r_X9_apart_1, r_X9_apart_2, r_X9_apart_5, r_X9_apart_7, r_X9_apart_8, r_X9_apart_9, r_X9_apart_12, ↓reduceIte, Option.isSome_some, Option.getD_some, rL_v, rL_n, cH_s, List.cons_append, List.nil_append, cat_i, cat_r, cat_n, ofN, g9_0 hm, g9_1 hm, g9_2 hm, g9_3 hm, g9_4 hm, g9_5 hm, g9_6 hm, g9_7 hm, g9_8 hm, g9_9 hm, g9_10 hm, g9_11 hm, g9_12 hm, g9_13 hm, g9_14 hm, g9_15 hm, g9_16 hm, g9_17 hm, g9_18 hm, g9_19 hm, g9_20 hm, g9_21 hm, g9_22 hm, g9_23 hm, g9_24 hm, g9_25 hm, g9_26 hm, g9_27 hm, g9_28 hm, g9_29 hm, g9_30 hm, g9_31 hm, g9_32 hm, g9_33 hm, g9_34 hm, g9_35 hm, g9_36 hm, g9_37 hm, g9_38 hm, g9_39 hm, ro9 hm, gI_nI (hA 89 _ rfl) (by decide) (show 15 < 19 by decide), c_apartBy hI hr (show S 0 15 < 2147483648 by omega) (show 0 < 2147483648 by decide)]
