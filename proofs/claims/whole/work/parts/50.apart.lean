/-! ===== apart, bestWay ===== -/
theorem sh_k {k : Nat} (hk : k < 8) : ((nI k &&& 31).toBitVec.smod 32).toNat = k := by
  rcases (show k = 0 ∨ k = 1 ∨ k = 2 ∨ k = 3 ∨ k = 4 ∨ k = 5 ∨ k = 6 ∨ k = 7 by omega) with rfl | rfl | rfl | rfl | rfl | rfl | rfl | rfl <;> decide
theorem shrB {n k : Nat} (hn : n < 2147483648) (hk : k < 8) : (nI n >>> (nI k &&& 31)) &&& nI 1 = nI (n / 2 ^ k % 2) := by
  have h1 : n / 2 ^ k ≤ n := Nat.div_le_self _ _
  rw [pk_shrN hn _ k (sh_k hk), pk_andN (show n / 2 ^ k < 2 ^ 32 by omega) 1 (by decide)]
def hd (S : SS) (b l p : Nat) : Nat := if l / 2 ^ p % 2 = 1 then 0 else S 0 (5 + 2 * p + b / 2 ^ p % 2)
def mnH (S : SS) (b l c : Nat) : Nat → Nat
  | 0 => c
  | p + 1 => min (mnH S b l c p) (hd S b l p)
def mxH (S : SS) (b l : Nat) : Nat → Nat
  | 0 => 0
  | p + 1 => max (mxH S b l p) (hd S b l p)
def sp (S : SS) (b l : Nat) : Nat := if S 12 1 < 2 then 0 else mxH S b l (S 12 1) - mnH S b l 30 (S 12 1)
theorem hd_le {S : SS} (hI : Inv S) {b l p : Nat} (hp : p < S 12 1) : hd S b l p ≤ 30 := by
  have h := hI.2.2.1.2.1 p hp
  unfold hd
  split
  · omega
  · rcases (show b / 2 ^ p % 2 = 0 ∨ b / 2 ^ p % 2 = 1 by omega) with e | e <;> rw [e]
    · exact h.1
    · exact h.2
theorem mnH_le (S : SS) (b l c : Nat) : ∀ k, mnH S b l c k ≤ c
  | 0 => Nat.le_refl _
  | k + 1 => by have := mnH_le S b l c k; simp only [mnH]; omega
theorem mxH_le {S : SS} (hI : Inv S) (b l : Nat) : ∀ k, k ≤ S 12 1 → mxH S b l k ≤ 30
  | 0, _ => Nat.zero_le _
  | k + 1, hk => by have := mxH_le hI b l k (by omega); have := hd_le hI (b := b) (l := l) (p := k) (by omega); simp only [mxH]; omega
theorem mnx (S : SS) (b l c : Nat) : ∀ k, mnH S b l c (k + 1) ≤ mxH S b l (k + 1)
  | 0 => by simp only [mnH, mxH]; omega
  | k + 1 => by
    have := mnx S b l c k
    show min (mnH S b l c (k + 1)) (hd S b l (k + 1)) ≤ max (mxH S b l (k + 1)) (hd S b l (k + 1))
    omega
theorem mnH_c {S : SS} (hI : Inv S) (b l : Nat) : ∀ k, k + 1 ≤ S 12 1 → mnH S b l 99 (k + 1) = mnH S b l 30 (k + 1)
  | 0, h => by have := hd_le hI (b := b) (l := l) (p := 0) (by omega); simp only [mnH]; omega
  | k + 1, h => by
    have := mnH_c hI b l k (by omega)
    show min (mnH S b l 99 (k + 1)) _ = min (mnH S b l 30 (k + 1)) _
    rw [this]
theorem c_lagSpread {h : AH} {S : SS} {o : Nat} (hI : Inv S) (hr : HallR h o S) {b l : Nat} (hb : b < 2147483648) (hl : l < 2147483648) : Call M_X4_lagSpread h [.ref o, .int (nI b), .int (nI l)] = some (h, some (.int (nI (sp S b l)))) := by
  have h5 := hI.2.1.1
  obtain ⟨hH, -, -, -, ⟨hA1, ⟨f1, b1, c1⟩, ⟨f2, b2, c2⟩⟩, -⟩ := hr
  show Run M_X4_lagSpread 0 [.ref o, .int (nI b), .int (nI l), .null, .null, .null, .null, .null] [] h = _
  by_cases hn : S 12 1 < 2
  · have q : ¬ nI 2 ≤ nI (S 12 1) := by rw [nI_le' (by decide) (by omega)]; omega
    simp only [r_X4_lagSpread_0, r_X4_lagSpread_1, r_X4_lagSpread_4, r_X4_lagSpread_5, r_X4_lagSpread_8, r_X4_lagSpread_9, ↓reduceIte, Option.isSome_some, Option.getD_some, rL_v, rL_n, cH_s, List.cons_append, List.nil_append, cat_i, cat_r, cat_n, ofN, g4_0 hH, g4_1 hH, g4_2 hH, g4_3 hH, g4_4 hH, g4_5 hH, g4_6 hH, ro4 hH, q]
    unfold sp
    rw [if_pos hn]
  · have q : nI 2 ≤ nI (S 12 1) := by rw [nI_le' (by decide) (by omega)]; omega
    have L : ∀ k i X Y, i + k = S 12 1 → Run M_X4_lagSpread 19 [.ref o, .int (nI b), .int (nI l), .int (nI (mnH S b l 30 i)), .int (nI (mxH S b l i)), .int (nI i), X, Y] [] h = some (h, some (.int (nI (sp S b l)))) := by
      intro k
      induction k with
      | zero =>
        intro i X Y hi
        have e : i = S 12 1 := by omega
        subst e
        have m := mnx S b l 30 (S 12 1 - 1)
        rw [show S 12 1 - 1 + 1 = S 12 1 by omega] at m
        simp only [r_X4_lagSpread_19, r_X4_lagSpread_21, r_X4_lagSpread_22, r_X4_lagSpread_25, r_X4_lagSpread_103, r_X4_lagSpread_105, r_X4_lagSpread_106, r_X4_lagSpread_107, ↓reduceIte, Option.isSome_some, Option.getD_some, rL_v, rL_n, cH_s, List.cons_append, List.nil_append, cat_i, cat_r, cat_n, ofN, g4_0 hH, g4_1 hH, g4_2 hH, g4_3 hH, g4_4 hH, g4_5 hH, g4_6 hH, ro4 hH, Int32.le_refl, nI_s m]
        unfold sp
        rw [if_neg hn]
      | succ k ih =>
        intro i X Y hi
        have hi2 : i < S 12 1 := by omega
        have q0 : ¬ nI (S 12 1) ≤ nI i := by rw [nI_le' (by omega) (by omega)]; omega
        have I := fun X Y => ih (i + 1) X Y (by omega)
        simp only [mnH, mxH] at I
        have m1 := mnH_le S b l 30 i
        have m2 := mxH_le hI b l i (by omega)
        have m3 := hd_le hI (b := b) (l := l) hi2
        have g1 := hI.2.2.1.2.1 i hi2
        rw [r_X4_lagSpread_19]
        have f0 : ¬ nI 0 = nI 1 := by decide
        rcases (show b / 2 ^ i % 2 = 0 ∨ b / 2 ^ i % 2 = 1 by omega) with eb | eb <;> rcases (show l / 2 ^ i % 2 = 0 ∨ l / 2 ^ i % 2 = 1 by omega) with el | el
        · have e : hd S b l i = S 0 (5 + 2 * i) := by unfold hd; rw [if_neg (by omega), eb, Nat.add_zero]
          rw [e] at I m3
          simp only [r_X4_lagSpread_21, r_X4_lagSpread_22, r_X4_lagSpread_25, r_X4_lagSpread_28, r_X4_lagSpread_29, r_X4_lagSpread_31, r_X4_lagSpread_32, r_X4_lagSpread_33, r_X4_lagSpread_34, r_X4_lagSpread_35, r_X4_lagSpread_38, r_X4_lagSpread_39, r_X4_lagSpread_42, r_X4_lagSpread_45, r_X4_lagSpread_47, r_X4_lagSpread_48, r_X4_lagSpread_51, r_X4_lagSpread_52, r_X4_lagSpread_55, r_X4_lagSpread_58, r_X4_lagSpread_60, r_X4_lagSpread_61, r_X4_lagSpread_63, r_X4_lagSpread_64, r_X4_lagSpread_66, r_X4_lagSpread_67, r_X4_lagSpread_68, r_X4_lagSpread_69, r_X4_lagSpread_70, r_X4_lagSpread_73, r_X4_lagSpread_74, r_X4_lagSpread_77, r_X4_lagSpread_79, r_X4_lagSpread_81, r_X4_lagSpread_82, r_X4_lagSpread_84, r_X4_lagSpread_87, r_X4_lagSpread_88, r_X4_lagSpread_90, r_X4_lagSpread_92, r_X4_lagSpread_95, r_X4_lagSpread_97, r_X4_lagSpread_100, ↓reduceIte, Option.isSome_some, Option.getD_some, rL_v, rL_n, cH_s, List.cons_append, List.nil_append, cat_i, cat_r, cat_n, ofN, g4_0 hH, g4_1 hH, g4_2 hH, g4_3 hH, g4_4 hH, g4_5 hH, g4_6 hH, ro4 hH, g0_0 hA1, g0_1 hA1, g0_2 hA1, g0_3 hA1, g0_4 hA1, g0_5 hA1, g0_6 hA1, g0_7 hA1, g0_8 hA1, g0_9 hA1, g0_10 hA1, ro0 hA1, q0, shrB hb (show i < 8 by omega), shrB hl (show i < 8 by omega), eb, el, f0, gI_nI b1 (by decide) (show i < 5 by omega), c1 i hi2, c_min (show mnH S b l 30 i < 2147483648 by omega) (show S 0 (5 + 2 * i) < 2147483648 by omega), c_max (show mxH S b l i < 2147483648 by omega) (show S 0 (5 + 2 * i) < 2147483648 by omega), nI_add]
          exact I _ _
        · have e : hd S b l i = 0 := by unfold hd; rw [if_pos el]
          rw [e] at I m3
          simp only [r_X4_lagSpread_21, r_X4_lagSpread_22, r_X4_lagSpread_25, r_X4_lagSpread_28, r_X4_lagSpread_29, r_X4_lagSpread_31, r_X4_lagSpread_32, r_X4_lagSpread_33, r_X4_lagSpread_34, r_X4_lagSpread_35, r_X4_lagSpread_38, r_X4_lagSpread_39, r_X4_lagSpread_42, r_X4_lagSpread_45, r_X4_lagSpread_47, r_X4_lagSpread_48, r_X4_lagSpread_51, r_X4_lagSpread_52, r_X4_lagSpread_55, r_X4_lagSpread_58, r_X4_lagSpread_60, r_X4_lagSpread_61, r_X4_lagSpread_63, r_X4_lagSpread_64, r_X4_lagSpread_66, r_X4_lagSpread_67, r_X4_lagSpread_68, r_X4_lagSpread_69, r_X4_lagSpread_70, r_X4_lagSpread_73, r_X4_lagSpread_74, r_X4_lagSpread_77, r_X4_lagSpread_79, r_X4_lagSpread_81, r_X4_lagSpread_82, r_X4_lagSpread_84, r_X4_lagSpread_87, r_X4_lagSpread_88, r_X4_lagSpread_90, r_X4_lagSpread_92, r_X4_lagSpread_95, r_X4_lagSpread_97, r_X4_lagSpread_100, ↓reduceIte, Option.isSome_some, Option.getD_some, rL_v, rL_n, cH_s, List.cons_append, List.nil_append, cat_i, cat_r, cat_n, ofN, g4_0 hH, g4_1 hH, g4_2 hH, g4_3 hH, g4_4 hH, g4_5 hH, g4_6 hH, ro4 hH, g0_0 hA1, g0_1 hA1, g0_2 hA1, g0_3 hA1, g0_4 hA1, g0_5 hA1, g0_6 hA1, g0_7 hA1, g0_8 hA1, g0_9 hA1, g0_10 hA1, ro0 hA1, q0, shrB hb (show i < 8 by omega), shrB hl (show i < 8 by omega), eb, el, f0, gI_nI b1 (by decide) (show i < 5 by omega), c1 i hi2, c_min (show mnH S b l 30 i < 2147483648 by omega) (show 0 < 2147483648 by omega), c_max (show mxH S b l i < 2147483648 by omega) (show 0 < 2147483648 by omega), nI_add]
          exact I _ _
        · have e : hd S b l i = S 0 (5 + 2 * i + 1) := by unfold hd; rw [if_neg (by omega), eb]
          rw [e] at I m3
          simp only [r_X4_lagSpread_21, r_X4_lagSpread_22, r_X4_lagSpread_25, r_X4_lagSpread_28, r_X4_lagSpread_29, r_X4_lagSpread_31, r_X4_lagSpread_32, r_X4_lagSpread_33, r_X4_lagSpread_34, r_X4_lagSpread_35, r_X4_lagSpread_38, r_X4_lagSpread_39, r_X4_lagSpread_42, r_X4_lagSpread_45, r_X4_lagSpread_47, r_X4_lagSpread_48, r_X4_lagSpread_51, r_X4_lagSpread_52, r_X4_lagSpread_55, r_X4_lagSpread_58, r_X4_lagSpread_60, r_X4_lagSpread_61, r_X4_lagSpread_63, r_X4_lagSpread_64, r_X4_lagSpread_66, r_X4_lagSpread_67, r_X4_lagSpread_68, r_X4_lagSpread_69, r_X4_lagSpread_70, r_X4_lagSpread_73, r_X4_lagSpread_74, r_X4_lagSpread_77, r_X4_lagSpread_79, r_X4_lagSpread_81, r_X4_lagSpread_82, r_X4_lagSpread_84, r_X4_lagSpread_87, r_X4_lagSpread_88, r_X4_lagSpread_90, r_X4_lagSpread_92, r_X4_lagSpread_95, r_X4_lagSpread_97, r_X4_lagSpread_100, ↓reduceIte, Option.isSome_some, Option.getD_some, rL_v, rL_n, cH_s, List.cons_append, List.nil_append, cat_i, cat_r, cat_n, ofN, g4_0 hH, g4_1 hH, g4_2 hH, g4_3 hH, g4_4 hH, g4_5 hH, g4_6 hH, ro4 hH, g0_0 hA1, g0_1 hA1, g0_2 hA1, g0_3 hA1, g0_4 hA1, g0_5 hA1, g0_6 hA1, g0_7 hA1, g0_8 hA1, g0_9 hA1, g0_10 hA1, ro0 hA1, q0, shrB hb (show i < 8 by omega), shrB hl (show i < 8 by omega), eb, el, f0, gI_nI b2 (by decide) (show i < 5 by omega), c2 i hi2, c_min (show mnH S b l 30 i < 2147483648 by omega) (show S 0 (5 + 2 * i + 1) < 2147483648 by omega), c_max (show mxH S b l i < 2147483648 by omega) (show S 0 (5 + 2 * i + 1) < 2147483648 by omega), nI_add]
          exact I _ _
        · have e : hd S b l i = 0 := by unfold hd; rw [if_pos el]
          rw [e] at I m3
          simp only [r_X4_lagSpread_21, r_X4_lagSpread_22, r_X4_lagSpread_25, r_X4_lagSpread_28, r_X4_lagSpread_29, r_X4_lagSpread_31, r_X4_lagSpread_32, r_X4_lagSpread_33, r_X4_lagSpread_34, r_X4_lagSpread_35, r_X4_lagSpread_38, r_X4_lagSpread_39, r_X4_lagSpread_42, r_X4_lagSpread_45, r_X4_lagSpread_47, r_X4_lagSpread_48, r_X4_lagSpread_51, r_X4_lagSpread_52, r_X4_lagSpread_55, r_X4_lagSpread_58, r_X4_lagSpread_60, r_X4_lagSpread_61, r_X4_lagSpread_63, r_X4_lagSpread_64, r_X4_lagSpread_66, r_X4_lagSpread_67, r_X4_lagSpread_68, r_X4_lagSpread_69, r_X4_lagSpread_70, r_X4_lagSpread_73, r_X4_lagSpread_74, r_X4_lagSpread_77, r_X4_lagSpread_79, r_X4_lagSpread_81, r_X4_lagSpread_82, r_X4_lagSpread_84, r_X4_lagSpread_87, r_X4_lagSpread_88, r_X4_lagSpread_90, r_X4_lagSpread_92, r_X4_lagSpread_95, r_X4_lagSpread_97, r_X4_lagSpread_100, ↓reduceIte, Option.isSome_some, Option.getD_some, rL_v, rL_n, cH_s, List.cons_append, List.nil_append, cat_i, cat_r, cat_n, ofN, g4_0 hH, g4_1 hH, g4_2 hH, g4_3 hH, g4_4 hH, g4_5 hH, g4_6 hH, ro4 hH, g0_0 hA1, g0_1 hA1, g0_2 hA1, g0_3 hA1, g0_4 hA1, g0_5 hA1, g0_6 hA1, g0_7 hA1, g0_8 hA1, g0_9 hA1, g0_10 hA1, ro0 hA1, q0, shrB hb (show i < 8 by omega), shrB hl (show i < 8 by omega), eb, el, f0, gI_nI b2 (by decide) (show i < 5 by omega), c2 i hi2, c_min (show mnH S b l 30 i < 2147483648 by omega) (show 0 < 2147483648 by omega), c_max (show mxH S b l i < 2147483648 by omega) (show 0 < 2147483648 by omega), nI_add]
          exact I _ _
    simp only [r_X4_lagSpread_0, r_X4_lagSpread_1, r_X4_lagSpread_4, r_X4_lagSpread_5, r_X4_lagSpread_8, r_X4_lagSpread_9, r_X4_lagSpread_10, r_X4_lagSpread_12, r_X4_lagSpread_13, r_X4_lagSpread_14, r_X4_lagSpread_16, r_X4_lagSpread_17, ↓reduceIte, Option.isSome_some, Option.getD_some, rL_v, rL_n, cH_s, List.cons_append, List.nil_append, cat_i, cat_r, cat_n, ofN, g4_0 hH, g4_1 hH, g4_2 hH, g4_3 hH, g4_4 hH, g4_5 hH, g4_6 hH, ro4 hH, q]
    exact L (S 12 1) 0 _ _ (by omega)
