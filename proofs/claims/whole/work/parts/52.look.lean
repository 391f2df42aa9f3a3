/-! ===== lookers ===== -/
def us (x : Int32) (k : Nat) : Int32 := (x.toUInt32 >>> ((nI k).toUInt32 &&& Int32.toUInt32 31)).toInt32
def bc5 (d : Int32) : Int32 := (d + us d 16) &&& nI 63
def bc4 (c : Int32) : Int32 := bc5 (c + us c 8)
def bc3 (b : Int32) : Int32 := bc4 ((b + us b 4) &&& nI 252645135)
def bc2 (a : Int32) : Int32 := bc3 ((a &&& nI 858993459) + (us a 2 &&& nI 858993459))
def bc (x : Int32) : Int32 := bc2 (x - (us x 1 &&& nI 1431655765))
theorem c_bitCount {h : AH} {x : Int32} : Call M_J6_bitCount_0f7a4 h [.int x] = some (h, some (.int (bc x))) := by
  show Run M_J6_bitCount_0f7a4 0 [.int x] [] h = _
  simp only [r_J6_bitCount_0f7a4_0, r_J6_bitCount_0f7a4_1, r_J6_bitCount_0f7a4_2, r_J6_bitCount_0f7a4_3, r_J6_bitCount_0f7a4_4, r_J6_bitCount_0f7a4_7, r_J6_bitCount_0f7a4_8, r_J6_bitCount_0f7a4_9, r_J6_bitCount_0f7a4_10, r_J6_bitCount_0f7a4_11, r_J6_bitCount_0f7a4_14, r_J6_bitCount_0f7a4_15, r_J6_bitCount_0f7a4_16, r_J6_bitCount_0f7a4_17, r_J6_bitCount_0f7a4_18, r_J6_bitCount_0f7a4_21, r_J6_bitCount_0f7a4_22, r_J6_bitCount_0f7a4_23, r_J6_bitCount_0f7a4_24, r_J6_bitCount_0f7a4_25, r_J6_bitCount_0f7a4_26, r_J6_bitCount_0f7a4_27, r_J6_bitCount_0f7a4_28, r_J6_bitCount_0f7a4_29, r_J6_bitCount_0f7a4_32, r_J6_bitCount_0f7a4_33, r_J6_bitCount_0f7a4_34, r_J6_bitCount_0f7a4_35, r_J6_bitCount_0f7a4_36, r_J6_bitCount_0f7a4_38, r_J6_bitCount_0f7a4_39, r_J6_bitCount_0f7a4_40, r_J6_bitCount_0f7a4_41, r_J6_bitCount_0f7a4_42, r_J6_bitCount_0f7a4_43, r_J6_bitCount_0f7a4_45, r_J6_bitCount_0f7a4_46, r_J6_bitCount_0f7a4_47, r_J6_bitCount_0f7a4_48, r_J6_bitCount_0f7a4_49, r_J6_bitCount_0f7a4_51, r_J6_bitCount_0f7a4_52, ↓reduceIte, Option.isSome_some, Option.getD_some, rL_v, rL_n, cH_s, List.cons_append, List.nil_append, cat_i, cat_r, cat_n, ofN]
  rfl
/-- how many in a SET -/
def pc : Nat → Nat → Nat
  | 0, _ => 0
  | k + 1, v => v % 2 + pc k (v / 2)
theorem bc_pc : ∀ v, v < 128 → bc (nI v) = nI (pc 7 v) := by decide +kernel
theorem lw_and : ∀ v, v < 128 → 0 < v → nI v &&& (nI v - nI 1) = nI (v &&& (v - 1)) ∧ (v &&& (v - 1)) < v ∧ pc 7 (v &&& (v - 1)) + 1 = pc 7 v := by decide +kernel
theorem c_bits {h : AH} {v : Nat} (hv : v < 128) : Call M_X9_bits h [.int (nI v)] = some (h, some (.int (nI (pc 7 v)))) := by
  have L : ∀ n w c X, w < n → w < 128 → Run M_X9_bits 4 [X, .int (nI c), .int (nI w)] [] h = some (h, some (.int (nI (c + pc 7 w)))) ∨ X.category ≠ 1 := by
    intro n
    induction n with
    | zero => intro w c X hw; omega
    | succ n ih =>
      intro w c X hw hw2
      by_cases hX : X.category = 1
      · left
        by_cases a : w = 0
        · subst a
          have q : nI 0 ≤ nI 0 := by decide
          have e : pc 7 0 = 0 := by decide
          simp only [r_X9_bits_4, r_X9_bits_5, r_X9_bits_20, r_X9_bits_21, ↓reduceIte, Option.isSome_some, Option.getD_some, rL_v, rL_n, cH_s, List.cons_append, List.nil_append, cat_i, cat_r, cat_n, ofN, q, e, Nat.add_zero]
        · have q : ¬ nI w ≤ nI 0 := by rw [nI_le' (by omega) (by omega)]; omega
          obtain ⟨e1, e2, e3⟩ := lw_and w hw2 (by omega)
          have I := (ih (w &&& (w - 1)) (c + 1) X (by omega) (by omega)).resolve_right (fun e => e hX)
          rw [r_X9_bits_4]
          simp only [r_X9_bits_5, r_X9_bits_8, r_X9_bits_11, r_X9_bits_12, r_X9_bits_13, r_X9_bits_14, r_X9_bits_15, r_X9_bits_16, r_X9_bits_17, ↓reduceIte, Option.isSome_some, Option.getD_some, rL_v, rL_n, cH_s, List.cons_append, List.nil_append, cat_i, cat_r, cat_n, ofN, hX, q, e1, nI_add]
          rw [I]
          congr 4
          congr 1
          omega
      · right; exact hX
  show Run M_X9_bits 0 [.int (nI v), .null, .null] [] h = _
  simp only [r_X9_bits_0, r_X9_bits_1, r_X9_bits_2, r_X9_bits_3, ↓reduceIte, Option.isSome_some, Option.getD_some, rL_v, rL_n, cH_s, List.cons_append, List.nil_append, cat_i, cat_r, cat_n, ofN]
  have := (L (v + 1) v 0 (.int (nI v)) (by omega) hv).resolve_right (fun e => e rfl)
  rw [Nat.zero_add] at this
  exact this
/-- the best by the first k SETS, + 1 -/
def lkN (S : SS) (d : Nat) : Nat → Nat
  | 0 => 0
  | k + 1 => if (lkN S d k = 0 ∨ pc 7 k < pc 7 (lkN S d k - 1)) ∧ sp S (S 0 15) k ≤ d then k + 1 else lkN S d k
theorem lkN_le (S : SS) (d : Nat) : ∀ k, lkN S d k ≤ k
  | 0 => Nat.le_refl _
  | k + 1 => by have := lkN_le S d k; simp only [lkN]; split <;> omega
def lkP (S : SS) (d k : Nat) : Nat := if lkN S d k = 0 then 0 else pc 7 (lkN S d k - 1) + 1
theorem pc_lt : ∀ v, v < 128 → pc 7 v ≤ 7 := by decide +kernel
theorem op_lookers {S : SS} (hI : Inv S) (x y : Int32) : OpV M_X8_lookers M_X9_lookers [.int x, .int y] S := by
  have h5 := hI.2.1.1
  have h2 := two_le (show S 12 1 ≤ 7 by omega)
  have hpos : 1 ≤ 2 ^ S 12 1 := Nat.one_le_two_pow
  have hl := lead_lt hI
  by_cases hx : nI 0 ≤ x ∧ x ≤ nI 30
  · by_cases hy : nI 0 ≤ y ∧ y ≤ nI 1
    · obtain ⟨d, hd1, rfl⟩ := rng (by decide) hx
      obtain ⟨q, hq, rfl⟩ := rng (by decide) hy
      have f0 : ¬ nI 1 = nI 0 := by decide
      have f2 : ¬ nI 0 = nI 1 := by decide
      have f1 : ¬ (1 : Nat) = 0 := by decide
      refine OpV.read (r := .int (if q = 0 then fI (lkP S d (2 ^ S 12 1)) else fI (lkN S d (2 ^ S 12 1)))) hI (fun h hr => ?_) (fun h hr => ?_)
      · obtain ⟨o, h0, h1, -, hH, -⟩ := hr
        have hH1 := hH.1
        have hA1 := hH.2.2.2.2.1.1
        have L : ∀ k i X Y, i + k = 2 ^ S 12 1 → Run M_X8_lookers 30 [.ref 1, .int (nI d), .int (nI q), .int (fI (lkN S d i)), .int (fI (lkP S d i)), .int (nI i), X, Y] [] h = some (h, some (.int (if q = 0 then fI (lkP S d (2 ^ S 12 1)) else fI (lkN S d (2 ^ S 12 1))))) := by
          intro k
          induction k with
          | zero =>
            intro i X Y hi
            have e : i = 2 ^ S 12 1 := by omega
            subst e
            have q1 : nI (2 ^ S 12 1) - nI 1 < nI (2 ^ S 12 1) := by rw [nI_s hpos, nI_lt' (by omega) (by omega)]; omega
            rcases (show q = 0 ∨ q = 1 by omega) with rfl | rfl <;> simp only [r_X8_lookers_30, r_X8_lookers_32, r_X8_lookers_33, r_X8_lookers_36, r_X8_lookers_39, r_X8_lookers_110, r_X8_lookers_111, r_X8_lookers_114, r_X8_lookers_116, r_X8_lookers_119, r_X8_lookers_120, ↓reduceIte, Option.isSome_some, Option.getD_some, rL_v, rL_n, cH_s, List.cons_append, List.nil_append, cat_i, cat_r, cat_n, ofN, g8_0 h1, g8_1 h1, g8_2 h1, g8_3 h1, g8_4 h1, g8_5 h1, g8_6 h1, g8_7 h1, g8_8 h1, ro8 h1, ro4 hH1, c_everyPlayer hH1 (show S 12 1 ≤ 7 by omega), q1, f0, f1]
          | succ k ih =>
            intro i X Y hi
            have q1 : ¬ nI (2 ^ S 12 1) - nI 1 < nI i := by rw [nI_s hpos, nI_lt' (by omega) (by omega)]; omega
            have l1 := sp_le hI (S 0 15) i
            have l2 := lkN_le S d i
            have b1 := pc_lt i (by omega)
            have I := fun X Y => ih (i + 1) X Y (by omega)
            have hbc := bc_pc i (by omega)
            rw [r_X8_lookers_30]
            by_cases a : lkN S d i = 0
            · have z : lkP S d i = 0 := by unfold lkP; rw [if_pos a]
              by_cases c : sp S (S 0 15) i ≤ d
              · have e1 : lkN S d (i + 1) = i + 1 := by simp only [lkN]; rw [if_pos ⟨Or.inl a, c⟩]
                have e2 : lkP S d (i + 1) = pc 7 i + 1 := by unfold lkP; rw [e1, if_neg (by omega), Nat.add_sub_cancel]
                rw [e1, e2, fI_s, fI_s] at I
                simp only [r_X8_lookers_32, r_X8_lookers_33, r_X8_lookers_36, r_X8_lookers_39, r_X8_lookers_42, r_X8_lookers_44, r_X8_lookers_47, r_X8_lookers_49, r_X8_lookers_51, r_X8_lookers_52, r_X8_lookers_55, r_X8_lookers_57, r_X8_lookers_59, r_X8_lookers_62, r_X8_lookers_63, r_X8_lookers_66, r_X8_lookers_67, r_X8_lookers_69, r_X8_lookers_71, r_X8_lookers_74, r_X8_lookers_75, r_X8_lookers_78, r_X8_lookers_79, r_X8_lookers_82, r_X8_lookers_85, r_X8_lookers_88, r_X8_lookers_90, r_X8_lookers_93, r_X8_lookers_94, r_X8_lookers_97, r_X8_lookers_99, r_X8_lookers_101, r_X8_lookers_103, r_X8_lookers_104, r_X8_lookers_107, ↓reduceIte, Option.isSome_some, Option.getD_some, rL_v, rL_n, cH_s, List.cons_append, List.nil_append, cat_i, cat_r, cat_n, ofN, g8_0 h1, g8_1 h1, g8_2 h1, g8_3 h1, g8_4 h1, g8_5 h1, g8_6 h1, g8_7 h1, g8_8 h1, ro8 h1, g4_0 hH1, g4_1 hH1, g4_2 hH1, g4_3 hH1, g4_4 hH1, g4_5 hH1, g4_6 hH1, ro4 hH1, g0_0 hA1, g0_1 hA1, g0_2 hA1, g0_3 hA1, g0_4 hA1, g0_5 hA1, g0_6 hA1, g0_7 hA1, g0_8 hA1, g0_9 hA1, g0_10 hA1, ro0 hA1, ro4 hH1, c_everyPlayer hH1 (show S 12 1 ≤ 7 by omega), q1, c_bitCount, hbc, z, fI_eq (show 0 < 2147483648 by decide), f0, c_lagSpread hI hH (show S 0 15 < 2147483648 by omega) (show i < 2147483648 by omega), nI_lt' (show d < 2147483648 by omega) (show sp S (S 0 15) i < 2147483648 by omega), show ¬ d < sp S (S 0 15) i by omega, nI_add]
                exact I _ _
              · have e1 : lkN S d (i + 1) = lkN S d i := by simp only [lkN]; rw [if_neg (fun e => c e.2)]
                have e2 : lkP S d (i + 1) = lkP S d i := by unfold lkP; rw [e1]
                rw [e1, e2, z] at I
                simp only [r_X8_lookers_32, r_X8_lookers_33, r_X8_lookers_36, r_X8_lookers_39, r_X8_lookers_42, r_X8_lookers_44, r_X8_lookers_47, r_X8_lookers_49, r_X8_lookers_51, r_X8_lookers_52, r_X8_lookers_55, r_X8_lookers_57, r_X8_lookers_59, r_X8_lookers_62, r_X8_lookers_63, r_X8_lookers_66, r_X8_lookers_67, r_X8_lookers_69, r_X8_lookers_71, r_X8_lookers_74, r_X8_lookers_75, r_X8_lookers_78, r_X8_lookers_79, r_X8_lookers_82, r_X8_lookers_85, r_X8_lookers_88, r_X8_lookers_90, r_X8_lookers_93, r_X8_lookers_94, r_X8_lookers_97, r_X8_lookers_99, r_X8_lookers_101, r_X8_lookers_103, r_X8_lookers_104, r_X8_lookers_107, ↓reduceIte, Option.isSome_some, Option.getD_some, rL_v, rL_n, cH_s, List.cons_append, List.nil_append, cat_i, cat_r, cat_n, ofN, g8_0 h1, g8_1 h1, g8_2 h1, g8_3 h1, g8_4 h1, g8_5 h1, g8_6 h1, g8_7 h1, g8_8 h1, ro8 h1, g4_0 hH1, g4_1 hH1, g4_2 hH1, g4_3 hH1, g4_4 hH1, g4_5 hH1, g4_6 hH1, ro4 hH1, g0_0 hA1, g0_1 hA1, g0_2 hA1, g0_3 hA1, g0_4 hA1, g0_5 hA1, g0_6 hA1, g0_7 hA1, g0_8 hA1, g0_9 hA1, g0_10 hA1, ro0 hA1, ro4 hH1, c_everyPlayer hH1 (show S 12 1 ≤ 7 by omega), q1, c_bitCount, hbc, z, fI_eq (show 0 < 2147483648 by decide), f0, c_lagSpread hI hH (show S 0 15 < 2147483648 by omega) (show i < 2147483648 by omega), nI_lt' (show d < 2147483648 by omega) (show sp S (S 0 15) i < 2147483648 by omega), show d < sp S (S 0 15) i by omega, nI_add]
                exact I _ _
            · have z : lkP S d i = pc 7 (lkN S d i - 1) + 1 := by unfold lkP; rw [if_neg a]
              have b2 := pc_lt (lkN S d i - 1) (by omega)
              have hne : ¬ nI (pc 7 (lkN S d i - 1)) = -1 := by rw [← fI_s, fI_eq (by omega)]; omega
              by_cases g : pc 7 i < pc 7 (lkN S d i - 1)
              · by_cases c : sp S (S 0 15) i ≤ d
                · have e1 : lkN S d (i + 1) = i + 1 := by simp only [lkN]; rw [if_pos ⟨Or.inr g, c⟩]
                  have e2 : lkP S d (i + 1) = pc 7 i + 1 := by unfold lkP; rw [e1, if_neg (by omega), Nat.add_sub_cancel]
                  rw [e1, e2, fI_s, fI_s] at I
                  simp only [r_X8_lookers_32, r_X8_lookers_33, r_X8_lookers_36, r_X8_lookers_39, r_X8_lookers_42, r_X8_lookers_44, r_X8_lookers_47, r_X8_lookers_49, r_X8_lookers_51, r_X8_lookers_52, r_X8_lookers_55, r_X8_lookers_57, r_X8_lookers_59, r_X8_lookers_62, r_X8_lookers_63, r_X8_lookers_66, r_X8_lookers_67, r_X8_lookers_69, r_X8_lookers_71, r_X8_lookers_74, r_X8_lookers_75, r_X8_lookers_78, r_X8_lookers_79, r_X8_lookers_82, r_X8_lookers_85, r_X8_lookers_88, r_X8_lookers_90, r_X8_lookers_93, r_X8_lookers_94, r_X8_lookers_97, r_X8_lookers_99, r_X8_lookers_101, r_X8_lookers_103, r_X8_lookers_104, r_X8_lookers_107, ↓reduceIte, Option.isSome_some, Option.getD_some, rL_v, rL_n, cH_s, List.cons_append, List.nil_append, cat_i, cat_r, cat_n, ofN, g8_0 h1, g8_1 h1, g8_2 h1, g8_3 h1, g8_4 h1, g8_5 h1, g8_6 h1, g8_7 h1, g8_8 h1, ro8 h1, g4_0 hH1, g4_1 hH1, g4_2 hH1, g4_3 hH1, g4_4 hH1, g4_5 hH1, g4_6 hH1, ro4 hH1, g0_0 hA1, g0_1 hA1, g0_2 hA1, g0_3 hA1, g0_4 hA1, g0_5 hA1, g0_6 hA1, g0_7 hA1, g0_8 hA1, g0_9 hA1, g0_10 hA1, ro0 hA1, ro4 hH1, c_everyPlayer hH1 (show S 12 1 ≤ 7 by omega), q1, c_bitCount, hbc, z, fI_s, hne, nI_le' (show pc 7 (lkN S d i - 1) < 2147483648 by omega) (show pc 7 i < 2147483648 by omega), show ¬ pc 7 (lkN S d i - 1) ≤ pc 7 i by omega, f0, c_lagSpread hI hH (show S 0 15 < 2147483648 by omega) (show i < 2147483648 by omega), nI_lt' (show d < 2147483648 by omega) (show sp S (S 0 15) i < 2147483648 by omega), show ¬ d < sp S (S 0 15) i by omega, nI_add]
                  exact I _ _
                · have e1 : lkN S d (i + 1) = lkN S d i := by simp only [lkN]; rw [if_neg (fun e => c e.2)]
                  have e2 : lkP S d (i + 1) = lkP S d i := by unfold lkP; rw [e1]
                  rw [e1, e2, z, fI_s] at I
                  simp only [r_X8_lookers_32, r_X8_lookers_33, r_X8_lookers_36, r_X8_lookers_39, r_X8_lookers_42, r_X8_lookers_44, r_X8_lookers_47, r_X8_lookers_49, r_X8_lookers_51, r_X8_lookers_52, r_X8_lookers_55, r_X8_lookers_57, r_X8_lookers_59, r_X8_lookers_62, r_X8_lookers_63, r_X8_lookers_66, r_X8_lookers_67, r_X8_lookers_69, r_X8_lookers_71, r_X8_lookers_74, r_X8_lookers_75, r_X8_lookers_78, r_X8_lookers_79, r_X8_lookers_82, r_X8_lookers_85, r_X8_lookers_88, r_X8_lookers_90, r_X8_lookers_93, r_X8_lookers_94, r_X8_lookers_97, r_X8_lookers_99, r_X8_lookers_101, r_X8_lookers_103, r_X8_lookers_104, r_X8_lookers_107, ↓reduceIte, Option.isSome_some, Option.getD_some, rL_v, rL_n, cH_s, List.cons_append, List.nil_append, cat_i, cat_r, cat_n, ofN, g8_0 h1, g8_1 h1, g8_2 h1, g8_3 h1, g8_4 h1, g8_5 h1, g8_6 h1, g8_7 h1, g8_8 h1, ro8 h1, g4_0 hH1, g4_1 hH1, g4_2 hH1, g4_3 hH1, g4_4 hH1, g4_5 hH1, g4_6 hH1, ro4 hH1, g0_0 hA1, g0_1 hA1, g0_2 hA1, g0_3 hA1, g0_4 hA1, g0_5 hA1, g0_6 hA1, g0_7 hA1, g0_8 hA1, g0_9 hA1, g0_10 hA1, ro0 hA1, ro4 hH1, c_everyPlayer hH1 (show S 12 1 ≤ 7 by omega), q1, c_bitCount, hbc, z, fI_s, hne, nI_le' (show pc 7 (lkN S d i - 1) < 2147483648 by omega) (show pc 7 i < 2147483648 by omega), show ¬ pc 7 (lkN S d i - 1) ≤ pc 7 i by omega, f0, c_lagSpread hI hH (show S 0 15 < 2147483648 by omega) (show i < 2147483648 by omega), nI_lt' (show d < 2147483648 by omega) (show sp S (S 0 15) i < 2147483648 by omega), show d < sp S (S 0 15) i by omega, nI_add]
                  exact I _ _
              · have e1 : lkN S d (i + 1) = lkN S d i := by simp only [lkN]; rw [if_neg (fun e => by omega)]
                have e2 : lkP S d (i + 1) = lkP S d i := by unfold lkP; rw [e1]
                rw [e1, e2, z, fI_s] at I
                simp only [r_X8_lookers_32, r_X8_lookers_33, r_X8_lookers_36, r_X8_lookers_39, r_X8_lookers_42, r_X8_lookers_44, r_X8_lookers_47, r_X8_lookers_49, r_X8_lookers_51, r_X8_lookers_52, r_X8_lookers_55, r_X8_lookers_57, r_X8_lookers_59, r_X8_lookers_62, r_X8_lookers_63, r_X8_lookers_66, r_X8_lookers_67, r_X8_lookers_69, r_X8_lookers_71, r_X8_lookers_74, r_X8_lookers_75, r_X8_lookers_78, r_X8_lookers_79, r_X8_lookers_82, r_X8_lookers_85, r_X8_lookers_88, r_X8_lookers_90, r_X8_lookers_93, r_X8_lookers_94, r_X8_lookers_97, r_X8_lookers_99, r_X8_lookers_101, r_X8_lookers_103, r_X8_lookers_104, r_X8_lookers_107, ↓reduceIte, Option.isSome_some, Option.getD_some, rL_v, rL_n, cH_s, List.cons_append, List.nil_append, cat_i, cat_r, cat_n, ofN, g8_0 h1, g8_1 h1, g8_2 h1, g8_3 h1, g8_4 h1, g8_5 h1, g8_6 h1, g8_7 h1, g8_8 h1, ro8 h1, g4_0 hH1, g4_1 hH1, g4_2 hH1, g4_3 hH1, g4_4 hH1, g4_5 hH1, g4_6 hH1, ro4 hH1, g0_0 hA1, g0_1 hA1, g0_2 hA1, g0_3 hA1, g0_4 hA1, g0_5 hA1, g0_6 hA1, g0_7 hA1, g0_8 hA1, g0_9 hA1, g0_10 hA1, ro0 hA1, ro4 hH1, c_everyPlayer hH1 (show S 12 1 ≤ 7 by omega), q1, c_bitCount, hbc, z, fI_s, hne, nI_le' (show pc 7 (lkN S d i - 1) < 2147483648 by omega) (show pc 7 i < 2147483648 by omega), show pc 7 (lkN S d i - 1) ≤ pc 7 i by omega, nI_add]
                exact I _ _
        show Run M_X8_lookers 0 [.ref 1, .int (nI d), .int (nI q), .null, .null, .null, .null, .null] [] h = _
        simp only [r_X8_lookers_0, r_X8_lookers_1, r_X8_lookers_2, r_X8_lookers_4, r_X8_lookers_7, r_X8_lookers_10, r_X8_lookers_11, r_X8_lookers_12, r_X8_lookers_13, r_X8_lookers_16, r_X8_lookers_19, r_X8_lookers_21, r_X8_lookers_22, r_X8_lookers_23, r_X8_lookers_24, r_X8_lookers_25, r_X8_lookers_27, r_X8_lookers_28, ↓reduceIte, Option.isSome_some, Option.getD_some, rL_v, rL_n, cH_s, List.cons_append, List.nil_append, cat_i, cat_r, cat_n, ofN, c_within, ite_bI, hx, hy, and_self]
        exact L (2 ^ S 12 1) 0 _ _ (by omega)
      · obtain ⟨⟨_, _, _, _, _, _, _, _, _, _, _, hm⟩, hA, -⟩ := id hr
        have L : ∀ k i X, i + k = 2 ^ S 12 1 → Run M_X9_lookers 27 [.ref 88, .int (nI d), .int (nI q), .int (fI (lkN S d i)), .int (nI i), X] [] h = some (h, some (.int (if q = 0 then fI (lkP S d (2 ^ S 12 1)) else fI (lkN S d (2 ^ S 12 1))))) := by
          intro k
          induction k with
          | zero =>
            intro i X hi
            have e : i = 2 ^ S 12 1 := by omega
            subst e
            have q1 : nI (2 ^ S 12 1) ≤ nI (2 ^ S 12 1) := Int32.le_refl _
            have l2 := lkN_le S d (2 ^ S 12 1)
            by_cases a : lkN S d (2 ^ S 12 1) = 0
            · have z : lkP S d (2 ^ S 12 1) = 0 := by unfold lkP; rw [if_pos a]
              rw [a, z, ite_self]
              simp only [r_X9_lookers_27, r_X9_lookers_29, r_X9_lookers_30, r_X9_lookers_31, r_X9_lookers_34, r_X9_lookers_35, r_X9_lookers_97, r_X9_lookers_98, r_X9_lookers_99, r_X9_lookers_102, r_X9_lookers_103, r_X9_lookers_104, r_X9_lookers_107, r_X9_lookers_108, r_X9_lookers_111, r_X9_lookers_112, r_X9_lookers_115, ↓reduceIte, Option.isSome_some, Option.getD_some, rL_v, rL_n, cH_s, List.cons_append, List.nil_append, cat_i, cat_r, cat_n, ofN, g9_0 hm, g9_1 hm, g9_2 hm, g9_3 hm, g9_4 hm, g9_5 hm, g9_6 hm, g9_7 hm, g9_8 hm, g9_9 hm, g9_10 hm, g9_11 hm, g9_12 hm, g9_13 hm, g9_14 hm, g9_15 hm, g9_16 hm, g9_17 hm, g9_18 hm, g9_19 hm, g9_20 hm, g9_21 hm, g9_22 hm, g9_23 hm, g9_24 hm, g9_25 hm, g9_26 hm, g9_27 hm, g9_28 hm, g9_29 hm, g9_30 hm, g9_31 hm, g9_32 hm, g9_33 hm, g9_34 hm, g9_35 hm, g9_36 hm, g9_37 hm, g9_38 hm, g9_39 hm, ro9 hm, shl1 (show S 12 1 ≤ 7 by omega), q1, fI_eq (show 0 < 2147483648 by decide)]
            · have z : lkP S d (2 ^ S 12 1) = pc 7 (lkN S d (2 ^ S 12 1) - 1) + 1 := by unfold lkP; rw [if_neg a]
              have ef : fI (lkN S d (2 ^ S 12 1)) = nI (lkN S d (2 ^ S 12 1) - 1) := by
                rw [← fI_s (lkN S d (2 ^ S 12 1) - 1), show lkN S d (2 ^ S 12 1) - 1 + 1 = lkN S d (2 ^ S 12 1) by omega]
              have hne : ¬ nI (lkN S d (2 ^ S 12 1) - 1) = -1 := by rw [← fI_s, fI_eq (by omega)]; omega
              rw [z, fI_s, ef]
              rcases (show q = 0 ∨ q = 1 by omega) with rfl | rfl <;> simp only [r_X9_lookers_27, r_X9_lookers_29, r_X9_lookers_30, r_X9_lookers_31, r_X9_lookers_34, r_X9_lookers_35, r_X9_lookers_97, r_X9_lookers_98, r_X9_lookers_99, r_X9_lookers_102, r_X9_lookers_103, r_X9_lookers_104, r_X9_lookers_107, r_X9_lookers_108, r_X9_lookers_111, r_X9_lookers_112, r_X9_lookers_115, ↓reduceIte, Option.isSome_some, Option.getD_some, rL_v, rL_n, cH_s, List.cons_append, List.nil_append, cat_i, cat_r, cat_n, ofN, g9_0 hm, g9_1 hm, g9_2 hm, g9_3 hm, g9_4 hm, g9_5 hm, g9_6 hm, g9_7 hm, g9_8 hm, g9_9 hm, g9_10 hm, g9_11 hm, g9_12 hm, g9_13 hm, g9_14 hm, g9_15 hm, g9_16 hm, g9_17 hm, g9_18 hm, g9_19 hm, g9_20 hm, g9_21 hm, g9_22 hm, g9_23 hm, g9_24 hm, g9_25 hm, g9_26 hm, g9_27 hm, g9_28 hm, g9_29 hm, g9_30 hm, g9_31 hm, g9_32 hm, g9_33 hm, g9_34 hm, g9_35 hm, g9_36 hm, g9_37 hm, g9_38 hm, g9_39 hm, ro9 hm, shl1 (show S 12 1 ≤ 7 by omega), q1, hne, f0, f1, f2, c_bits (h := h) (show lkN S d (2 ^ S 12 1) - 1 < 128 by omega)]
          | succ k ih =>
            intro i X hi
            have q1 : ¬ nI (2 ^ S 12 1) ≤ nI i := by rw [nI_le' (by omega) (by omega)]; omega
            have l1 := sp_le hI (S 0 15) i
            have l2 := lkN_le S d i
            have b1 := pc_lt i (by omega)
            have I := fun X => ih (i + 1) X (by omega)
            rw [r_X9_lookers_27]
            by_cases a : lkN S d i = 0
            · by_cases c : sp S (S 0 15) i ≤ d
              · have e1 : lkN S d (i + 1) = i + 1 := by simp only [lkN]; rw [if_pos ⟨Or.inl a, c⟩]
                rw [e1, fI_s] at I
                simp only [r_X9_lookers_29, r_X9_lookers_30, r_X9_lookers_31, r_X9_lookers_34, r_X9_lookers_35, r_X9_lookers_38, r_X9_lookers_39, r_X9_lookers_40, r_X9_lookers_43, r_X9_lookers_45, r_X9_lookers_48, r_X9_lookers_49, r_X9_lookers_52, r_X9_lookers_55, r_X9_lookers_56, r_X9_lookers_59, r_X9_lookers_60, r_X9_lookers_62, r_X9_lookers_64, r_X9_lookers_67, r_X9_lookers_68, r_X9_lookers_69, r_X9_lookers_72, r_X9_lookers_74, r_X9_lookers_75, r_X9_lookers_77, r_X9_lookers_80, r_X9_lookers_81, r_X9_lookers_84, r_X9_lookers_86, r_X9_lookers_89, r_X9_lookers_90, r_X9_lookers_91, r_X9_lookers_94, ↓reduceIte, Option.isSome_some, Option.getD_some, rL_v, rL_n, cH_s, List.cons_append, List.nil_append, cat_i, cat_r, cat_n, ofN, g9_0 hm, g9_1 hm, g9_2 hm, g9_3 hm, g9_4 hm, g9_5 hm, g9_6 hm, g9_7 hm, g9_8 hm, g9_9 hm, g9_10 hm, g9_11 hm, g9_12 hm, g9_13 hm, g9_14 hm, g9_15 hm, g9_16 hm, g9_17 hm, g9_18 hm, g9_19 hm, g9_20 hm, g9_21 hm, g9_22 hm, g9_23 hm, g9_24 hm, g9_25 hm, g9_26 hm, g9_27 hm, g9_28 hm, g9_29 hm, g9_30 hm, g9_31 hm, g9_32 hm, g9_33 hm, g9_34 hm, g9_35 hm, g9_36 hm, g9_37 hm, g9_38 hm, g9_39 hm, ro9 hm, shl1 (show S 12 1 ≤ 7 by omega), q1, a, fI_eq (show 0 < 2147483648 by decide), f0, gI_nI (hA 89 _ rfl) (by decide) (show 15 < 19 by decide), c_apartBy hI hr (show S 0 15 < 2147483648 by omega) (show i < 2147483648 by omega), nI_lt' (show d < 2147483648 by omega) (show sp S (S 0 15) i < 2147483648 by omega), show ¬ d < sp S (S 0 15) i by omega, nI_add]
                exact I _
              · have e1 : lkN S d (i + 1) = 0 := by simp only [lkN]; rw [if_neg (fun e => c e.2)]; exact a
                rw [e1] at I
                simp only [r_X9_lookers_29, r_X9_lookers_30, r_X9_lookers_31, r_X9_lookers_34, r_X9_lookers_35, r_X9_lookers_38, r_X9_lookers_39, r_X9_lookers_40, r_X9_lookers_43, r_X9_lookers_45, r_X9_lookers_48, r_X9_lookers_49, r_X9_lookers_52, r_X9_lookers_55, r_X9_lookers_56, r_X9_lookers_59, r_X9_lookers_60, r_X9_lookers_62, r_X9_lookers_64, r_X9_lookers_67, r_X9_lookers_68, r_X9_lookers_69, r_X9_lookers_72, r_X9_lookers_74, r_X9_lookers_75, r_X9_lookers_77, r_X9_lookers_80, r_X9_lookers_81, r_X9_lookers_84, r_X9_lookers_86, r_X9_lookers_89, r_X9_lookers_90, r_X9_lookers_91, r_X9_lookers_94, ↓reduceIte, Option.isSome_some, Option.getD_some, rL_v, rL_n, cH_s, List.cons_append, List.nil_append, cat_i, cat_r, cat_n, ofN, g9_0 hm, g9_1 hm, g9_2 hm, g9_3 hm, g9_4 hm, g9_5 hm, g9_6 hm, g9_7 hm, g9_8 hm, g9_9 hm, g9_10 hm, g9_11 hm, g9_12 hm, g9_13 hm, g9_14 hm, g9_15 hm, g9_16 hm, g9_17 hm, g9_18 hm, g9_19 hm, g9_20 hm, g9_21 hm, g9_22 hm, g9_23 hm, g9_24 hm, g9_25 hm, g9_26 hm, g9_27 hm, g9_28 hm, g9_29 hm, g9_30 hm, g9_31 hm, g9_32 hm, g9_33 hm, g9_34 hm, g9_35 hm, g9_36 hm, g9_37 hm, g9_38 hm, g9_39 hm, ro9 hm, shl1 (show S 12 1 ≤ 7 by omega), q1, a, fI_eq (show 0 < 2147483648 by decide), f0, gI_nI (hA 89 _ rfl) (by decide) (show 15 < 19 by decide), c_apartBy hI hr (show S 0 15 < 2147483648 by omega) (show i < 2147483648 by omega), nI_lt' (show d < 2147483648 by omega) (show sp S (S 0 15) i < 2147483648 by omega), show d < sp S (S 0 15) i by omega, nI_add]
                exact I _
            · have b2 := pc_lt (lkN S d i - 1) (by omega)
              have ef : fI (lkN S d i) = nI (lkN S d i - 1) := by
                rw [← fI_s (lkN S d i - 1), show lkN S d i - 1 + 1 = lkN S d i by omega]
              have hne : ¬ nI (lkN S d i - 1) = -1 := by rw [← fI_s, fI_eq (by omega)]; omega
              by_cases g : pc 7 i < pc 7 (lkN S d i - 1)
              · by_cases c : sp S (S 0 15) i ≤ d
                · have e1 : lkN S d (i + 1) = i + 1 := by simp only [lkN]; rw [if_pos ⟨Or.inr g, c⟩]
                  rw [e1, fI_s] at I
                  simp only [r_X9_lookers_29, r_X9_lookers_30, r_X9_lookers_31, r_X9_lookers_34, r_X9_lookers_35, r_X9_lookers_38, r_X9_lookers_39, r_X9_lookers_40, r_X9_lookers_43, r_X9_lookers_45, r_X9_lookers_48, r_X9_lookers_49, r_X9_lookers_52, r_X9_lookers_55, r_X9_lookers_56, r_X9_lookers_59, r_X9_lookers_60, r_X9_lookers_62, r_X9_lookers_64, r_X9_lookers_67, r_X9_lookers_68, r_X9_lookers_69, r_X9_lookers_72, r_X9_lookers_74, r_X9_lookers_75, r_X9_lookers_77, r_X9_lookers_80, r_X9_lookers_81, r_X9_lookers_84, r_X9_lookers_86, r_X9_lookers_89, r_X9_lookers_90, r_X9_lookers_91, r_X9_lookers_94, ↓reduceIte, Option.isSome_some, Option.getD_some, rL_v, rL_n, cH_s, List.cons_append, List.nil_append, cat_i, cat_r, cat_n, ofN, g9_0 hm, g9_1 hm, g9_2 hm, g9_3 hm, g9_4 hm, g9_5 hm, g9_6 hm, g9_7 hm, g9_8 hm, g9_9 hm, g9_10 hm, g9_11 hm, g9_12 hm, g9_13 hm, g9_14 hm, g9_15 hm, g9_16 hm, g9_17 hm, g9_18 hm, g9_19 hm, g9_20 hm, g9_21 hm, g9_22 hm, g9_23 hm, g9_24 hm, g9_25 hm, g9_26 hm, g9_27 hm, g9_28 hm, g9_29 hm, g9_30 hm, g9_31 hm, g9_32 hm, g9_33 hm, g9_34 hm, g9_35 hm, g9_36 hm, g9_37 hm, g9_38 hm, g9_39 hm, ro9 hm, shl1 (show S 12 1 ≤ 7 by omega), q1, ef, hne, c_bits (h := h) (show i < 128 by omega), c_bits (h := h) (show lkN S d i - 1 < 128 by omega), nI_le' (show pc 7 (lkN S d i - 1) < 2147483648 by omega) (show pc 7 i < 2147483648 by omega), show ¬ pc 7 (lkN S d i - 1) ≤ pc 7 i by omega, f0, gI_nI (hA 89 _ rfl) (by decide) (show 15 < 19 by decide), c_apartBy hI hr (show S 0 15 < 2147483648 by omega) (show i < 2147483648 by omega), nI_lt' (show d < 2147483648 by omega) (show sp S (S 0 15) i < 2147483648 by omega), show ¬ d < sp S (S 0 15) i by omega, nI_add]
                  exact I _
                · have e1 : lkN S d (i + 1) = lkN S d i := by simp only [lkN]; rw [if_neg (fun e => c e.2)]
                  rw [e1, ef] at I
                  simp only [r_X9_lookers_29, r_X9_lookers_30, r_X9_lookers_31, r_X9_lookers_34, r_X9_lookers_35, r_X9_lookers_38, r_X9_lookers_39, r_X9_lookers_40, r_X9_lookers_43, r_X9_lookers_45, r_X9_lookers_48, r_X9_lookers_49, r_X9_lookers_52, r_X9_lookers_55, r_X9_lookers_56, r_X9_lookers_59, r_X9_lookers_60, r_X9_lookers_62, r_X9_lookers_64, r_X9_lookers_67, r_X9_lookers_68, r_X9_lookers_69, r_X9_lookers_72, r_X9_lookers_74, r_X9_lookers_75, r_X9_lookers_77, r_X9_lookers_80, r_X9_lookers_81, r_X9_lookers_84, r_X9_lookers_86, r_X9_lookers_89, r_X9_lookers_90, r_X9_lookers_91, r_X9_lookers_94, ↓reduceIte, Option.isSome_some, Option.getD_some, rL_v, rL_n, cH_s, List.cons_append, List.nil_append, cat_i, cat_r, cat_n, ofN, g9_0 hm, g9_1 hm, g9_2 hm, g9_3 hm, g9_4 hm, g9_5 hm, g9_6 hm, g9_7 hm, g9_8 hm, g9_9 hm, g9_10 hm, g9_11 hm, g9_12 hm, g9_13 hm, g9_14 hm, g9_15 hm, g9_16 hm, g9_17 hm, g9_18 hm, g9_19 hm, g9_20 hm, g9_21 hm, g9_22 hm, g9_23 hm, g9_24 hm, g9_25 hm, g9_26 hm, g9_27 hm, g9_28 hm, g9_29 hm, g9_30 hm, g9_31 hm, g9_32 hm, g9_33 hm, g9_34 hm, g9_35 hm, g9_36 hm, g9_37 hm, g9_38 hm, g9_39 hm, ro9 hm, shl1 (show S 12 1 ≤ 7 by omega), q1, ef, hne, c_bits (h := h) (show i < 128 by omega), c_bits (h := h) (show lkN S d i - 1 < 128 by omega), nI_le' (show pc 7 (lkN S d i - 1) < 2147483648 by omega) (show pc 7 i < 2147483648 by omega), show ¬ pc 7 (lkN S d i - 1) ≤ pc 7 i by omega, f0, gI_nI (hA 89 _ rfl) (by decide) (show 15 < 19 by decide), c_apartBy hI hr (show S 0 15 < 2147483648 by omega) (show i < 2147483648 by omega), nI_lt' (show d < 2147483648 by omega) (show sp S (S 0 15) i < 2147483648 by omega), show d < sp S (S 0 15) i by omega, nI_add]
                  exact I _
              · have e1 : lkN S d (i + 1) = lkN S d i := by simp only [lkN]; rw [if_neg (fun e => by omega)]
                rw [e1, ef] at I
                simp only [r_X9_lookers_29, r_X9_lookers_30, r_X9_lookers_31, r_X9_lookers_34, r_X9_lookers_35, r_X9_lookers_38, r_X9_lookers_39, r_X9_lookers_40, r_X9_lookers_43, r_X9_lookers_45, r_X9_lookers_48, r_X9_lookers_49, r_X9_lookers_52, r_X9_lookers_55, r_X9_lookers_56, r_X9_lookers_59, r_X9_lookers_60, r_X9_lookers_62, r_X9_lookers_64, r_X9_lookers_67, r_X9_lookers_68, r_X9_lookers_69, r_X9_lookers_72, r_X9_lookers_74, r_X9_lookers_75, r_X9_lookers_77, r_X9_lookers_80, r_X9_lookers_81, r_X9_lookers_84, r_X9_lookers_86, r_X9_lookers_89, r_X9_lookers_90, r_X9_lookers_91, r_X9_lookers_94, ↓reduceIte, Option.isSome_some, Option.getD_some, rL_v, rL_n, cH_s, List.cons_append, List.nil_append, cat_i, cat_r, cat_n, ofN, g9_0 hm, g9_1 hm, g9_2 hm, g9_3 hm, g9_4 hm, g9_5 hm, g9_6 hm, g9_7 hm, g9_8 hm, g9_9 hm, g9_10 hm, g9_11 hm, g9_12 hm, g9_13 hm, g9_14 hm, g9_15 hm, g9_16 hm, g9_17 hm, g9_18 hm, g9_19 hm, g9_20 hm, g9_21 hm, g9_22 hm, g9_23 hm, g9_24 hm, g9_25 hm, g9_26 hm, g9_27 hm, g9_28 hm, g9_29 hm, g9_30 hm, g9_31 hm, g9_32 hm, g9_33 hm, g9_34 hm, g9_35 hm, g9_36 hm, g9_37 hm, g9_38 hm, g9_39 hm, ro9 hm, shl1 (show S 12 1 ≤ 7 by omega), q1, ef, hne, c_bits (h := h) (show i < 128 by omega), c_bits (h := h) (show lkN S d i - 1 < 128 by omega), nI_le' (show pc 7 (lkN S d i - 1) < 2147483648 by omega) (show pc 7 i < 2147483648 by omega), show pc 7 (lkN S d i - 1) ≤ pc 7 i by omega, nI_add]
                exact I _
        show Run M_X9_lookers 0 [.ref 88, .int (nI d), .int (nI q), .null, .null, .null] [] h = _
        simp only [r_X9_lookers_0, r_X9_lookers_1, r_X9_lookers_2, r_X9_lookers_4, r_X9_lookers_7, r_X9_lookers_10, r_X9_lookers_11, r_X9_lookers_12, r_X9_lookers_13, r_X9_lookers_16, r_X9_lookers_19, r_X9_lookers_21, r_X9_lookers_22, r_X9_lookers_23, r_X9_lookers_24, r_X9_lookers_25, ↓reduceIte, Option.isSome_some, Option.getD_some, rL_v, rL_n, cH_s, List.cons_append, List.nil_append, cat_i, cat_r, cat_n, ofN, c_in, ite_bI, hx, hy, and_self]
        exact L (2 ^ S 12 1) 0 _ (by omega)
    · refine OpV.read (r := .int (-1000000002)) hI (fun h hr => ?_) (fun h hr => ?_)
      · show Run M_X8_lookers 0 [.ref 1, .int x, .int y, .null, .null, .null, .null, .null] [] h = _
        simp only [r_X8_lookers_0, r_X8_lookers_1, r_X8_lookers_2, r_X8_lookers_4, r_X8_lookers_7, r_X8_lookers_10, r_X8_lookers_11, r_X8_lookers_12, r_X8_lookers_13, r_X8_lookers_16, r_X8_lookers_19, r_X8_lookers_21, ↓reduceIte, Option.isSome_some, Option.getD_some, rL_v, rL_n, cH_s, List.cons_append, List.nil_append, cat_i, cat_r, cat_n, ofN, c_within, ite_bI, hx, hy, and_self]
      · show Run M_X9_lookers 0 [.ref 88, .int x, .int y, .null, .null, .null] [] h = _
        simp only [r_X9_lookers_0, r_X9_lookers_1, r_X9_lookers_2, r_X9_lookers_4, r_X9_lookers_7, r_X9_lookers_10, r_X9_lookers_11, r_X9_lookers_12, r_X9_lookers_13, r_X9_lookers_16, r_X9_lookers_19, r_X9_lookers_21, ↓reduceIte, Option.isSome_some, Option.getD_some, rL_v, rL_n, cH_s, List.cons_append, List.nil_append, cat_i, cat_r, cat_n, ofN, c_in, ite_bI, hx, hy, and_self]
  · refine OpV.read (r := .int (-1000000002)) hI (fun h hr => ?_) (fun h hr => ?_)
    · show Run M_X8_lookers 0 [.ref 1, .int x, .int y, .null, .null, .null, .null, .null] [] h = _
      simp only [r_X8_lookers_0, r_X8_lookers_1, r_X8_lookers_2, r_X8_lookers_4, r_X8_lookers_7, r_X8_lookers_10, r_X8_lookers_11, r_X8_lookers_12, r_X8_lookers_13, r_X8_lookers_16, r_X8_lookers_19, r_X8_lookers_21, ↓reduceIte, Option.isSome_some, Option.getD_some, rL_v, rL_n, cH_s, List.cons_append, List.nil_append, cat_i, cat_r, cat_n, ofN, c_within, ite_bI, hx]
    · show Run M_X9_lookers 0 [.ref 88, .int x, .int y, .null, .null, .null] [] h = _
      simp only [r_X9_lookers_0, r_X9_lookers_1, r_X9_lookers_2, r_X9_lookers_4, r_X9_lookers_7, r_X9_lookers_10, r_X9_lookers_11, r_X9_lookers_12, r_X9_lookers_13, r_X9_lookers_16, r_X9_lookers_19, r_X9_lookers_21, ↓reduceIte, Option.isSome_some, Option.getD_some, rL_v, rL_n, cH_s, List.cons_append, List.nil_append, cat_i, cat_r, cat_n, ofN, c_in, ite_bI, hx]
