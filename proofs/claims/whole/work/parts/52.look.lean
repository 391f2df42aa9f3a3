/-! ===== lookers ===== -/
def us (x : Int32) (k : Nat) : Int32 := (x.toUInt32 >>> ((nI k).toUInt32 &&& Int32.toUInt32 31)).toInt32
def bc5 (d : Int32) : Int32 := (d + us d 16) &&& nI 63
def bc4 (c : Int32) : Int32 := bc5 (c + us c 8)
def bc3 (b : Int32) : Int32 := bc4 ((b + us b 4) &&& nI 252645135)
def bc2 (a : Int32) : Int32 := bc3 ((a &&& nI 858993459) + (us a 2 &&& nI 858993459))
def bc (x : Int32) : Int32 := bc2 (x - (us x 1 &&& nI 1431655765))
theorem c_bitCount {h : AH} {x : Int32} : Call M_J6_bitCount_0f7a4 h [.int x] = some (h, some (.int (bc x))) := by
  show Run M_J6_bitCount_0f7a4 0 [.int x] [] h = _
  simp only [r_J6_bitCount_0f7a4_0, r_J6_bitCount_0f7a4_1, r_J6_bitCount_0f7a4_2, r_J6_bitCount_0f7a4_3, r_J6_bitCount_0f7a4_4, r_J6_bitCount_0f7a4_7, r_J6_bitCount_0f7a4_8, r_J6_bitCount_0f7a4_9, r_J6_bitCount_0f7a4_10, r_J6_bitCount_0f7a4_11, r_J6_bitCount_0f7a4_14, r_J6_bitCount_0f7a4_15, r_J6_bitCount_0f7a4_16, r_J6_bitCount_0f7a4_17, r_J6_bitCount_0f7a4_18, r_J6_bitCount_0f7a4_21, r_J6_bitCount_0f7a4_22, r_J6_bitCount_0f7a4_23, r_J6_bitCount_0f7a4_24, r_J6_bitCount_0f7a4_25, r_J6_bitCount_0f7a4_26, r_J6_bitCount_0f7a4_27, r_J6_bitCount_0f7a4_28, r_J6_bitCount_0f7a4_29, r_J6_bitCount_0f7a4_32, r_J6_bitCount_0f7a4_33, r_J6_bitCount_0f7a4_34, r_J6_bitCount_0f7a4_35, r_J6_bitCount_0f7a4_36, r_J6_bitCount_0f7a4_38, r_J6_bitCount_0f7a4_39, r_J6_bitCount_0f7a4_40, r_J6_bitCount_0f7a4_41, r_J6_bitCount_0f7a4_42, r_J6_bitCount_0f7a4_43, r_J6_bitCount_0f7a4_45, r_J6_bitCount_0f7a4_46, r_J6_bitCount_0f7a4_47, r_J6_bitCount_0f7a4_48, r_J6_bitCount_0f7a4_49, r_J6_bitCount_0f7a4_51, r_J6_bitCount_0f7a4_52, ↓reduceIte, Option.isSome_some, Option.getD_some, rL_v, rL_n, cH_s, List.cons_append, List.nil_append, cat_i, cat_r, cat_n, ofN]
  rfl
/-- how many in a SET -/
def pc : Nat → Nat → Nat
  | 0, _ => 0
  | k + 1, v => v % 2 + pc k (v / 2)
theorem bc_pc : ∀ v, v < 128 → bc (nI v) = nI (pc 7 v) := by decide +kernel
theorem lw_and : ∀ v, v < 128 → 0 < v → nI v &&& (nI v - nI 1) = nI (v &&& (v - 1)) ∧ (v &&& (v - 1)) < v ∧ pc 7 (v &&& (v - 1)) + 1 = pc 7 v := by decide +kernel
theorem c_bits {h : AH} {v : Nat} (hv : v < 128) : Call M_X9_bits h [.int (nI v)] = some (h, some (.int (nI (pc 7 v)))) := by
  have L : ∀ n w c X, w < n → w < 128 → Run M_X9_bits 4 [X, .int (nI c), .int (nI w)] [] h = some (h, some (.int (nI (c + pc 7 w)))) ∨ X.category ≠ 1 := by
    intro n
    induction n with
    | zero => intro w c X hw; omega
    | succ n ih =>
      intro w c X hw hw2
      by_cases hX : X.category = 1
      · left
        by_cases a : w = 0
        · subst a
          have q : nI 0 ≤ nI 0 := by decide
          have e : pc 7 0 = 0 := by decide
          simp only [r_X9_bits_4, r_X9_bits_5, r_X9_bits_20, r_X9_bits_21, ↓reduceIte, Option.isSome_some, Option.getD_some, rL_v, rL_n, cH_s, List.cons_append, List.nil_append, cat_i, cat_r, cat_n, ofN, q, e, Nat.add_zero]
        · have q : ¬ nI w ≤ nI 0 := by rw [nI_le' (by omega) (by omega)]; omega
          obtain ⟨e1, e2, e3⟩ := lw_and w hw2 (by omega)
          have I := (ih (w &&& (w - 1)) (c + 1) X (by omega) (by omega)).resolve_right (fun e => e hX)
          rw [r_X9_bits_4]
          simp only [r_X9_bits_5, r_X9_bits_8, r_X9_bits_11, r_X9_bits_12, r_X9_bits_13, r_X9_bits_14, r_X9_bits_15, r_X9_bits_16, r_X9_bits_17, ↓reduceIte, Option.isSome_some, Option.getD_some, rL_v, rL_n, cH_s, List.cons_append, List.nil_append, cat_i, cat_r, cat_n, ofN, hX, q, e1, nI_add]
          rw [I]
          congr 4
          congr 1
          omega
      · right; exact hX
  show Run M_X9_bits 0 [.int (nI v), .null, .null] [] h = _
  simp only [r_X9_bits_0, r_X9_bits_1, r_X9_bits_2, r_X9_bits_3, ↓reduceIte, Option.isSome_some, Option.getD_some, rL_v, rL_n, cH_s, List.cons_append, List.nil_append, cat_i, cat_r, cat_n, ofN]
  have := (L (v + 1) v 0 (.int (nI v)) (by omega) hv).resolve_right (fun e => e rfl)
  rw [Nat.zero_add] at this
  exact this
