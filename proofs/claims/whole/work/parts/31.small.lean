/-! ===== small methods: CadenzaEnds, Part, Math, Arrays ===== -/
theorem i_lt {a b : Int32} : (a < b) = ¬ (b ≤ a) := by simp [Int32.lt_iff_toInt_lt, Int32.le_iff_toInt_le]
theorem c_within {h : AH} {v a b : Int32} : Call M_X8_within h [.int v, .int a, .int b] = some (h, some (.int (bI (a ≤ v ∧ v ≤ b)))) := by
  show Run M_X8_within 0 [.int v, .int a, .int b] [] h = _
  simp only [r_X8_within_0, r_X8_within_1, r_X8_within_2, r_X8_within_5, r_X8_within_6, r_X8_within_7, r_X8_within_10, r_X8_within_11, r_X8_within_14, r_X8_within_15_0, r_X8_within_15_1, r_X8_within_15_c, ↓reduceIte, Option.isSome_some, Option.getD_some, rL_v, rL_n, cH_s, List.cons_append, List.nil_append, cat_i, cat_r, cat_n, ofN, i_lt]
  unfold bI
  by_cases h1 : a ≤ v <;> by_cases h2 : v ≤ b <;> simp [h1, h2]
theorem c_isTenth {h : AH} {t : Int32} : Call M_X8_isTenth h [.int t] = some (h, some (.int (bI (nI 0 ≤ t ∧ t ≤ nI 420)))) := by
  show Run M_X8_isTenth 0 [.int t] [] h = _
  simp only [r_X8_isTenth_0, r_X8_isTenth_1, r_X8_isTenth_2, r_X8_isTenth_5, r_X8_isTenth_8_0, r_X8_isTenth_8_1, r_X8_isTenth_8_c, ↓reduceIte, Option.isSome_some, Option.getD_some, rL_v, rL_n, cH_s, List.cons_append, List.nil_append, cat_i, cat_r, cat_n, ofN, c_within]
theorem c_isSide {h : AH} {t : Int32} : Call M_X8_isSide h [.int t] = some (h, some (.int (bI (t = nI 0 ∨ t = nI 1)))) := by
  show Run M_X8_isSide 0 [.int t] [] h = _
  simp only [r_X8_isSide_0, r_X8_isSide_1, r_X8_isSide_4, r_X8_isSide_5, r_X8_isSide_6, r_X8_isSide_9, r_X8_isSide_10, r_X8_isSide_13, r_X8_isSide_14_0, r_X8_isSide_14_1, r_X8_isSide_14_c, ↓reduceIte, Option.isSome_some, Option.getD_some, rL_v, rL_n, cH_s, List.cons_append, List.nil_append, cat_i, cat_r, cat_n, ofN]
  unfold bI
  by_cases h1 : t = nI 0 <;> by_cases h2 : t = nI 1 <;> simp [h1, h2]
theorem c_max {h : AH} {a b : Nat} (ha : a < 2147483648) (hb : b < 2147483648) : Call M_J9_max_7cf53 h [.int (nI a), .int (nI b)] = some (h, some (.int (nI (max a b)))) := by
  show Run M_J9_max_7cf53 0 [.int (nI a), .int (nI b)] [] h = _
  simp only [r_J9_max_7cf53_0, r_J9_max_7cf53_1, r_J9_max_7cf53_2, r_J9_max_7cf53_5, r_J9_max_7cf53_6, r_J9_max_7cf53_9, r_J9_max_7cf53_10, ↓reduceIte, Option.isSome_some, Option.getD_some, rL_v, rL_n, cH_s, List.cons_append, List.nil_append, cat_i, cat_r, cat_n, ofN, nI_lt' ha hb]
  split <;> simp <;> congr 1 <;> omega
theorem c_min {h : AH} {a b : Nat} (ha : a < 2147483648) (hb : b < 2147483648) : Call M_J9_min_7cf53 h [.int (nI a), .int (nI b)] = some (h, some (.int (nI (min a b)))) := by
  show Run M_J9_min_7cf53 0 [.int (nI a), .int (nI b)] [] h = _
  simp only [r_J9_min_7cf53_0, r_J9_min_7cf53_1, r_J9_min_7cf53_2, r_J9_min_7cf53_5, r_J9_min_7cf53_6, r_J9_min_7cf53_9, r_J9_min_7cf53_10, ↓reduceIte, Option.isSome_some, Option.getD_some, rL_v, rL_n, cH_s, List.cons_append, List.nil_append, cat_i, cat_r, cat_n, ofN, nI_lt' hb ha]
  split <;> simp <;> congr 1 <;> omega
theorem c_playedOf8 {h : AH} {a la : Nat} {so ky ct : Int32} {lo : Nat} (ha : h.2.2 a = some (oPa so (nI lo) ky ct la)) (hl : lo ≤ 8) : Call M_X6_playedOf8 h [.ref a] = some (h, some (.int (nI (8 - lo)))) := by
  show Run M_X6_playedOf8 0 [.ref a] [] h = _
  simp only [r_X6_playedOf8_0, r_X6_playedOf8_2, r_X6_playedOf8_3, r_X6_playedOf8_6, r_X6_playedOf8_7, ↓reduceIte, Option.isSome_some, Option.getD_some, rL_v, rL_n, cH_s, List.cons_append, List.nil_append, cat_i, cat_r, cat_n, ofN, g6_0 ha, g6_1 ha, g6_2 ha, g6_3 ha, g6_4 ha, ro6 ha, nI_s hl]
theorem c_choices {h : AH} {a la : Nat} {so lo ky : Int32} {ct : Nat} (ha : h.2.2 a = some (oPa so lo ky (nI ct) la)) : Call M_X6_choices h [.ref a] = some (h, some (.int (nI (8 * ct)))) := by
  show Run M_X6_choices 0 [.ref a] [] h = _
  simp only [r_X6_choices_0, r_X6_choices_2, r_X6_choices_3, r_X6_choices_6, r_X6_choices_7, ↓reduceIte, Option.isSome_some, Option.getD_some, rL_v, rL_n, cH_s, List.cons_append, List.nil_append, cat_i, cat_r, cat_n, ofN, g6_0 ha, g6_1 ha, g6_2 ha, g6_3 ha, g6_4 ha, ro6 ha, nI_m]
/-- the greatest of the first c -/
def mxL (f : Nat → Nat) : Nat → Nat
  | 0 => 0
  | c + 1 => max (mxL f c) (f c)
theorem mxL_lt {f : Nat → Nat} {B : Nat} (hB : 0 < B) : ∀ c, (∀ i, i < c → f i < B) → mxL f c < B
  | 0, _ => hB
  | c + 1, h => by
    have h1 := mxL_lt hB c (fun i hi => h i (by omega))
    have h2 := h c (by omega)
    simp only [mxL]; omega
theorem c_longest {h : AH} {a la : Nat} {so lo ky : Int32} {ct : Nat} {g : Nat → Int32} {f : Nat → Nat} (ha : h.2.2 a = some (oPa so lo ky (nI ct) la)) (hl : h.2.2 la = some (iA 4 g)) (hg : ∀ i, i < ct → g i = nI (f i)) (hc : ct ≤ 4) (hf : ∀ i, i < ct → f i < 2147483648) :
    Call M_X6_longest h [.ref a] = some (h, some (.int (nI (mxL f ct)))) := by
  show Run M_X6_longest 0 [.ref a, .null, .null] [] h = _
  have L : ∀ k i, i + k = ct → Run M_X6_longest 4 [.ref a, .int (nI (mxL f i)), .int (nI i)] [] h = some (h, some (.int (nI (mxL f ct)))) := by
    intro k
    induction k with
    | zero =>
      intro i hi
      have e : i = ct := by omega
      subst e
      simp only [r_X6_longest_0, r_X6_longest_1, r_X6_longest_2, r_X6_longest_3, r_X6_longest_4, r_X6_longest_5, r_X6_longest_6, r_X6_longest_9, r_X6_longest_12, r_X6_longest_13, r_X6_longest_14, r_X6_longest_17, r_X6_longest_18, r_X6_longest_19, r_X6_longest_22, r_X6_longest_23, r_X6_longest_26, r_X6_longest_29, r_X6_longest_30, ↓reduceIte, Option.isSome_some, Option.getD_some, rL_v, rL_n, cH_s, List.cons_append, List.nil_append, cat_i, cat_r, cat_n, ofN, g6_0 ha, g6_1 ha, g6_2 ha, g6_3 ha, g6_4 ha, ro6 ha, Int32.le_refl]
    | succ k ih =>
      intro i hi
      have h1 : i < ct := by omega
      have h2 := mxL_lt (f := f) (B := 2147483648) (by decide) i (fun j hj => hf j (by omega))
      have e : ¬ nI ct ≤ nI i := by rw [nI_le' (by omega) (by omega)]; omega
      have h3 := hf i h1
      rw [r_X6_longest_4]
      simp only [r_X6_longest_0, r_X6_longest_1, r_X6_longest_2, r_X6_longest_3, r_X6_longest_5, r_X6_longest_6, r_X6_longest_9, r_X6_longest_12, r_X6_longest_13, r_X6_longest_14, r_X6_longest_17, r_X6_longest_18, r_X6_longest_19, r_X6_longest_22, r_X6_longest_23, r_X6_longest_26, r_X6_longest_29, r_X6_longest_30, ↓reduceIte, Option.isSome_some, Option.getD_some, rL_v, rL_n, cH_s, List.cons_append, List.nil_append, cat_i, cat_r, cat_n, ofN, g6_0 ha, g6_1 ha, g6_2 ha, g6_3 ha, g6_4 ha, ro6 ha, e, gI_nI hl (by decide) (show i < 4 by omega), hg i h1, c_max h2 h3, nI_add]
      exact ih (i + 1) (by omega)
  simp only [r_X6_longest_0, r_X6_longest_1, r_X6_longest_2, r_X6_longest_3, ↓reduceIte, Option.isSome_some, Option.getD_some, rL_v, rL_n, cH_s, List.cons_append, List.nil_append, cat_i, cat_r, cat_n, ofN]
  exact L ct 0 (by omega)
/-- a sum of the first n -/
def sm (g : Nat → Nat) : Nat → Nat
  | 0 => 0
  | n + 1 => sm g n + g n
theorem sm_shift (g : Nat → Nat) : ∀ n, sm g (n + 1) = g 0 + sm (fun j => g (j + 1)) n
  | 0 => by simp [sm]
  | n + 1 => by
    have := sm_shift g n
    simp only [sm] at this ⊢
    omega
theorem sm_congr {f g : Nat → Nat} : ∀ n, (∀ i, i < n → f i = g i) → sm f n = sm g n
  | 0, _ => rfl
  | n + 1, h => by simp only [sm]; rw [sm_congr n (fun i hi => h i (by omega)), h n (by omega)]
theorem c_fillJ {h : AH} {a n : Nat} {f : Nat → Int64} {v : Int64} (ha : h.2.2 a = some (jA n f)) (hn : n < 2147483648) (h0 : a ≠ 0) : Call M_J7_fill_d0a16 h [.ref a, .long v] = some (hup h a (jA n (fun t => if t < n then v else f t)), none) := by
  show Run M_J7_fill_d0a16 0 [.ref a, .long v, .null, .null, .null] [] h = _
  have L : ∀ k i (H : AH) (g : Nat → Int64), i + k = n → H.2.2 a = some (jA n g) → Run M_J7_fill_d0a16 6 [.ref a, .long v, .null, .int (nI i), .int (nI n)] [] H = some (hup H a (jA n (fun t => if i ≤ t ∧ t < n then v else g t)), none) := by
    intro k
    induction k with
    | zero =>
      intro i H g hi hH
      have e : i = n := by omega
      subst e
      simp only [r_J7_fill_d0a16_0, r_J7_fill_d0a16_1, r_J7_fill_d0a16_2, r_J7_fill_d0a16_3, r_J7_fill_d0a16_4, r_J7_fill_d0a16_6, r_J7_fill_d0a16_7, r_J7_fill_d0a16_9, r_J7_fill_d0a16_12, r_J7_fill_d0a16_13, r_J7_fill_d0a16_14, r_J7_fill_d0a16_15, r_J7_fill_d0a16_16, r_J7_fill_d0a16_19, r_J7_fill_d0a16_22, ↓reduceIte, Option.isSome_some, Option.getD_some, rL_v, rL_n, cH_s, List.cons_append, List.nil_append, cat_i, cat_r, cat_n, ofN, Int32.le_refl]
      rw [hup_same]
      rw [hH]
      congr 4
      funext t
      rw [if_neg (by omega)]
    | succ k ih =>
      intro i H g hi hH
      have e : ¬ nI n ≤ nI i := by rw [nI_le' (by omega) (by omega)]; omega
      rw [r_J7_fill_d0a16_6]
      simp only [r_J7_fill_d0a16_0, r_J7_fill_d0a16_1, r_J7_fill_d0a16_2, r_J7_fill_d0a16_3, r_J7_fill_d0a16_4, r_J7_fill_d0a16_7, r_J7_fill_d0a16_9, r_J7_fill_d0a16_12, r_J7_fill_d0a16_13, r_J7_fill_d0a16_14, r_J7_fill_d0a16_15, r_J7_fill_d0a16_16, r_J7_fill_d0a16_19, r_J7_fill_d0a16_22, ↓reduceIte, Option.isSome_some, Option.getD_some, rL_v, rL_n, cH_s, List.cons_append, List.nil_append, cat_i, cat_r, cat_n, ofN, e, pJ_nI hH hn h0 (show i < n by omega), nI_add]
      rw [ih (i + 1) _ (vp_updL g i v) (by omega) hup_get, hup_hup]
      congr 4
      funext t
      by_cases ht : t = i
      · subst ht
        rw [if_neg (by omega), if_pos (by omega)]; simp [vp_updL]
      · by_cases h2 : i + 1 ≤ t ∧ t < n
        · rw [if_pos h2, if_pos (by omega)]
        · rw [if_neg h2, if_neg (by omega)]; simp [vp_updL, ht]
  simp only [r_J7_fill_d0a16_0, r_J7_fill_d0a16_1, r_J7_fill_d0a16_2, r_J7_fill_d0a16_3, r_J7_fill_d0a16_4, ↓reduceIte, Option.isSome_some, Option.getD_some, rL_v, rL_n, cH_s, List.cons_append, List.nil_append, cat_i, cat_r, cat_n, ofN, gN_of ha]
  rw [L n 0 h f (by omega) ha]
  simp
theorem c_fillI {h : AH} {a n : Nat} {f : Nat → Int32} {v : Int32} (ha : h.2.2 a = some (iA n f)) (hn : n < 2147483648) (h0 : a ≠ 0) : Call M_J7_fill_53178 h [.ref a, .int v] = some (hup h a (iA n (fun t => if t < n then v else f t)), none) := by
  show Run M_J7_fill_53178 0 [.ref a, .int v, .null, .null] [] h = _
  have L : ∀ k i (H : AH) (g : Nat → Int32), i + k = n → H.2.2 a = some (iA n g) → Run M_J7_fill_53178 5 [.ref a, .int v, .int (nI i), .int (nI n)] [] H = some (hup H a (iA n (fun t => if i ≤ t ∧ t < n then v else g t)), none) := by
    intro k
    induction k with
    | zero =>
      intro i H g hi hH
      have e : i = n := by omega
      subst e
      simp only [r_J7_fill_53178_0, r_J7_fill_53178_1, r_J7_fill_53178_2, r_J7_fill_53178_3, r_J7_fill_53178_4, r_J7_fill_53178_5, r_J7_fill_53178_6, r_J7_fill_53178_7, r_J7_fill_53178_10, r_J7_fill_53178_11, r_J7_fill_53178_12, r_J7_fill_53178_13, r_J7_fill_53178_14, r_J7_fill_53178_17, r_J7_fill_53178_20, ↓reduceIte, Option.isSome_some, Option.getD_some, rL_v, rL_n, cH_s, List.cons_append, List.nil_append, cat_i, cat_r, cat_n, ofN, Int32.le_refl]
      rw [hup_same]
      rw [hH]
      congr 4
      funext t
      rw [if_neg (by omega)]
    | succ k ih =>
      intro i H g hi hH
      have e : ¬ nI n ≤ nI i := by rw [nI_le' (by omega) (by omega)]; omega
      rw [r_J7_fill_53178_5]
      simp only [r_J7_fill_53178_0, r_J7_fill_53178_1, r_J7_fill_53178_2, r_J7_fill_53178_3, r_J7_fill_53178_4, r_J7_fill_53178_6, r_J7_fill_53178_7, r_J7_fill_53178_10, r_J7_fill_53178_11, r_J7_fill_53178_12, r_J7_fill_53178_13, r_J7_fill_53178_14, r_J7_fill_53178_17, r_J7_fill_53178_20, ↓reduceIte, Option.isSome_some, Option.getD_some, rL_v, rL_n, cH_s, List.cons_append, List.nil_append, cat_i, cat_r, cat_n, ofN, e, pI_nI hH hn h0 (show i < n by omega), nI_add]
      rw [ih (i + 1) _ (upd g i v) (by omega) hup_get, hup_hup]
      congr 4
      funext t
      by_cases ht : t = i
      · subst ht
        rw [if_neg (by omega), if_pos (by omega)]; simp [upd]
      · by_cases h2 : i + 1 ≤ t ∧ t < n
        · rw [if_pos h2, if_pos (by omega)]
        · rw [if_neg h2, if_neg (by omega)]; simp [upd, ht]
  simp only [r_J7_fill_53178_0, r_J7_fill_53178_1, r_J7_fill_53178_2, r_J7_fill_53178_3, r_J7_fill_53178_4, ↓reduceIte, Option.isSome_some, Option.getD_some, rL_v, rL_n, cH_s, List.cons_append, List.nil_append, cat_i, cat_r, cat_n, ofN, gN_of ha]
  rw [L n 0 h f (by omega) ha]
  simp
