/-! ===== small methods: CadenzaEnds, Part ===== -/
theorem c_within {h : AH} {v a b : Int32} : Call M_X8_within h [.int v, .int a, .int b] = some (h, some (.int (bI (a ≤ v ∧ v ≤ b)))) := by
  show Run M_X8_within 0 [.int v, .int a, .int b] [] h = _
  simp only [r_X8_within_0, r_X8_within_1, r_X8_within_2, r_X8_within_5, r_X8_within_6, r_X8_within_7, r_X8_within_10, r_X8_within_11, r_X8_within_14, r_X8_within_15_0, r_X8_within_15_1, r_X8_within_15_c, ↓reduceIte, Option.isSome_some, Option.getD_some, rL_v, rL_n, cH_s, List.cons_append, List.nil_append, cat_i, cat_r, cat_n]
  unfold bI
  by_cases h1 : a ≤ v <;> by_cases h2 : v ≤ b <;> simp [h1, h2]
theorem c_isTenth {h : AH} {t : Int32} : Call M_X8_isTenth h [.int t] = some (h, some (.int (bI (nI 0 ≤ t ∧ t ≤ nI 420)))) := by
  show Run M_X8_isTenth 0 [.int t] [] h = _
  simp only [r_X8_isTenth_0, r_X8_isTenth_1, r_X8_isTenth_2, r_X8_isTenth_5, r_X8_isTenth_8_0, r_X8_isTenth_8_1, r_X8_isTenth_8_c, ↓reduceIte, Option.isSome_some, Option.getD_some, rL_v, rL_n, cH_s, List.cons_append, List.nil_append, cat_i, cat_r, cat_n, c_within]
theorem c_isSide {h : AH} {t : Int32} : Call M_X8_isSide h [.int t] = some (h, some (.int (bI (t = nI 0 ∨ t = nI 1)))) := by
  show Run M_X8_isSide 0 [.int t] [] h = _
  simp only [r_X8_isSide_0, r_X8_isSide_1, r_X8_isSide_4, r_X8_isSide_5, r_X8_isSide_6, r_X8_isSide_9, r_X8_isSide_10, r_X8_isSide_13, r_X8_isSide_14_0, r_X8_isSide_14_1, r_X8_isSide_14_c, ↓reduceIte, Option.isSome_some, Option.getD_some, rL_v, rL_n, cH_s, List.cons_append, List.nil_append, cat_i, cat_r, cat_n]
  unfold bI
  by_cases h1 : t = nI 0 <;> by_cases h2 : t = nI 1 <;> simp [h1, h2]
theorem c_playedOf8 {h : AH} {a la : Nat} {so lo ky ct : Int32} (ha : h.2.2 a = some (oPa so lo ky ct la)) : Call M_X6_playedOf8 h [.ref a] = some (h, some (.int (nI 8 - lo))) := by
  show Run M_X6_playedOf8 0 [.ref a] [] h = _
  simp only [r_X6_playedOf8_0, r_X6_playedOf8_2, r_X6_playedOf8_3, r_X6_playedOf8_6, r_X6_playedOf8_7, ↓reduceIte, Option.isSome_some, Option.getD_some, rL_v, rL_n, cH_s, List.cons_append, List.nil_append, cat_i, cat_r, cat_n, g6_0 ha, g6_1 ha, g6_2 ha, g6_3 ha, g6_4 ha, ro6 ha]
theorem c_choices {h : AH} {a la : Nat} {so lo ky ct : Int32} (ha : h.2.2 a = some (oPa so lo ky ct la)) : Call M_X6_choices h [.ref a] = some (h, some (.int (nI 8 * ct))) := by
  show Run M_X6_choices 0 [.ref a] [] h = _
  simp only [r_X6_choices_0, r_X6_choices_2, r_X6_choices_3, r_X6_choices_6, r_X6_choices_7, ↓reduceIte, Option.isSome_some, Option.getD_some, rL_v, rL_n, cH_s, List.cons_append, List.nil_append, cat_i, cat_r, cat_n, g6_0 ha, g6_1 ha, g6_2 ha, g6_3 ha, g6_4 ha, ro6 ha]
