/-! ===== keep, goBack: the calls ===== -/
theorem AgR.cg {h : AH} {a n : Nat} {g g' : Nat → Nat} (hn : n ≤ 5) (hg : ∀ k, k < 19 → g' k = g k) (r : AgR h a g n) : AgR h a g' n := by
  obtain ⟨h1, ⟨f1, b1, c1⟩, ⟨f2, b2, c2⟩⟩ := r
  refine ⟨?_, ⟨f1, b1, fun p hp => ?_⟩, ⟨f2, b2, fun p hp => ?_⟩⟩
  · rw [hg 0 (by decide), hg 1 (by decide), hg 2 (by decide), hg 3 (by decide), hg 4 (by decide), hg 15 (by decide), hg 16 (by decide), hg 17 (by decide), hg 18 (by decide)]; exact h1
  · rw [hg _ (by omega)]; exact c1 p hp
  · rw [hg _ (by omega)]; exact c2 p hp
theorem SOk.cg {n : Nat} {g g' : Nat → Nat} (hn : n ≤ 5) (hg : ∀ k, k < 19 → g' k = g k) (r : SOk g n) : SOk g' n := by
  obtain ⟨⟨a1, a2, a3, a4, a5⟩, hL, a6, a7, a8⟩ := r
  refine ⟨⟨?_, ?_, ?_, ?_, ?_⟩, fun p hp => ⟨?_, ?_⟩, ?_, ?_, ?_⟩
  · rw [hg 0 (by decide)]; exact a1
  · rw [hg 1 (by decide)]; exact a2
  · rw [hg 2 (by decide)]; exact a3
  · rw [hg 3 (by decide)]; exact a4
  · rw [hg 4 (by decide)]; exact a5
  · rw [hg _ (by omega)]; exact (hL p hp).1
  · rw [hg _ (by omega)]; exact (hL p hp).2
  · rw [hg 15 (by decide)]; exact a6
  · rw [hg 16 (by decide)]; exact a7
  · rw [hg 18 (by decide)]; exact a8
def kpf (S : SS) (i k j : Nat) : Nat := if 19 * i ≤ j ∧ j < 19 * i + k then S 0 (j - 19 * i) else S 1 j
def gbk (S : SS) (i k j : Nat) : Nat := if j < k then S 1 (19 * i + j) else S 0 j
theorem kpf_0 (S : SS) (i : Nat) : kpf S i 0 = S 1 := by
  funext j; unfold kpf; rw [if_neg (by omega)]
theorem kpf_s (S : SS) (i k : Nat) : va_up (kpf S i k) (19 * i + k) (S 0 k) = kpf S i (k + 1) := by
  funext j
  by_cases e : j = 19 * i + k
  · subst e
    rw [va_up_self]; unfold kpf; rw [if_pos (by omega)]; congr 1; omega
  · rw [va_up_ne _ _ e]; unfold kpf
    by_cases a : 19 * i ≤ j ∧ j < 19 * i + k
    · rw [if_pos a, if_pos (by omega)]
    · rw [if_neg a, if_neg (by omega)]
theorem kpf_own (S : SS) {i k : Nat} (hk : k < 19) : kpf S i 19 (19 * i + k) = S 0 k := by
  unfold kpf; rw [if_pos (by omega)]; congr 1; omega
theorem kpf_ne (S : SS) {i j k : Nat} (hij : j ≠ i) (hk : k < 19) : kpf S i 19 (19 * j + k) = S 1 (19 * j + k) := by
  unfold kpf; rw [if_neg]; omega
theorem gbk_0 (S : SS) (i : Nat) : gbk S i 0 = S 0 := by
  funext j; unfold gbk; rw [if_neg (by omega)]
theorem gbk_s (S : SS) (i k : Nat) : va_up (gbk S i k) k (S 1 (19 * i + k)) = gbk S i (k + 1) := by
  funext j
  by_cases e : j = k
  · subst e
    rw [va_up_self]; unfold gbk; rw [if_pos (by omega)]
  · rw [va_up_ne _ _ e]; unfold gbk
    by_cases a : j < k
    · rw [if_pos a, if_pos (by omega)]
    · rw [if_neg a, if_neg (by omega)]
theorem gbk_own (S : SS) {i k : Nat} (hk : k < 19) : gbk S i 19 k = S 1 (19 * i + k) := by
  unfold gbk; rw [if_pos hk]
theorem m_keep {h : AH} {S : SS} {i : Nat} (hr : RepM h S) (hi : i < 2) : Call M_X9_keep h [.ref 88, .int (nI i)] = some (hup (hup h 90 (iA 38 (fun j => nI (kpf S i 19 j)))) 91 (zA 2 (fun j => nI (va_up (S 2) i 1 j))), some (.int (nI 1))) := by
  obtain ⟨⟨a, b, c, d, e', f, g, i1, i2, i3, i4, hm⟩, hA, -⟩ := id hr
  have h89 := hA 89 _ rfl
  have h90 := hA 90 _ rfl
  have h91 := hA 91 _ rfl
  have L : ∀ n k, k + n = 19 → Run M_X9_keep 14 [.ref 88, .int (nI i), .int (nI k)] [] (hup h 90 (iA 38 (fun j => nI (kpf S i k j)))) = some (hup (hup h 90 (iA 38 (fun j => nI (kpf S i 19 j)))) 91 (zA 2 (fun j => nI (va_up (S 2) i 1 j))), some (.int (nI 1))) := by
    intro n
    induction n with
    | zero =>
      intro k hk
      have e : k = 19 := by omega
      subst e
      have hm' : (hup h 90 (iA 38 (fun j => nI (kpf S i 19 j)))).2.2 88 = _ := (hup_ne (by decide)).trans hm
      have h91' : (hup h 90 (iA 38 (fun j => nI (kpf S i 19 j)))).2.2 91 = _ := (hup_ne (by decide)).trans h91
      have e1 : nI 1 &&& 1 = nI 1 := by decide
      simp only [r_X9_keep_14, r_X9_keep_15, r_X9_keep_17, r_X9_keep_43, r_X9_keep_44, r_X9_keep_47, r_X9_keep_48, r_X9_keep_49, r_X9_keep_50, r_X9_keep_51, ↓reduceIte, Option.isSome_some, Option.getD_some, rL_v, rL_n, cH_s, List.cons_append, List.nil_append, cat_i, cat_r, cat_n, ofN, Int32.le_refl, g9_0 hm', g9_1 hm', g9_2 hm', g9_3 hm', g9_4 hm', g9_5 hm', g9_6 hm', g9_7 hm', g9_8 hm', g9_9 hm', g9_10 hm', g9_11 hm', g9_12 hm', g9_13 hm', g9_14 hm', g9_15 hm', g9_16 hm', g9_17 hm', g9_18 hm', g9_19 hm', g9_20 hm', g9_21 hm', g9_22 hm', g9_23 hm', g9_24 hm', g9_25 hm', g9_26 hm', g9_27 hm', g9_28 hm', g9_29 hm', g9_30 hm', g9_31 hm', g9_32 hm', g9_33 hm', g9_34 hm', g9_35 hm', g9_36 hm', g9_37 hm', g9_38 hm', g9_39 hm', ro9 hm', e1, pI_nI h91' (by decide) (by decide) hi, upd_nI]
    | succ n ih =>
      intro k hk
      have q0 : ¬ nI 19 ≤ nI k := by rw [nI_le' (by decide) (by omega)]; omega
      have I := ih (k + 1) (by omega)
      rw [← kpf_s] at I
      have hm' : (hup h 90 (iA 38 (fun j => nI (kpf S i k j)))).2.2 88 = _ := (hup_ne (by decide)).trans hm
      have h89' : (hup h 90 (iA 38 (fun j => nI (kpf S i k j)))).2.2 89 = _ := (hup_ne (by decide)).trans h89
      rw [r_X9_keep_14]
      simp only [r_X9_keep_15, r_X9_keep_17, r_X9_keep_20, r_X9_keep_21, r_X9_keep_24, r_X9_keep_26, r_X9_keep_27, r_X9_keep_28, r_X9_keep_29, r_X9_keep_30, r_X9_keep_31, r_X9_keep_34, r_X9_keep_35, r_X9_keep_36, r_X9_keep_37, r_X9_keep_40, ↓reduceIte, Option.isSome_some, Option.getD_some, rL_v, rL_n, cH_s, List.cons_append, List.nil_append, cat_i, cat_r, cat_n, ofN, q0, g9_0 hm', g9_1 hm', g9_2 hm', g9_3 hm', g9_4 hm', g9_5 hm', g9_6 hm', g9_7 hm', g9_8 hm', g9_9 hm', g9_10 hm', g9_11 hm', g9_12 hm', g9_13 hm', g9_14 hm', g9_15 hm', g9_16 hm', g9_17 hm', g9_18 hm', g9_19 hm', g9_20 hm', g9_21 hm', g9_22 hm', g9_23 hm', g9_24 hm', g9_25 hm', g9_26 hm', g9_27 hm', g9_28 hm', g9_29 hm', g9_30 hm', g9_31 hm', g9_32 hm', g9_33 hm', g9_34 hm', g9_35 hm', g9_36 hm', g9_37 hm', g9_38 hm', g9_39 hm', ro9 hm', gI_nI h89' (by decide) (show k < 19 by omega), nI_m, nI_add, pI_u (show 38 < 2147483648 by decide) (show 90 ≠ 0 by decide) (show 19 * i + k < 38 by omega), upd_nI]
      exact I
  have I := L 19 0 (by omega)
  rw [kpf_0, hup_same h90] at I
  have hx := rng_in (j := i) (B := 1) (by decide) (by omega)
  show Run M_X9_keep 0 [.ref 88, .int (nI i), .null] [] h = _
  simp only [r_X9_keep_0, r_X9_keep_1, r_X9_keep_2, r_X9_keep_3, r_X9_keep_6, r_X9_keep_9, r_X9_keep_11, r_X9_keep_12, r_X9_keep_13, ↓reduceIte, Option.isSome_some, Option.getD_some, rL_v, rL_n, cH_s, List.cons_append, List.nil_append, cat_i, cat_r, cat_n, ofN, c_in, ite_bI, hx, and_self]
  exact I
theorem m_goBack {h : AH} {S : SS} {i : Nat} (hr : RepM h S) (hi : i < 2) (hk1 : S 2 i = 1) : Call M_X9_goBack h [.ref 88, .int (nI i)] = some (hup h 89 (iA 19 (fun j => nI (gbk S i 19 j))), some (.int (nI 1))) := by
  obtain ⟨⟨a, b, c, d, e', f, g, i1, i2, i3, i4, hm⟩, hA, -⟩ := id hr
  have h89 := hA 89 _ rfl
  have h90 := hA 90 _ rfl
  have h91 := hA 91 _ rfl
  have L : ∀ n k, k + n = 19 → Run M_X9_goBack 27 [.ref 88, .int (nI i), .int (nI k)] [] (hup h 89 (iA 19 (fun j => nI (gbk S i k j)))) = some (hup h 89 (iA 19 (fun j => nI (gbk S i 19 j))), some (.int (nI 1))) := by
    intro n
    induction n with
    | zero =>
      intro k hk
      have e : k = 19 := by omega
      subst e
      simp only [r_X9_goBack_27, r_X9_goBack_28, r_X9_goBack_30, r_X9_goBack_56, r_X9_goBack_57, ↓reduceIte, Option.isSome_some, Option.getD_some, rL_v, rL_n, cH_s, List.cons_append, List.nil_append, cat_i, cat_r, cat_n, ofN, Int32.le_refl]
    | succ n ih =>
      intro k hk
      have q0 : ¬ nI 19 ≤ nI k := by rw [nI_le' (by decide) (by omega)]; omega
      have I := ih (k + 1) (by omega)
      rw [← gbk_s] at I
      have hm' : (hup h 89 (iA 19 (fun j => nI (gbk S i k j)))).2.2 88 = _ := (hup_ne (by decide)).trans hm
      have h90' : (hup h 89 (iA 19 (fun j => nI (gbk S i k j)))).2.2 90 = _ := (hup_ne (by decide)).trans h90
      rw [r_X9_goBack_27]
      simp only [r_X9_goBack_28, r_X9_goBack_30, r_X9_goBack_33, r_X9_goBack_34, r_X9_goBack_37, r_X9_goBack_38, r_X9_goBack_39, r_X9_goBack_42, r_X9_goBack_44, r_X9_goBack_45, r_X9_goBack_46, r_X9_goBack_47, r_X9_goBack_48, r_X9_goBack_49, r_X9_goBack_50, r_X9_goBack_53, ↓reduceIte, Option.isSome_some, Option.getD_some, rL_v, rL_n, cH_s, List.cons_append, List.nil_append, cat_i, cat_r, cat_n, ofN, q0, g9_0 hm', g9_1 hm', g9_2 hm', g9_3 hm', g9_4 hm', g9_5 hm', g9_6 hm', g9_7 hm', g9_8 hm', g9_9 hm', g9_10 hm', g9_11 hm', g9_12 hm', g9_13 hm', g9_14 hm', g9_15 hm', g9_16 hm', g9_17 hm', g9_18 hm', g9_19 hm', g9_20 hm', g9_21 hm', g9_22 hm', g9_23 hm', g9_24 hm', g9_25 hm', g9_26 hm', g9_27 hm', g9_28 hm', g9_29 hm', g9_30 hm', g9_31 hm', g9_32 hm', g9_33 hm', g9_34 hm', g9_35 hm', g9_36 hm', g9_37 hm', g9_38 hm', g9_39 hm', ro9 hm', nI_m, nI_add, gI_nI h90' (by decide) (show 19 * i + k < 38 by omega), pI_u (show 19 < 2147483648 by decide) (show 89 ≠ 0 by decide) (show k < 19 by omega), upd_nI]
      exact I
  have I := L 19 0 (by omega)
  rw [gbk_0, hup_same h89] at I
  have hx := rng_in (j := i) (B := 1) (by decide) (by omega)
  show Run M_X9_goBack 0 [.ref 88, .int (nI i), .null] [] h = _
  simp only [r_X9_goBack_0, r_X9_goBack_1, r_X9_goBack_2, r_X9_goBack_3, r_X9_goBack_6, r_X9_goBack_9, r_X9_goBack_11, r_X9_goBack_12, r_X9_goBack_13, r_X9_goBack_16, r_X9_goBack_18, r_X9_goBack_21, r_X9_goBack_24, r_X9_goBack_25, r_X9_goBack_26, r_X9_goBack_17 (show 91 ≠ 0 by decide), ↓reduceIte, Option.isSome_some, Option.getD_some, rL_v, rL_n, cH_s, List.cons_append, List.nil_append, cat_i, cat_r, cat_n, ofN, c_in, ite_bI, hx, and_self, g9_0 hm, g9_1 hm, g9_2 hm, g9_3 hm, g9_4 hm, g9_5 hm, g9_6 hm, g9_7 hm, g9_8 hm, g9_9 hm, g9_10 hm, g9_11 hm, g9_12 hm, g9_13 hm, g9_14 hm, g9_15 hm, g9_16 hm, g9_17 hm, g9_18 hm, g9_19 hm, g9_20 hm, g9_21 hm, g9_22 hm, g9_23 hm, g9_24 hm, g9_25 hm, g9_26 hm, g9_27 hm, g9_28 hm, g9_29 hm, g9_30 hm, g9_31 hm, g9_32 hm, g9_33 hm, g9_34 hm, g9_35 hm, g9_36 hm, g9_37 hm, g9_38 hm, g9_39 hm, ro9 hm, gI_nI h91 (by decide) hi, hk1, ne10]
  exact I
theorem op_keep {S : SS} (hI : Inv S) (x : Int32) : OpV M_X8_keep M_X9_keep [.int x] S := by
  obtain ⟨hH, hT, hG, hIm, hR⟩ := id hI
  have hn := hH.1
  have hp5 := hT.1
  by_cases hx : nI 0 ≤ x ∧ x ≤ nI 1
  · obtain ⟨i, hi, rfl⟩ := rng (by decide) hx
    have hi2 : i < 2 := by omega
    refine op_mk (r := .int (nI 1)) (S' := va_up (va_up S 1 (kpf S i 19)) 2 (va_up (S 2) i 1)) ⟨hH, hT, hG, fun j hj => ?_, hR⟩ (fun h o hr => ?_) (fun h hr => ?_)
    · show va_up (S 2) i 1 j ≤ 1 ∧ (va_up (S 2) i 1 j = 1 → SOk (fun k => kpf S i 19 (19 * j + k)) (S 12 1))
      by_cases e : j = i
      · subst e
        rw [va_up_self]
        exact ⟨Nat.le_refl _, fun _ => hG.cg hp5 (fun k hk => kpf_own S hk)⟩
      · rw [va_up_ne _ _ e]
        exact ⟨(hIm j hj).1, fun q => ((hIm j hj).2 q).cg hp5 (fun k hk => kpf_ne S e hk)⟩
    · obtain ⟨h0, h1, -, ⟨hH1, -, -, -, hA, -⟩, -, -, -, -, -, ⟨f, z1, z2⟩, z3, z4⟩ := id hr
      obtain ⟨h', u1, u2, u3, u4, u5⟩ := c_copyFrom (z4 i hi2).1 hA (by omega) (by omega) hp5
      have h1' := (u3 1 (by omega)).trans h1
      have z3' := (u3 39 (by omega)).trans z3
      have hx0 := (z4 i hi2).1.1
      obtain ⟨_, _, _, _, _, _, _, _, _, hx0⟩ := hx0
      have e1 : nI 1 &&& 1 = nI 1 := by decide
      refine ⟨hup h' 39 (zA 2 (fun j => nI (va_up (S 2) i 1 j))), ?_, RepCo.im hn hr (fun x a b => by rw [hup_ne a]; exact u3 x (by omega)) (fun k a b => by rw [va_up_ne _ _ b, va_up_ne _ _ a]) ⟨⟨f, ?_, z2⟩, hup_get, fun j hj => ⟨?_, fun q => ?_⟩⟩, fun a ha => by rw [hup_ne (by omega)]; exact u3 a (by omega), u4, u5⟩
      · show Run M_X8_keep 0 [.ref 1, .int (nI i)] [] h = _
        simp only [r_X8_keep_0, r_X8_keep_1, r_X8_keep_2, r_X8_keep_3, r_X8_keep_6, r_X8_keep_9, r_X8_keep_11, r_X8_keep_12, r_X8_keep_13, r_X8_keep_16, r_X8_keep_17, r_X8_keep_18, r_X8_keep_19, r_X8_keep_22, r_X8_keep_25, r_X8_keep_28, r_X8_keep_29, r_X8_keep_32, r_X8_keep_33, r_X8_keep_34, r_X8_keep_35, r_X8_keep_36, ↓reduceIte, Option.isSome_some, Option.getD_some, rL_v, rL_n, cH_s, List.cons_append, List.nil_append, cat_i, cat_r, cat_n, ofN, c_within, ite_bI, hx, and_self, g8_0 h1, g8_1 h1, g8_2 h1, g8_3 h1, g8_4 h1, g8_5 h1, g8_6 h1, g8_7 h1, g8_8 h1, ro8 h1, g4_0 hH1, g4_1 hH1, g4_2 hH1, g4_3 hH1, g4_4 hH1, g4_5 hH1, g4_6 hH1, ro4 hH1, gR_nI z1 (Or.inr (Or.inr rfl)) (by decide) (by decide) (z2 i hi2) hi2, ro0 hx0, u1, g8_0 h1', g8_1 h1', g8_2 h1', g8_3 h1', g8_4 h1', g8_5 h1', g8_6 h1', g8_7 h1', g8_8 h1', ro8 h1', e1, pI_nI z3' (by decide) (by decide) hi2, upd_nI]
      · rw [hup_ne (by decide), u3 38 (by omega)]; exact z1
      · by_cases e : j = i
        · subst e
          exact u2.x.fr (fun x a b => hup_ne (by omega))
        · exact (z4 j hj).1.fr (fun x a b => by rw [hup_ne (by omega)]; exact u3 x (by omega))
      · have q' : va_up (S 2) i 1 j = 1 := q
        show AgR _ (82 + 3 * j) (fun k => kpf S i 19 (19 * j + k)) (S 12 1)
        by_cases e : j = i
        · subst e
          exact (u2.fr (fun x a b => hup_ne (by omega))).cg hp5 (fun k hk => kpf_own S hk)
        · rw [va_up_ne _ _ e] at q'
          exact (((z4 j hj).2 q').fr (fun x a b => by rw [hup_ne (by omega)]; exact u3 x (by omega))).cg hp5 (fun k hk => kpf_ne S e hk)
    · have r1 := hr.arr (k := 1) (f := kpf S i 19) (by decide) rfl
      have r2 := r1.arr (k := 2) (f := va_up (S 2) i 1) (by decide) rfl
      exact ⟨_, m_keep hr hi2, r2, fun a ha => by rw [hup_ne (by omega), hup_ne (by omega)], rfl, rfl⟩
  · refine OpV.read (r := .int (-1000000001)) hI (fun h hr => ?_) (fun h hr => ?_)
    · show Run M_X8_keep 0 [.ref 1, .int x] [] h = _
      simp only [r_X8_keep_0, r_X8_keep_1, r_X8_keep_2, r_X8_keep_3, r_X8_keep_6, r_X8_keep_9, r_X8_keep_11, ↓reduceIte, Option.isSome_some, Option.getD_some, rL_v, rL_n, cH_s, List.cons_append, List.nil_append, cat_i, cat_r, cat_n, ofN, c_within, ite_bI, hx]
    · show Run M_X9_keep 0 [.ref 88, .int x, .null] [] h = _
      simp only [r_X9_keep_0, r_X9_keep_1, r_X9_keep_2, r_X9_keep_3, r_X9_keep_6, r_X9_keep_9, r_X9_keep_11, ↓reduceIte, Option.isSome_some, Option.getD_some, rL_v, rL_n, cH_s, List.cons_append, List.nil_append, cat_i, cat_r, cat_n, ofN, c_in, ite_bI, hx]
theorem op_goBack {S : SS} (hI : Inv S) (x : Int32) : OpV M_X8_goBack M_X9_goBack [.int x] S := by
  obtain ⟨hH, hT, hG, hIm, hR⟩ := id hI
  have hn := hH.1
  have hp5 := hT.1
  by_cases hx : nI 0 ≤ x ∧ x ≤ nI 1
  · obtain ⟨i, hi, rfl⟩ := rng (by decide) hx
    have hi2 : i < 2 := by omega
    have m1 := (hIm i hi2).1
    by_cases hk : S 2 i = 1
    · have hg' := ((hIm i hi2).2 hk).cg (g' := gbk S i 19) hp5 (fun k hk => gbk_own S hk)
      refine op_mk (r := .int (nI 1)) (S' := va_up S 0 (gbk S i 19)) ⟨hH, hT, hg', hIm, hR⟩ (fun h o hr => ?_) (fun h hr => ?_)
      · obtain ⟨h0, h1, -, ⟨hH1, -, -, -, hA, -⟩, -, -, -, -, -, ⟨f, z1, z2⟩, z3, z4⟩ := id hr
        obtain ⟨h', u1, u2, u3, u4, u5⟩ := c_copyFrom hA.x ((z4 i hi2).2 hk) (by omega) (by omega) hp5
        have hA1 := hA.1
        have g0 : ¬ nI 1 = nI 0 := by decide
        refine ⟨h', ?_, RepCo.ag hn hr (fun x a => u3 x (by omega)) (u2.cg hp5 (fun k hk => gbk_own S hk)), fun a ha => u3 a (by omega), u4, u5⟩
        show Run M_X8_goBack 0 [.ref 1, .int (nI i)] [] h = _
        simp only [r_X8_goBack_0, r_X8_goBack_1, r_X8_goBack_2, r_X8_goBack_3, r_X8_goBack_6, r_X8_goBack_9, r_X8_goBack_11, r_X8_goBack_12, r_X8_goBack_13, r_X8_goBack_16, r_X8_goBack_18, r_X8_goBack_21, r_X8_goBack_24, r_X8_goBack_25, r_X8_goBack_26, r_X8_goBack_29, r_X8_goBack_32, r_X8_goBack_33, r_X8_goBack_36, r_X8_goBack_37, r_X8_goBack_38, r_X8_goBack_41, r_X8_goBack_42, r_X8_goBack_17 (show 39 ≠ 0 by decide), ↓reduceIte, Option.isSome_some, Option.getD_some, rL_v, rL_n, cH_s, List.cons_append, List.nil_append, cat_i, cat_r, cat_n, ofN, c_within, ite_bI, hx, and_self, g8_0 h1, g8_1 h1, g8_2 h1, g8_3 h1, g8_4 h1, g8_5 h1, g8_6 h1, g8_7 h1, g8_8 h1, ro8 h1, g4_0 hH1, g4_1 hH1, g4_2 hH1, g4_3 hH1, g4_4 hH1, g4_5 hH1, g4_6 hH1, ro4 hH1, gI_nI z3 (by decide) hi2, hk, g0, gR_nI z1 (Or.inr (Or.inr rfl)) (by decide) (by decide) (z2 i hi2) hi2, ro0 hA1, u1]
      · have r1 := hr.arr (k := 0) (f := gbk S i 19) (by decide) rfl
        exact ⟨_, m_goBack hr hi2 hk, r1, fun a ha => hup_ne (by omega), rfl, rfl⟩
    · have hk0 : S 2 i = 0 := by omega
      refine OpV.read (r := .int (-1000000003)) hI (fun h hr => ?_) (fun h hr => ?_)
      · obtain ⟨o, h0, h1, -, -, -, -, -, -, -, ⟨f, z1, z2⟩, z3, z4⟩ := id hr
        show Run M_X8_goBack 0 [.ref 1, .int (nI i)] [] h = _
        simp only [r_X8_goBack_0, r_X8_goBack_1, r_X8_goBack_2, r_X8_goBack_3, r_X8_goBack_6, r_X8_goBack_9, r_X8_goBack_11, r_X8_goBack_12, r_X8_goBack_13, r_X8_goBack_16, r_X8_goBack_18, r_X8_goBack_21, r_X8_goBack_24, r_X8_goBack_17 (show 39 ≠ 0 by decide), ↓reduceIte, Option.isSome_some, Option.getD_some, rL_v, rL_n, cH_s, List.cons_append, List.nil_append, cat_i, cat_r, cat_n, ofN, c_within, ite_bI, hx, and_self, g8_0 h1, g8_1 h1, g8_2 h1, g8_3 h1, g8_4 h1, g8_5 h1, g8_6 h1, g8_7 h1, g8_8 h1, ro8 h1, gI_nI z3 (by decide) hi2, hk0]
      · obtain ⟨⟨a, b, c, d, e', f, g, i1, i2, i3, i4, hm⟩, hA, -⟩ := id hr
        have h91 := hA 91 _ rfl
        show Run M_X9_goBack 0 [.ref 88, .int (nI i), .null] [] h = _
        simp only [r_X9_goBack_0, r_X9_goBack_1, r_X9_goBack_2, r_X9_goBack_3, r_X9_goBack_6, r_X9_goBack_9, r_X9_goBack_11, r_X9_goBack_12, r_X9_goBack_13, r_X9_goBack_16, r_X9_goBack_18, r_X9_goBack_21, r_X9_goBack_24, r_X9_goBack_17 (show 91 ≠ 0 by decide), ↓reduceIte, Option.isSome_some, Option.getD_some, rL_v, rL_n, cH_s, List.cons_append, List.nil_append, cat_i, cat_r, cat_n, ofN, c_in, ite_bI, hx, and_self, g9_0 hm, g9_1 hm, g9_2 hm, g9_3 hm, g9_4 hm, g9_5 hm, g9_6 hm, g9_7 hm, g9_8 hm, g9_9 hm, g9_10 hm, g9_11 hm, g9_12 hm, g9_13 hm, g9_14 hm, g9_15 hm, g9_16 hm, g9_17 hm, g9_18 hm, g9_19 hm, g9_20 hm, g9_21 hm, g9_22 hm, g9_23 hm, g9_24 hm, g9_25 hm, g9_26 hm, g9_27 hm, g9_28 hm, g9_29 hm, g9_30 hm, g9_31 hm, g9_32 hm, g9_33 hm, g9_34 hm, g9_35 hm, g9_36 hm, g9_37 hm, g9_38 hm, g9_39 hm, ro9 hm, gI_nI h91 (by decide) hi2, hk0]
  · refine OpV.read (r := .int (-1000000001)) hI (fun h hr => ?_) (fun h hr => ?_)
    · show Run M_X8_goBack 0 [.ref 1, .int x] [] h = _
      simp only [r_X8_goBack_0, r_X8_goBack_1, r_X8_goBack_2, r_X8_goBack_3, r_X8_goBack_6, r_X8_goBack_9, r_X8_goBack_11, ↓reduceIte, Option.isSome_some, Option.getD_some, rL_v, rL_n, cH_s, List.cons_append, List.nil_append, cat_i, cat_r, cat_n, ofN, c_within, ite_bI, hx]
    · show Run M_X9_goBack 0 [.ref 88, .int x, .null] [] h = _
      simp only [r_X9_goBack_0, r_X9_goBack_1, r_X9_goBack_2, r_X9_goBack_3, r_X9_goBack_6, r_X9_goBack_9, r_X9_goBack_11, ↓reduceIte, Option.isSome_some, Option.getD_some, rL_v, rL_n, cH_s, List.cons_append, List.nil_append, cat_i, cat_r, cat_n, ofN, c_in, ite_bI, hx]
