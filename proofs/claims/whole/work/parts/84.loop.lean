/-! ===== the law: its loop ===== -/
theorem law_sw {L : Nat} {xs : Nat → Int32} {i : Nat} (hi : i + 5 ≤ L) (hL : L ≤ 320) (x : Int32) (h : AH) (s : LwS L xs h) : ∃ h', LwS L xs h' ∧ Run M_L_law 32 [.ref 0, .ref 1, .ref 88, .int (nI i)] [.int x] h = Run M_L_law 1347 [.ref 0, .ref 1, .ref 88, .int (nI i)] [] h' := by
  rw [r_L_law_32]
  by_cases q0 : x = nI 0
  · rw [if_pos q0]; exact law_feed hi hL h s
  rw [if_neg q0]
  by_cases q1 : x = nI 1
  · rw [if_pos q1]; exact law_hall hi hL h s
  rw [if_neg q1]
  by_cases q2 : x = nI 2
  · rw [if_pos q2]; exact law_fault hi hL h s
  rw [if_neg q2]
  by_cases q3 : x = nI 3
  · rw [if_pos q3]; exact law_told hi hL h s
  rw [if_neg q3]
  by_cases q4 : x = nI 4
  · rw [if_pos q4]; exact law_part hi hL h s
  rw [if_neg q4]
  by_cases q5 : x = nI 5
  · rw [if_pos q5]; exact law_length hi hL h s
  rw [if_neg q5]
  by_cases q6 : x = nI 6
  · rw [if_pos q6]; exact law_player hi hL h s
  rw [if_neg q6]
  by_cases q7 : x = nI 7
  · rw [if_pos q7]; exact law_instrument hi hL h s
  rw [if_neg q7]
  by_cases q8 : x = nI 8
  · rw [if_pos q8]; exact law_costs hi hL h s
  rw [if_neg q8]
  by_cases q9 : x = nI 9
  · rw [if_pos q9]; exact law_sign hi hL h s
  rw [if_neg q9]
  by_cases q10 : x = nI 10
  · rw [if_pos q10]; exact law_lags hi hL h s
  rw [if_neg q10]
  by_cases q11 : x = nI 11
  · rw [if_pos q11]; exact law_lead hi hL h s
  rw [if_neg q11]
  by_cases q12 : x = nI 12
  · rw [if_pos q12]; exact law_drift hi hL h s
  rw [if_neg q12]
  by_cases q13 : x = nI 13
  · rw [if_pos q13]; exact law_ends hi hL h s
  rw [if_neg q13]
  by_cases q14 : x = nI 14
  · rw [if_pos q14]; exact law_by hi hL h s
  rw [if_neg q14]
  by_cases q15 : x = nI 15
  · rw [if_pos q15]; exact law_mean hi hL h s
  rw [if_neg q15]
  by_cases q16 : x = nI 16
  · rw [if_pos q16]; exact law_edge hi hL h s
  rw [if_neg q16]
  by_cases q17 : x = nI 17
  · rw [if_pos q17]; exact law_starts hi hL h s
  rw [if_neg q17]
  by_cases q18 : x = nI 18
  · rw [if_pos q18]; exact law_isIt hi hL h s
  rw [if_neg q18]
  by_cases q19 : x = nI 19
  · rw [if_pos q19]; exact law_go hi hL h s
  rw [if_neg q19]
  by_cases q20 : x = nI 20
  · rw [if_pos q20]; exact law_bestGo hi hL h s
  rw [if_neg q20]
  by_cases q21 : x = nI 21
  · rw [if_pos q21]; exact law_lift hi hL h s
  rw [if_neg q21]
  by_cases q22 : x = nI 22
  · rw [if_pos q22]; exact law_bestLift hi hL h s
  rw [if_neg q22]
  by_cases q23 : x = nI 23
  · rw [if_pos q23]; exact law_saved hi hL h s
  rw [if_neg q23]
  by_cases q24 : x = nI 24
  · rw [if_pos q24]; exact law_apart hi hL h s
  rw [if_neg q24]
  by_cases q25 : x = nI 25
  · rw [if_pos q25]; exact law_bestWay hi hL h s
  rw [if_neg q25]
  by_cases q26 : x = nI 26
  · rw [if_pos q26]; exact law_lookers hi hL h s
  rw [if_neg q26]
  by_cases q27 : x = nI 27
  · rw [if_pos q27]; exact law_claps hi hL h s
  rw [if_neg q27]
  by_cases q28 : x = nI 28
  · rw [if_pos q28]; exact law_lost hi hL h s
  rw [if_neg q28]
  by_cases q29 : x = nI 29
  · rw [if_pos q29]; exact law_help hi hL h s
  rw [if_neg q29]
  by_cases q30 : x = nI 30
  · rw [if_pos q30]; exact law_out hi hL h s
  rw [if_neg q30]
  by_cases q31 : x = nI 31
  · rw [if_pos q31]; exact law_enter hi hL h s
  rw [if_neg q31]
  by_cases q32 : x = nI 32
  · rw [if_pos q32]; exact law_firstIn hi hL h s
  rw [if_neg q32]
  by_cases q33 : x = nI 33
  · rw [if_pos q33]; exact law_ahead hi hL h s
  rw [if_neg q33]
  by_cases q34 : x = nI 34
  · rw [if_pos q34]; exact law_write hi hL h s
  rw [if_neg q34]
  by_cases q35 : x = nI 35
  · rw [if_pos q35]; exact law_judge hi hL h s
  rw [if_neg q35]
  by_cases q36 : x = nI 36
  · rw [if_pos q36]; exact law_tear hi hL h s
  rw [if_neg q36]
  by_cases q37 : x = nI 37
  · rw [if_pos q37]; exact law_seed hi hL h s
  rw [if_neg q37]
  by_cases q38 : x = nI 38
  · rw [if_pos q38]; exact law_keep hi hL h s
  rw [if_neg q38]
  by_cases q39 : x = nI 39
  · rw [if_pos q39]; exact law_goBack hi hL h s
  rw [if_neg q39]
  exact ⟨h, s, rfl⟩
theorem law_end {L i : Nat} (hL : L ≤ 320) (hi : i ≤ 1000) (q : ¬ i + 5 ≤ L) : nI L - nI 5 < nI i := by
  by_cases q5 : 5 ≤ L
  · rw [nI_s q5, nI_lt' (by omega) (by omega)]; omega
  · have a : nI L - nI 5 < nI 0 := by
      rcases (show L = 0 ∨ L = 1 ∨ L = 2 ∨ L = 3 ∨ L = 4 by omega) with rfl | rfl | rfl | rfl | rfl <;> decide
    have b : nI 0 ≤ nI i := by rw [nI_le' (by decide) (by omega)]; omega
    rw [Int32.lt_iff_toInt_lt] at a ⊢
    rw [Int32.le_iff_toInt_le] at b
    omega
theorem law_more {L i : Nat} (hL : L ≤ 320) (q : i + 5 ≤ L) : ¬ nI L - nI 5 < nI i := by
  rw [nI_s (by omega : 5 ≤ L), nI_lt' (by omega) (by omega)]; omega
theorem law_loop {L : Nat} {xs : Nat → Int32} (hL : L ≤ 320) : ∀ (n i : Nat) (h : AH), L ≤ i + n → i ≤ L + 5 → LwS L xs h → ∃ hF, LwS L xs hF ∧ Run M_L_law 18 [.ref 0, .ref 1, .ref 88, .int (nI i)] [] h = some (hF, some (.int (nI 1)))
  | n, i, h, hn, hb, s => by
    have c0 : h.2.2 0 = some (iA L xs) := by obtain ⟨S, -, -, -, c0, -⟩ := s; exact c0
    by_cases q : i + 5 ≤ L
    · have e : Run M_L_law 18 [.ref 0, .ref 1, .ref 88, .int (nI i)] [] h = Run M_L_law 32 [.ref 0, .ref 1, .ref 88, .int (nI i)] [.int (xs i &&& nI 63)] h := by
        simp only [r_L_law_18, r_L_law_19, r_L_law_20, r_L_law_21, r_L_law_22, r_L_law_23, r_L_law_26, r_L_law_27, r_L_law_28, r_L_law_29, r_L_law_31, ↓reduceIte, Option.isSome_some, Option.getD_some, rL_v, rL_n, cH_s, List.cons_append, List.nil_append, cat_i, cat_r, cat_n, ofN, gN_of c0, (show Int32.ofNat L = nI L from rfl), law_more hL q, gI_nI c0 (by omega) (show i < L by omega)]
      obtain ⟨h1, s1, e1⟩ := law_sw q hL (xs i &&& nI 63) h s
      cases n with
      | zero => omega
      | succ n =>
        obtain ⟨hF, sF, eF⟩ := law_loop hL n (i + 5) h1 (by omega) (by omega) s1
        refine ⟨hF, sF, ?_⟩
        rw [e, e1, ← eF]
        simp only [r_L_law_1347, r_L_law_1350, ↓reduceIte, Option.isSome_some, Option.getD_some, rL_v, rL_n, cH_s, List.cons_append, List.nil_append, cat_i, cat_r, cat_n, ofN, nI_add]
    · refine ⟨h, s, ?_⟩
      simp only [r_L_law_18, r_L_law_19, r_L_law_20, r_L_law_21, r_L_law_22, r_L_law_23, r_L_law_1353, r_L_law_1354_0, r_L_law_1354_1, r_L_law_1354_c, ↓reduceIte, Option.isSome_some, Option.getD_some, rL_v, rL_n, cH_s, List.cons_append, List.nil_append, cat_i, cat_r, cat_n, ofN, gN_of c0, (show Int32.ofNat L = nI L from rfl), law_end hL (by omega : i ≤ 1000) q]
theorem Inv_Q0 : Inv (Q0 0) := by
  obtain ⟨a, b, c, d, e15, e16, -⟩ := QOk_Q0 0
  refine ⟨a, b, ⟨c, d, ?_, ?_, ?_⟩, fun i hi => ⟨?_, fun q => ?_⟩, ⟨?_, fun i hi => ?_⟩, ⟨?_, fun i hi => ?_⟩, ?_, fun i hi => ?_, ?_⟩
  · show (0 : Nat) < 2 ^ 0; decide
  · show (0 : Nat) ≤ _; exact Nat.zero_le _
  · show (0 : Nat) < _; decide
  · show (0 : Nat) ≤ _; exact Nat.zero_le _
  · exact absurd q (by show ¬ (0 : Nat) = 1; decide)
  · show (0 : Nat) ≤ _; exact Nat.zero_le _
  · exact absurd hi (Nat.not_lt_zero _)
  · show (0 : Nat) ≤ _; exact Nat.zero_le _
  · exact absurd hi (Nat.not_lt_zero _)
  · show (0 : Nat) ≤ _; exact Nat.zero_le _
  · exact absurd hi (Nat.not_lt_zero _)
  · show (0 : Nat) ≤ _; exact Nat.zero_le _
/-- the whole run of the law -/
theorem law_all {L : Nat} (xs : Nat → Int32) (hL : L ≤ 320) : ∃ hF : AH, Run M_L_law 0 [.ref 0, .null, .null, .null] [] (h0 L xs) = some (hF, some (.int 1)) ∧ hF.1 = 111 ∧ hF.2.1 = 11307 := by
  obtain ⟨h1, a1, a2, a3, a4, a5⟩ := i_X8 (h := hnew (h0 L xs) 9 (oB 8 [.null, .null, .null, .null, .null, .null, .null, .null, .null])) rfl (by exact hnew_get (h := h0 L xs))
  obtain ⟨h2, b1, b2, b3, b4, b5⟩ := i_X9 (h := hnew h1 40 (oB 9 [.null, .null, .null, .int 0, .null, .null, .null, .null, .null, .int 0, .int 0, .null, .null, .int 0, .int 0, .int 0, .int 0, .int 0, .int 0, .int 0, .int 0, .int 0, .null, .null, .null, .null, .null, .int 0, .null, .int 0, .null, .null, .int 0, .int 0, .null, .null, .int 0, .null, .int 0, .null])) (by show h1.1 + 1 = 89; rw [a3]) (by rw [← a3]; exact hnew_get)
  have e2 : ∀ x, x < 88 → h2.2.2 x = h1.2.2 x := fun x hx => (b5 x hx).trans (hnew_ne (by omega))
  have rc : RepC h2 (Q0 0) := RepC.fr (by show (0 : Nat) ≤ 7; decide) e2 ⟨40, a2⟩
  have z0 : h2.2.2 0 = some (iA L xs) := by
    rw [e2 0 (by decide), a5]
    rfl
  have y0 : (hnew (h0 L xs) 9 (oB 8 [.null, .null, .null, .null, .null, .null, .null, .null, .null])).2.1 = 9 := rfl
  rw [y0] at a4
  have y1 : (hnew h1 40 (oB 9 [.null, .null, .null, .int 0, .null, .null, .null, .null, .null, .int 0, .int 0, .null, .null, .int 0, .int 0, .int 0, .int 0, .int 0, .int 0, .int 0, .int 0, .int 0, .null, .null, .null, .null, .null, .int 0, .null, .int 0, .null, .null, .int 0, .int 0, .null, .null, .int 0, .null, .int 0, .null])).2.1 = h1.2.1 + 40 := rfl
  rw [y1] at b4
  have z2 : h2.2.1 = 11307 := by omega
  obtain ⟨hF, ⟨S, -, -, -, -, f1, f2⟩, eF⟩ := law_loop (xs := xs) hL L 0 h2 (by omega) (by omega) ⟨Q0 0, Inv_Q0, rc, b2, z0, b3, z2⟩
  refine ⟨hF, ?_, f1, f2⟩
  have e0 : (h0 L xs).1 = 1 := rfl
  have eF : Run M_L_law 18 [.ref 0, .ref 1, .ref 88, .int (nI 0)] [] h2 = some (hF, some (.int 1)) := eF
  simp only [r_L_law_0, r_L_law_3, r_L_law_4, r_L_law_7, r_L_law_8, r_L_law_11, r_L_law_12, r_L_law_15, r_L_law_16, r_L_law_17, ↓reduceIte, Option.isSome_some, Option.getD_some, rL_v, rL_n, cH_s, List.cons_append, List.nil_append, cat_i, cat_r, cat_n, ofN, e0, a1, a3, b1, eF]
