/-! ===== hall: the model's letters and words ===== -/
abbrev oMk (b : Nat → Int32) (at' pl tk vl fg fl fa : Int32) : AC := oMo (b 0) (b 1) (b 2) (b 3) at' pl tk vl fg fl fa (b 4) (b 5) (b 6) (b 7) (b 8) (b 9) (b 10)
theorem c_letterAt {h : AH} {T : Nat → Nat} {n a : Nat} {b : Nat → Int32} {at' pl tk vl fg fl fa : Int32} (hn : n ≤ 250) (ha : a ≤ n) (hb : b 3 = nI n) (h98 : h.2.2 98 = some (iA 250 (fun i => nI (T i)))) (hm : h.2.2 88 = some (oMk b at' pl tk vl fg fl fa)) : Call M_X9_letterAt h [.ref 88, .int (nI a)] = some (h, some (.int (hrL T n a))) := by
  have c : (nI n ≤ nI a) = (n ≤ a) := nI_le' (by omega) (by omega)
  show Run M_X9_letterAt 0 [.ref 88, .int (nI a)] [] h = _
  unfold hrL
  by_cases q : a < n
  · have q' : ¬ n ≤ a := by omega
    rw [if_pos q]
    simp only [r_X9_letterAt_0, r_X9_letterAt_1, r_X9_letterAt_2, r_X9_letterAt_5, r_X9_letterAt_8, r_X9_letterAt_9, r_X9_letterAt_12, r_X9_letterAt_13, r_X9_letterAt_14, r_X9_letterAt_18, ↓reduceIte, Option.isSome_some, Option.getD_some, rL_v, rL_n, cH_s, List.cons_append, List.nil_append, cat_i, cat_r, cat_n, ofN, g9_0 hm, g9_1 hm, g9_2 hm, g9_3 hm, g9_4 hm, g9_5 hm, g9_6 hm, g9_7 hm, g9_8 hm, g9_9 hm, g9_10 hm, g9_11 hm, g9_12 hm, g9_13 hm, g9_14 hm, g9_15 hm, g9_16 hm, g9_17 hm, g9_18 hm, g9_19 hm, g9_20 hm, g9_21 hm, g9_22 hm, g9_23 hm, g9_24 hm, g9_25 hm, g9_26 hm, g9_27 hm, g9_28 hm, g9_29 hm, g9_30 hm, g9_31 hm, g9_32 hm, g9_33 hm, g9_34 hm, g9_35 hm, g9_36 hm, g9_37 hm, g9_38 hm, g9_39 hm, ro9 hm, hb, c, q', gI_nI h98 (by decide) (show a < 250 by omega)]
  · have q' : n ≤ a := by omega
    rw [if_neg q]
    simp only [r_X9_letterAt_0, r_X9_letterAt_1, r_X9_letterAt_2, r_X9_letterAt_5, r_X9_letterAt_17, r_X9_letterAt_18, ↓reduceIte, Option.isSome_some, Option.getD_some, rL_v, rL_n, cH_s, List.cons_append, List.nil_append, cat_i, cat_r, cat_n, ofN, g9_0 hm, g9_1 hm, g9_2 hm, g9_3 hm, g9_4 hm, g9_5 hm, g9_6 hm, g9_7 hm, g9_8 hm, g9_9 hm, g9_10 hm, g9_11 hm, g9_12 hm, g9_13 hm, g9_14 hm, g9_15 hm, g9_16 hm, g9_17 hm, g9_18 hm, g9_19 hm, g9_20 hm, g9_21 hm, g9_22 hm, g9_23 hm, g9_24 hm, g9_25 hm, g9_26 hm, g9_27 hm, g9_28 hm, g9_29 hm, g9_30 hm, g9_31 hm, g9_32 hm, g9_33 hm, g9_34 hm, g9_35 hm, g9_36 hm, g9_37 hm, g9_38 hm, g9_39 hm, ro9 hm, hb, c, q']
theorem hrL_in {T : Nat → Nat} {n a : Nat} (hT : ∀ i, i < n → T i < 256) : (nI 48 ≤ hrL T n a ∧ hrL T n a ≤ nI 57) = fig T n a := by
  unfold hrL
  by_cases q : a < n
  · have := hT a q
    rw [if_pos q, nI_le' (by decide) (by omega), nI_le' (by omega) (by decide)]
    simp [fig, q]
  · rw [if_neg q]
    apply propext
    constructor
    · intro z; exact absurd z.1 (by decide)
    · intro z; exact absurd z.1 q
def isW (c : Nat) : Prop := c = 112 ∨ c = 115 ∨ c = 99 ∨ c = 108 ∨ c = 105
def tkN (c : Nat) : Nat := if c = 112 ∨ c = 115 ∨ c = 99 ∨ c = 108 ∨ c = 105 then 1 else if c = 59 then 3 else if c = 44 then 4 else 5
/-- what the model holds of the word that begins behind a -/
def MTk (T : Nat → Nat) (n a : Nat) (at' pl tk v f : Int32) : Prop := pl = nI (sk T n a) ∧ ((¬ sk T n a < n ∧ tk = nI 0 ∧ at' = nI (sk T n a)) ∨ (fig T n (sk T n a) ∧ tk = nI 2 ∧ at' = nI (nb T n a) ∧ v = nI (vl T n a) ∧ f = nI (fg T n a)) ∨ (sk T n a < n ∧ ¬ fig T n (sk T n a) ∧ tk = nI (tkN (T (sk T n a))) ∧ at' = nI (sk T n a + 1) ∧ v = nI (T (sk T n a))))
set_option maxHeartbeats 4000000 in
theorem c_next {h : AH} {T : Nat → Nat} {n a : Nat} {b : Nat → Int32} {pl tk v f fl fa : Int32} (hn : n ≤ 250) (hT : ∀ i, i < n → T i < 256) (ha : a ≤ n) (hb : b 3 = nI n) (h98 : h.2.2 98 = some (iA 250 (fun i => nI (T i)))) (hm : h.2.2 88 = some (oMk b (nI a) pl tk v f fl fa)) :
    ∃ at' pl' tk' v' f', Call M_X9_next h [.ref 88] = some (hup h 88 (oMk b at' pl' tk' v' f' fl fa), none) ∧ MTk T n a at' pl' tk' v' f' := by
  have h98' : ∀ X, (hup h 88 X).2.2 98 = _ := fun X => (hup_ne (by decide)).trans h98
  have hs := sk_le (T := T) ha
  have hd : dg T n (sk T n a) ≤ n := nb_le (T := T) ha
  have hg := dg_ge (T := T) hs
  have L1 : ∀ k c, c + k = n → Run M_X9_next 0 [.ref 88, .null, .null] [] (hup h 88 (oMk b (nI c) pl tk v f fl fa)) = Run M_X9_next 26 [.ref 88, .null, .null] [] (hup h 88 (oMk b (nI (sk T n c)) pl tk v f fl fa)) := by
    intro k
    induction k with
    | zero =>
      intro c hc
      have e : c = n := by omega
      subst e
      have hl := c_letterAt (a := c) hn (Nat.le_refl _) hb (h98' _) (hup_get (h := h) (a := 88) (c := oMk b (nI c) pl tk v f fl fa))
      have z : ¬ (hrL T c c = nI 32) := by rw [hrL_eq hT (by decide)]; omega
      rw [sk_n (by omega)]
      simp only [r_X9_next_0, r_X9_next_1, r_X9_next_2, r_X9_next_5, r_X9_next_8, r_X9_next_10, ↓reduceIte, Option.isSome_some, Option.getD_some, rL_v, rL_n, cH_s, List.cons_append, List.nil_append, cat_i, cat_r, cat_n, ofN, rou9, gu9_0, gu9_1, gu9_2, gu9_3, pu9_3, gu9_4, gu9_5, gu9_6, gu9_7, gu9_8, gu9_9, pu9_9, gu9_10, pu9_10, gu9_11, gu9_12, gu9_13, pu9_13, gu9_14, pu9_14, gu9_15, pu9_15, gu9_16, pu9_16, gu9_17, pu9_17, gu9_18, pu9_18, gu9_19, pu9_19, gu9_20, pu9_20, gu9_21, pu9_21, gu9_22, gu9_23, gu9_24, gu9_25, gu9_26, gu9_27, pu9_27, gu9_28, gu9_29, pu9_29, gu9_30, gu9_31, gu9_32, pu9_32, gu9_33, pu9_33, gu9_34, gu9_35, gu9_36, pu9_36, gu9_37, gu9_38, pu9_38, gu9_39, hl, z]
    | succ k ih =>
      intro c hc
      have hl := c_letterAt (a := c) hn (by omega) hb (h98' _) (hup_get (h := h) (a := 88) (c := oMk b (nI c) pl tk v f fl fa))
      have z := hrL_eq (T := T) (n := n) (a := c) (c := 32) hT (by decide)
      by_cases q : c < n ∧ T c = 32
      · rw [sk_y q, ← ih (c + 1) (by omega), r_X9_next_0]
        simp only [r_X9_next_1, r_X9_next_2, r_X9_next_5, r_X9_next_8, r_X9_next_10, r_X9_next_13, r_X9_next_14, r_X9_next_15, r_X9_next_18, r_X9_next_19, r_X9_next_20, r_X9_next_23, ↓reduceIte, Option.isSome_some, Option.getD_some, rL_v, rL_n, cH_s, List.cons_append, List.nil_append, cat_i, cat_r, cat_n, ofN, rou9, gu9_0, gu9_1, gu9_2, gu9_3, pu9_3, gu9_4, gu9_5, gu9_6, gu9_7, gu9_8, gu9_9, pu9_9, gu9_10, pu9_10, gu9_11, gu9_12, gu9_13, pu9_13, gu9_14, pu9_14, gu9_15, pu9_15, gu9_16, pu9_16, gu9_17, pu9_17, gu9_18, pu9_18, gu9_19, pu9_19, gu9_20, pu9_20, gu9_21, pu9_21, gu9_22, gu9_23, gu9_24, gu9_25, gu9_26, gu9_27, pu9_27, gu9_28, gu9_29, pu9_29, gu9_30, gu9_31, gu9_32, pu9_32, gu9_33, pu9_33, gu9_34, gu9_35, gu9_36, pu9_36, gu9_37, gu9_38, pu9_38, gu9_39, hl, z, q, and_self, nI_add]
      · rw [sk_n q]
        simp only [r_X9_next_0, r_X9_next_1, r_X9_next_2, r_X9_next_5, r_X9_next_8, r_X9_next_10, ↓reduceIte, Option.isSome_some, Option.getD_some, rL_v, rL_n, cH_s, List.cons_append, List.nil_append, cat_i, cat_r, cat_n, ofN, rou9, gu9_0, gu9_1, gu9_2, gu9_3, pu9_3, gu9_4, gu9_5, gu9_6, gu9_7, gu9_8, gu9_9, pu9_9, gu9_10, pu9_10, gu9_11, gu9_12, gu9_13, pu9_13, gu9_14, pu9_14, gu9_15, pu9_15, gu9_16, pu9_16, gu9_17, pu9_17, gu9_18, pu9_18, gu9_19, pu9_19, gu9_20, pu9_20, gu9_21, pu9_21, gu9_22, gu9_23, gu9_24, gu9_25, gu9_26, gu9_27, pu9_27, gu9_28, gu9_29, pu9_29, gu9_30, gu9_31, gu9_32, pu9_32, gu9_33, pu9_33, gu9_34, gu9_35, gu9_36, pu9_36, gu9_37, gu9_38, pu9_38, gu9_39, hl, z, q]
  have I1 := L1 (n - a) a (by omega)
  rw [hup_same hm] at I1
  obtain ⟨s, hse⟩ : ∃ s, s = sk T n a := ⟨_, rfl⟩
  rw [← hse] at hs hd hg I1
  have hl := c_letterAt (a := s) hn hs hb (h98' _) (hup_get (h := h) (a := 88) (c := oMk b (nI s) (nI s) tk v f fl fa))
  have E : Call M_X9_next h [.ref 88] = Run M_X9_next 43 [.ref 88, .int (hrL T n s), .null] [] (hup h 88 (oMk b (nI s) (nI s) tk v f fl fa)) := by
    show Run M_X9_next 0 [.ref 88, .null, .null] [] h = _
    rw [I1]
    simp only [r_X9_next_26, r_X9_next_27, r_X9_next_28, r_X9_next_31, r_X9_next_34, r_X9_next_35, r_X9_next_36, r_X9_next_39, r_X9_next_42, ↓reduceIte, Option.isSome_some, Option.getD_some, rL_v, rL_n, cH_s, List.cons_append, List.nil_append, cat_i, cat_r, cat_n, ofN, rou9, gu9_0, gu9_1, gu9_2, gu9_3, pu9_3, gu9_4, gu9_5, gu9_6, gu9_7, gu9_8, gu9_9, pu9_9, gu9_10, pu9_10, gu9_11, gu9_12, gu9_13, pu9_13, gu9_14, pu9_14, gu9_15, pu9_15, gu9_16, pu9_16, gu9_17, pu9_17, gu9_18, pu9_18, gu9_19, pu9_19, gu9_20, pu9_20, gu9_21, pu9_21, gu9_22, gu9_23, gu9_24, gu9_25, gu9_26, gu9_27, pu9_27, gu9_28, gu9_29, pu9_29, gu9_30, gu9_31, gu9_32, pu9_32, gu9_33, pu9_33, gu9_34, gu9_35, gu9_36, pu9_36, gu9_37, gu9_38, pu9_38, gu9_39, hl]
  by_cases q0 : s < n
  · have ts := hT s q0
    have eh : hrL T n s = nI (T s) := by unfold hrL; rw [if_pos q0]
    have p0 : nI 0 ≤ nI (T s) := by rw [nI_le' (by decide) (by omega)]; omega
    by_cases q1 : fig T n s
    · have L2 : ∀ k m, m + k = dg T n s - s → Run M_X9_next 71 [.ref 88, .int (nI (T s)), .null] [] (hup h 88 (oMk b (nI (s + m)) (nI s) tk (nI (vv T s m)) f fl fa)) = Run M_X9_next 145 [.ref 88, .int (nI (T s)), .null] [] (hup h 88 (oMk b (nI (dg T n s)) (nI s) tk (nI (vv T s (dg T n s - s))) f fl fa)) := by
        intro k
        induction k with
        | zero =>
          intro m hm'
          have e : m = dg T n s - s := by omega
          have e2 : s + m = dg T n s := by omega
          have hl2 := c_letterAt (a := dg T n s) hn hd hb (h98' _) (hup_get (h := h) (a := 88) (c := oMk b (nI (dg T n s)) (nI s) tk (nI (vv T s m)) f fl fa))
          have z := hrL_in (T := T) (n := n) (a := dg T n s) hT
          have z2 := dg_end (T := T) hs
          rw [e2, ← e]
          simp only [r_X9_next_71, r_X9_next_72, r_X9_next_73, r_X9_next_76, r_X9_next_79, r_X9_next_81, r_X9_next_83, r_X9_next_86, ↓reduceIte, Option.isSome_some, Option.getD_some, rL_v, rL_n, cH_s, List.cons_append, List.nil_append, cat_i, cat_r, cat_n, ofN, rou9, gu9_0, gu9_1, gu9_2, gu9_3, pu9_3, gu9_4, gu9_5, gu9_6, gu9_7, gu9_8, gu9_9, pu9_9, gu9_10, pu9_10, gu9_11, gu9_12, gu9_13, pu9_13, gu9_14, pu9_14, gu9_15, pu9_15, gu9_16, pu9_16, gu9_17, pu9_17, gu9_18, pu9_18, gu9_19, pu9_19, gu9_20, pu9_20, gu9_21, pu9_21, gu9_22, gu9_23, gu9_24, gu9_25, gu9_26, gu9_27, pu9_27, gu9_28, gu9_29, pu9_29, gu9_30, gu9_31, gu9_32, pu9_32, gu9_33, pu9_33, gu9_34, gu9_35, gu9_36, pu9_36, gu9_37, gu9_38, pu9_38, gu9_39, hl2, c_in, ite_bI, z, z2]
        | succ k ih =>
          intro m hm'
          have ff : fig T n (s + m) := dg_in hs (by omega) (by omega)
          have hl2 := c_letterAt (a := s + m) hn (by omega) hb (h98' _) (hup_get (h := h) (a := 88) (c := oMk b (nI (s + m)) (nI s) tk (nI (vv T s m)) f fl fa))
          have z := hrL_in (T := T) (n := n) (a := s + m) hT
          obtain ⟨-, -, f3⟩ := hrL_fig hT ff
          have hin : nI 48 ≤ nI (T (s + m)) ∧ nI (T (s + m)) ≤ nI 57 := by rw [← f3, z]; exact ff
          have c3 : (nI 3 ≤ nI m) = (3 ≤ m) := nI_le' (by decide) (by omega)
          have I := ih (m + 1) (by omega)
          rw [← Nat.add_assoc] at I
          simp only [vv] at I
          rw [r_X9_next_71, ← I]
          by_cases q : m < 3
          · have q' : ¬ 3 ≤ m := by omega
            rw [if_pos q]
            have e : nI 10 * nI (vv T s m) + nI (T (s + m)) - nI 48 = nI (vv T s m * 10 + T (s + m) - 48) := by
              rw [nI_m, nI_add, nI_s (by have := ff.2.1; omega), Nat.mul_comm]
            rw [← e]
            simp only [r_X9_next_72, r_X9_next_73, r_X9_next_76, r_X9_next_79, r_X9_next_81, r_X9_next_83, r_X9_next_86, r_X9_next_89, r_X9_next_90, r_X9_next_91, r_X9_next_94, r_X9_next_95, r_X9_next_98, r_X9_next_99, r_X9_next_100, r_X9_next_103, r_X9_next_105, r_X9_next_106, r_X9_next_109, r_X9_next_110, r_X9_next_111, r_X9_next_112, r_X9_next_115, r_X9_next_118, r_X9_next_119, r_X9_next_121, r_X9_next_122, r_X9_next_129, r_X9_next_132, r_X9_next_133, r_X9_next_134, r_X9_next_137, r_X9_next_138, r_X9_next_139, r_X9_next_142, ↓reduceIte, Option.isSome_some, Option.getD_some, rL_v, rL_n, cH_s, List.cons_append, List.nil_append, cat_i, cat_r, cat_n, ofN, rou9, gu9_0, gu9_1, gu9_2, gu9_3, pu9_3, gu9_4, gu9_5, gu9_6, gu9_7, gu9_8, gu9_9, pu9_9, gu9_10, pu9_10, gu9_11, gu9_12, gu9_13, pu9_13, gu9_14, pu9_14, gu9_15, pu9_15, gu9_16, pu9_16, gu9_17, pu9_17, gu9_18, pu9_18, gu9_19, pu9_19, gu9_20, pu9_20, gu9_21, pu9_21, gu9_22, gu9_23, gu9_24, gu9_25, gu9_26, gu9_27, pu9_27, gu9_28, gu9_29, pu9_29, gu9_30, gu9_31, gu9_32, pu9_32, gu9_33, pu9_33, gu9_34, gu9_35, gu9_36, pu9_36, gu9_37, gu9_38, pu9_38, gu9_39, hl2, c_in, ite_bI, f3, hin, nI_s (show s ≤ s + m by omega), Nat.add_sub_cancel_left, c3, q', and_self, nI_add]
          · have q' : 3 ≤ m := by omega
            rw [if_neg q]
            simp only [r_X9_next_72, r_X9_next_73, r_X9_next_76, r_X9_next_79, r_X9_next_81, r_X9_next_83, r_X9_next_86, r_X9_next_89, r_X9_next_90, r_X9_next_91, r_X9_next_94, r_X9_next_95, r_X9_next_98, r_X9_next_99, r_X9_next_100, r_X9_next_125, r_X9_next_126, r_X9_next_129, r_X9_next_132, r_X9_next_133, r_X9_next_134, r_X9_next_137, r_X9_next_138, r_X9_next_139, r_X9_next_142, ↓reduceIte, Option.isSome_some, Option.getD_some, rL_v, rL_n, cH_s, List.cons_append, List.nil_append, cat_i, cat_r, cat_n, ofN, rou9, gu9_0, gu9_1, gu9_2, gu9_3, pu9_3, gu9_4, gu9_5, gu9_6, gu9_7, gu9_8, gu9_9, pu9_9, gu9_10, pu9_10, gu9_11, gu9_12, gu9_13, pu9_13, gu9_14, pu9_14, gu9_15, pu9_15, gu9_16, pu9_16, gu9_17, pu9_17, gu9_18, pu9_18, gu9_19, pu9_19, gu9_20, pu9_20, gu9_21, pu9_21, gu9_22, gu9_23, gu9_24, gu9_25, gu9_26, gu9_27, pu9_27, gu9_28, gu9_29, pu9_29, gu9_30, gu9_31, gu9_32, pu9_32, gu9_33, pu9_33, gu9_34, gu9_35, gu9_36, pu9_36, gu9_37, gu9_38, pu9_38, gu9_39, hl2, c_in, ite_bI, f3, hin, nI_s (show s ≤ s + m by omega), Nat.add_sub_cancel_left, c3, q', and_self, nI_add]
      have I2 := L2 (dg T n s - s) 0 (by omega)
      have nf0 : (nI 48 ≤ nI (T s) ∧ nI (T s) ≤ nI 57) = fig T n s := by rw [← hrL_in hT, eh]
      refine ⟨nI (dg T n s), nI s, nI 2, nI (vv T s (dg T n s - s)), nI (dg T n s - s), ?_, ?_⟩
      · rw [E, eh]
        have hin : nI 48 ≤ nI (T s) ∧ nI (T s) ≤ nI 57 := by rw [nf0]; exact q1
        simp only [r_X9_next_43, r_X9_next_44, r_X9_next_55, r_X9_next_56, r_X9_next_58, r_X9_next_60, r_X9_next_63, r_X9_next_66, r_X9_next_67, r_X9_next_68, ↓reduceIte, Option.isSome_some, Option.getD_some, rL_v, rL_n, cH_s, List.cons_append, List.nil_append, cat_i, cat_r, cat_n, ofN, p0, c_in, ite_bI, hin, and_self, rou9, gu9_0, gu9_1, gu9_2, gu9_3, pu9_3, gu9_4, gu9_5, gu9_6, gu9_7, gu9_8, gu9_9, pu9_9, gu9_10, pu9_10, gu9_11, gu9_12, gu9_13, pu9_13, gu9_14, pu9_14, gu9_15, pu9_15, gu9_16, pu9_16, gu9_17, pu9_17, gu9_18, pu9_18, gu9_19, pu9_19, gu9_20, pu9_20, gu9_21, pu9_21, gu9_22, gu9_23, gu9_24, gu9_25, gu9_26, gu9_27, pu9_27, gu9_28, gu9_29, pu9_29, gu9_30, gu9_31, gu9_32, pu9_32, gu9_33, pu9_33, gu9_34, gu9_35, gu9_36, pu9_36, gu9_37, gu9_38, pu9_38, gu9_39]
        have I2' : Run M_X9_next 71 [.ref 88, .int (nI (T s)), .null] [] (hup h 88 (oMo (b 0) (b 1) (b 2) (b 3) (nI s) (nI s) tk (nI 0) f fl fa (b 4) (b 5) (b 6) (b 7) (b 8) (b 9) (b 10))) = _ := I2
        rw [I2']
        simp only [r_X9_next_145, r_X9_next_146, r_X9_next_147, r_X9_next_150, r_X9_next_151, r_X9_next_154, r_X9_next_155, r_X9_next_158, r_X9_next_159, r_X9_next_160, r_X9_next_163, r_X9_next_250, ↓reduceIte, Option.isSome_some, Option.getD_some, rL_v, rL_n, cH_s, List.cons_append, List.nil_append, cat_i, cat_r, cat_n, ofN, rou9, gu9_0, gu9_1, gu9_2, gu9_3, pu9_3, gu9_4, gu9_5, gu9_6, gu9_7, gu9_8, gu9_9, pu9_9, gu9_10, pu9_10, gu9_11, gu9_12, gu9_13, pu9_13, gu9_14, pu9_14, gu9_15, pu9_15, gu9_16, pu9_16, gu9_17, pu9_17, gu9_18, pu9_18, gu9_19, pu9_19, gu9_20, pu9_20, gu9_21, pu9_21, gu9_22, gu9_23, gu9_24, gu9_25, gu9_26, gu9_27, pu9_27, gu9_28, gu9_29, pu9_29, gu9_30, gu9_31, gu9_32, pu9_32, gu9_33, pu9_33, gu9_34, gu9_35, gu9_36, pu9_36, gu9_37, gu9_38, pu9_38, gu9_39, nI_s (show s ≤ dg T n s by omega)]
      · subst hse
        exact ⟨rfl, Or.inr (Or.inl ⟨q1, rfl, rfl, rfl, rfl⟩)⟩
    · have nf0 : (nI 48 ≤ nI (T s) ∧ nI (T s) ≤ nI 57) = fig T n s := by rw [← hrL_in hT, eh]
      have cc : ∀ c, c < 256 → (nI (T s) = nI c) = (T s = c) := fun c hc => nI_inj (by omega) (by omega)
      have k1 := cc 112 (by decide)
      have k2 := cc 115 (by decide)
      have k3 := cc 99 (by decide)
      have k4 := cc 108 (by decide)
      have k5 := cc 105 (by decide)
      have k6 := cc 59 (by decide)
      have k7 := cc 44 (by decide)
      refine ⟨nI (s + 1), nI s, nI (tkN (T s)), nI (T s), f, ?_, ?_⟩
      · rw [E, eh]
        simp only [r_X9_next_43, r_X9_next_44, r_X9_next_55, r_X9_next_56, r_X9_next_58, r_X9_next_60, r_X9_next_63, r_X9_next_166, r_X9_next_167, r_X9_next_168, r_X9_next_171, r_X9_next_172, r_X9_next_173, r_X9_next_176, r_X9_next_177, r_X9_next_178, ↓reduceIte, Option.isSome_some, Option.getD_some, rL_v, rL_n, cH_s, List.cons_append, List.nil_append, cat_i, cat_r, cat_n, ofN, p0, c_in, ite_bI, nf0, q1, rou9, gu9_0, gu9_1, gu9_2, gu9_3, pu9_3, gu9_4, gu9_5, gu9_6, gu9_7, gu9_8, gu9_9, pu9_9, gu9_10, pu9_10, gu9_11, gu9_12, gu9_13, pu9_13, gu9_14, pu9_14, gu9_15, pu9_15, gu9_16, pu9_16, gu9_17, pu9_17, gu9_18, pu9_18, gu9_19, pu9_19, gu9_20, pu9_20, gu9_21, pu9_21, gu9_22, gu9_23, gu9_24, gu9_25, gu9_26, gu9_27, pu9_27, gu9_28, gu9_29, pu9_29, gu9_30, gu9_31, gu9_32, pu9_32, gu9_33, pu9_33, gu9_34, gu9_35, gu9_36, pu9_36, gu9_37, gu9_38, pu9_38, gu9_39, nI_add]
        have fin : ∀ t, Run M_X9_next 247 [.ref 88, .int (nI (T s)), .int (nI (if T s = 112 ∨ T s = 115 ∨ T s = 99 ∨ T s = 108 ∨ T s = 105 then 1 else 0))] [.int (nI t), .ref 88] (hup h 88 (oMo (b 0) (b 1) (b 2) (b 3) (nI (s + 1)) (nI s) tk (nI (T s)) f fl fa (b 4) (b 5) (b 6) (b 7) (b 8) (b 9) (b 10))) = some (hup h 88 (oMo (b 0) (b 1) (b 2) (b 3) (nI (s + 1)) (nI s) (nI t) (nI (T s)) f fl fa (b 4) (b 5) (b 6) (b 7) (b 8) (b 9) (b 10)), none) := by
          intro t
          simp only [r_X9_next_247, r_X9_next_250, ↓reduceIte, Option.isSome_some, Option.getD_some, rL_v, rL_n, cH_s, List.cons_append, List.nil_append, cat_i, cat_r, cat_n, ofN, rou9, gu9_0, gu9_1, gu9_2, gu9_3, pu9_3, gu9_4, gu9_5, gu9_6, gu9_7, gu9_8, gu9_9, pu9_9, gu9_10, pu9_10, gu9_11, gu9_12, gu9_13, pu9_13, gu9_14, pu9_14, gu9_15, pu9_15, gu9_16, pu9_16, gu9_17, pu9_17, gu9_18, pu9_18, gu9_19, pu9_19, gu9_20, pu9_20, gu9_21, pu9_21, gu9_22, gu9_23, gu9_24, gu9_25, gu9_26, gu9_27, pu9_27, gu9_28, gu9_29, pu9_29, gu9_30, gu9_31, gu9_32, pu9_32, gu9_33, pu9_33, gu9_34, gu9_35, gu9_36, pu9_36, gu9_37, gu9_38, pu9_38, gu9_39]
        have W : Run M_X9_next 181 [.ref 88, .int (nI (T s)), .null] [] (hup h 88 (oMo (b 0) (b 1) (b 2) (b 3) (nI (s + 1)) (nI s) tk (nI (T s)) f fl fa (b 4) (b 5) (b 6) (b 7) (b 8) (b 9) (b 10))) = Run M_X9_next 217 [.ref 88, .int (nI (T s)), .int (nI (if T s = 112 ∨ T s = 115 ∨ T s = 99 ∨ T s = 108 ∨ T s = 105 then 1 else 0))] [] (hup h 88 (oMo (b 0) (b 1) (b 2) (b 3) (nI (s + 1)) (nI s) tk (nI (T s)) f fl fa (b 4) (b 5) (b 6) (b 7) (b 8) (b 9) (b 10))) := by
          rw [r_X9_next_181, r_X9_next_182, r_X9_next_184]
          by_cases e1 : T s = 112
          · rw [if_pos (by rw [k1]; exact e1), if_pos (Or.inl e1)]
            simp only [r_X9_next_211, r_X9_next_212, r_X9_next_216, ↓reduceIte, Option.isSome_some, Option.getD_some, rL_v, rL_n, cH_s, List.cons_append, List.nil_append, cat_i, cat_r, cat_n, ofN]
          rw [if_neg (by rw [k1]; exact e1), r_X9_next_187, r_X9_next_188, r_X9_next_190]
          by_cases e2 : T s = 115
          · rw [if_pos (by rw [k2]; exact e2), if_pos (Or.inr (Or.inl e2))]
            simp only [r_X9_next_211, r_X9_next_212, r_X9_next_216, ↓reduceIte, Option.isSome_some, Option.getD_some, rL_v, rL_n, cH_s, List.cons_append, List.nil_append, cat_i, cat_r, cat_n, ofN]
          rw [if_neg (by rw [k2]; exact e2), r_X9_next_193, r_X9_next_194, r_X9_next_196]
          by_cases e3 : T s = 99
          · rw [if_pos (by rw [k3]; exact e3), if_pos (Or.inr (Or.inr (Or.inl e3)))]
            simp only [r_X9_next_211, r_X9_next_212, r_X9_next_216, ↓reduceIte, Option.isSome_some, Option.getD_some, rL_v, rL_n, cH_s, List.cons_append, List.nil_append, cat_i, cat_r, cat_n, ofN]
          rw [if_neg (by rw [k3]; exact e3), r_X9_next_199, r_X9_next_200, r_X9_next_202]
          by_cases e4 : T s = 108
          · rw [if_pos (by rw [k4]; exact e4), if_pos (Or.inr (Or.inr (Or.inr (Or.inl e4))))]
            simp only [r_X9_next_211, r_X9_next_212, r_X9_next_216, ↓reduceIte, Option.isSome_some, Option.getD_some, rL_v, rL_n, cH_s, List.cons_append, List.nil_append, cat_i, cat_r, cat_n, ofN]
          rw [if_neg (by rw [k4]; exact e4), r_X9_next_205, r_X9_next_206, r_X9_next_208]
          by_cases e5 : T s = 105
          · rw [if_pos (by rw [k5]; exact e5), if_pos (Or.inr (Or.inr (Or.inr (Or.inr e5))))]
            simp only [r_X9_next_211, r_X9_next_212, r_X9_next_216, ↓reduceIte, Option.isSome_some, Option.getD_some, rL_v, rL_n, cH_s, List.cons_append, List.nil_append, cat_i, cat_r, cat_n, ofN]
          rw [if_neg (by rw [k5]; exact e5), if_neg (by omega)]
          simp only [r_X9_next_215, r_X9_next_216, ↓reduceIte, Option.isSome_some, Option.getD_some, rL_v, rL_n, cH_s, List.cons_append, List.nil_append, cat_i, cat_r, cat_n, ofN]
        rw [W]
        unfold tkN
        by_cases w : T s = 112 ∨ T s = 115 ∨ T s = 99 ∨ T s = 108 ∨ T s = 105
        · have F1 := fin 1
          rw [if_pos w] at F1 ⊢
          rw [if_pos w]
          simp only [r_X9_next_217, r_X9_next_218, r_X9_next_219, r_X9_next_222, r_X9_next_223, ↓reduceIte, Option.isSome_some, Option.getD_some, rL_v, rL_n, cH_s, List.cons_append, List.nil_append, cat_i, cat_r, cat_n, ofN, ne10]
          exact F1
        · rw [if_neg w] at fin ⊢
          rw [if_neg w]
          simp only [r_X9_next_217, r_X9_next_218, r_X9_next_219, r_X9_next_222, r_X9_next_223, r_X9_next_226, r_X9_next_227, ↓reduceIte, Option.isSome_some, Option.getD_some, rL_v, rL_n, cH_s, List.cons_append, List.nil_append, cat_i, cat_r, cat_n, ofN]
          rw [r_X9_next_229]
          by_cases e6 : T s = 59
          · rw [if_pos (by rw [k6]; exact e6), if_pos e6]
            simp only [r_X9_next_232, r_X9_next_233, ↓reduceIte, Option.isSome_some, Option.getD_some, rL_v, rL_n, cH_s, List.cons_append, List.nil_append, cat_i, cat_r, cat_n, ofN]
            exact fin 3
          rw [if_neg (by rw [k6]; exact e6), if_neg e6, r_X9_next_236, r_X9_next_237, r_X9_next_239]
          by_cases e7 : T s = 44
          · rw [if_pos (by rw [k7]; exact e7), if_pos e7]
            simp only [r_X9_next_242, r_X9_next_243, ↓reduceIte, Option.isSome_some, Option.getD_some, rL_v, rL_n, cH_s, List.cons_append, List.nil_append, cat_i, cat_r, cat_n, ofN]
            exact fin 4
          rw [if_neg (by rw [k7]; exact e7), if_neg e7]
          simp only [r_X9_next_246, ↓reduceIte, Option.isSome_some, Option.getD_some, rL_v, rL_n, cH_s, List.cons_append, List.nil_append, cat_i, cat_r, cat_n, ofN]
          exact fin 5
      · subst hse
        exact ⟨rfl, Or.inr (Or.inr ⟨q0, q1, rfl, rfl, rfl⟩)⟩
  · have eh : hrL T n s = -1 := by unfold hrL; rw [if_neg q0]
    have p0 : ¬ nI 0 ≤ -1 := by decide
    refine ⟨nI s, nI s, nI 0, v, f, ?_, ?_⟩
    · rw [E, eh]
      simp only [r_X9_next_43, r_X9_next_44, r_X9_next_47, r_X9_next_48, r_X9_next_49, r_X9_next_52, r_X9_next_250, ↓reduceIte, Option.isSome_some, Option.getD_some, rL_v, rL_n, cH_s, List.cons_append, List.nil_append, cat_i, cat_r, cat_n, ofN, p0, rou9, gu9_0, gu9_1, gu9_2, gu9_3, pu9_3, gu9_4, gu9_5, gu9_6, gu9_7, gu9_8, gu9_9, pu9_9, gu9_10, pu9_10, gu9_11, gu9_12, gu9_13, pu9_13, gu9_14, pu9_14, gu9_15, pu9_15, gu9_16, pu9_16, gu9_17, pu9_17, gu9_18, pu9_18, gu9_19, pu9_19, gu9_20, pu9_20, gu9_21, pu9_21, gu9_22, gu9_23, gu9_24, gu9_25, gu9_26, gu9_27, pu9_27, gu9_28, gu9_29, pu9_29, gu9_30, gu9_31, gu9_32, pu9_32, gu9_33, pu9_33, gu9_34, gu9_35, gu9_36, pu9_36, gu9_37, gu9_38, pu9_38, gu9_39]
    · subst hse
      exact ⟨rfl, Or.inl ⟨q0, rfl, rfl⟩⟩
