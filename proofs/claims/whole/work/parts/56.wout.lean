/-! ===== out: the model ===== -/
theorem tb_1 {n p : Nat} (h : n.testBit p = true) : n / 2 ^ p % 2 = 1 := by
  rw [Nat.testBit_eq_decide_div_mod_eq] at h
  exact of_decide_eq_true h
theorem tb_0 {n p : Nat} (h : ¬ n.testBit p = true) : n / 2 ^ p % 2 = 0 := by
  rw [Nat.testBit_eq_decide_div_mod_eq] at h
  have : ¬ (n / 2 ^ p % 2 = 1) := fun e => h (decide_eq_true e)
  omega
set_option maxHeartbeats 4000000 in
theorem c_weightOut {h : AH} {S : SS} (hS : HOk S) (hr : RepM h S) {set tt : Nat} (hset : set < 128) (htt : tt ≤ 420) : ∃ h', Call M_X9_weightOut h [.ref 88, .int (nI set), .int (nI tt)] = some (h', some (.long (lN (Wo S set (S 12 0) tt)))) ∧ WS h h' ∧ (∃ g, h'.2.2 107 = some (jA 421 g)) ∧ ∃ g, h'.2.2 108 = some (jA 421 g) := by
  obtain ⟨⟨a, b, c, d, e, f, g, i1, i2, i3, i4, hm⟩, hA, -, -, -, -, -, ⟨w0, q107⟩, ⟨b0, q108⟩⟩ := id hr
  have m93 := hA 93 _ rfl
  have m95 := hA 95 _ rfl
  have m96 := hA 96 _ rfl
  have h7 := hS.1
  have n10 : ¬ nI 1 = nI 0 := by decide
  have LA : ∀ (k t : Nat) (H : AH) (x4 x5 x6 : Value), t + k = 421 → WS h H → (∃ g, H.2.2 107 = some (jA 421 g) ∧ ∀ u, u < t → g u = lN (Wo S set 0 u)) → (∃ g, H.2.2 108 = some (jA 421 g)) →
      ∃ H', Run M_X9_weightOut 2 [.ref 88, .int (nI set), .int (nI tt), .int (nI t), x4, x5, x6] [] H = Run M_X9_weightOut 30 [.ref 88, .int (nI set), .int (nI tt), .int (nI 421), x4, x5, x6] [] H' ∧ WS h H' ∧ WA H' (Wo S set 0) ∧ ∃ g, H'.2.2 108 = some (jA 421 g) := by
    intro k
    induction k with
    | zero =>
      intro t H x4 x5 x6 ht hw ⟨g, g1, g2⟩ hb
      have ht : t = 421 := by omega
      subst ht
      have q : nI 420 < nI 421 := by decide
      exact ⟨H, by simp only [r_X9_weightOut_2, r_X9_weightOut_3, r_X9_weightOut_6, ↓reduceIte, Option.isSome_some, Option.getD_some, rL_v, rL_n, cH_s, List.cons_append, List.nil_append, cat_i, cat_r, cat_n, ofN, q], hw, ⟨g, g1, g2⟩, hb⟩
    | succ k ih =>
      intro t H x4 x5 x6 ht hw ⟨g, g1, g2⟩ hb
      have q : ¬ nI 420 < nI t := by rw [nI_lt' (by omega) (by omega)]; omega
      have q0 : (nI t = nI 0) = (t = 0) := nI_inj (by omega) (by decide)
      have hm' := (hw.1 88 (by decide) (by decide)).trans hm
      have ht' : t < 421 := by omega
      have e : Run M_X9_weightOut 2 [.ref 88, .int (nI set), .int (nI tt), .int (nI t), x4, x5, x6] [] H = Run M_X9_weightOut 2 [.ref 88, .int (nI set), .int (nI tt), .int (nI (t + 1)), x4, x5, x6] [] (hup H 107 (jA 421 (vp_updL g t (lN (Wo S set 0 t))))) := by
        rw [r_X9_weightOut_2]
        simp only [r_X9_weightOut_3, r_X9_weightOut_6, r_X9_weightOut_9, r_X9_weightOut_10, r_X9_weightOut_13, r_X9_weightOut_14, r_X9_weightOut_15, r_X9_weightOut_18, r_X9_weightOut_19, r_X9_weightOut_22, r_X9_weightOut_23, r_X9_weightOut_24, r_X9_weightOut_27, ↓reduceIte, Option.isSome_some, Option.getD_some, rL_v, rL_n, cH_s, List.cons_append, List.nil_append, cat_i, cat_r, cat_n, ofN, q, g9_0 hm', g9_1 hm', g9_2 hm', g9_3 hm', g9_4 hm', g9_5 hm', g9_6 hm', g9_7 hm', g9_8 hm', g9_9 hm', g9_10 hm', g9_11 hm', g9_12 hm', g9_13 hm', g9_14 hm', g9_15 hm', g9_16 hm', g9_17 hm', g9_18 hm', g9_19 hm', g9_20 hm', g9_21 hm', g9_22 hm', g9_23 hm', g9_24 hm', g9_25 hm', g9_26 hm', g9_27 hm', g9_28 hm', g9_29 hm', g9_30 hm', g9_31 hm', g9_32 hm', g9_33 hm', g9_34 hm', g9_35 hm', g9_36 hm', g9_37 hm', g9_38 hm', g9_39 hm', ro9 hm', q0, nI_add, pJ_nI g1 (by decide) (by decide) ht', Wo]
        split <;> rfl
      obtain ⟨hb1, hb2⟩ := hb
      obtain ⟨H', r1, r2⟩ := ih (t + 1) _ x4 x5 x6 (by omega) (hw.up (a := 107) (c := jA 421 (vp_updL g t (lN (Wo S set 0 t)))) (Or.inl rfl)) ⟨_, hup_get, fun u hu => by
        by_cases h1 : u = t
        · subst h1; simp [vp_updL]
        · simp only [vp_updL]; rw [if_neg h1]; exact g2 u (by omega)⟩ ⟨hb1, (hup_ne (by decide)).trans hb2⟩
      exact ⟨H', e.trans r1, r2⟩
  have LB : ∀ (k t p : Nat) (H : AH) (F : Nat → Nat) (x5 x6 : Value), t + k = 421 → p < S 12 0 → WS h H → (∃ g, H.2.2 107 = some (jA 421 g) ∧ ∀ u, u < 421 → g u = lN (if u < t then (if set.testBit p = true then F u * (S 4 p * S 6 p) else 0) else F u)) → (∃ g, H.2.2 108 = some (jA 421 g) ∧ ∀ u, u < t → g u = lN (F u)) →
      ∃ H', Run M_X9_weightOut 43 [.ref 88, .int (nI set), .int (nI tt), .int (nI p), .int (nI t), x5, x6] [] H = Run M_X9_weightOut 113 [.ref 88, .int (nI set), .int (nI tt), .int (nI p), .int (nI 421), x5, x6] [] H' ∧ WS h H' ∧ WA H' (fun u => if set.testBit p = true then F u * (S 4 p * S 6 p) else 0) ∧ WB H' F := by
    intro k
    induction k with
    | zero =>
      intro t p H F x5 x6 ht hp hw ⟨g, g1, g2⟩ ⟨gb, gb1, gb2⟩
      have ht : t = 421 := by omega
      subst ht
      have q : nI 420 < nI 421 := by decide
      exact ⟨H, by simp only [r_X9_weightOut_43, r_X9_weightOut_45, r_X9_weightOut_48, ↓reduceIte, Option.isSome_some, Option.getD_some, rL_v, rL_n, cH_s, List.cons_append, List.nil_append, cat_i, cat_r, cat_n, ofN, q], hw, ⟨g, g1, fun u hu => by rw [g2 u hu, if_pos hu]⟩, ⟨gb, gb1, gb2⟩⟩
    | succ k ih =>
      intro t p H F x5 x6 ht hp hw ⟨g, g1, g2⟩ ⟨gb, gb1, gb2⟩
      have q : ¬ nI 420 < nI t := by rw [nI_lt' (by omega) (by omega)]; omega
      have hm' := (hw.1 88 (by decide) (by decide)).trans hm
      obtain ⟨k1, k2, k3, k4, k5, k6⟩ := hS.2 p hp
      have ht' : t < 421 := by omega
      have gt : g t = lN (F t) := by rw [g2 t ht', if_neg (by omega)]
      have e1 : (nI (S 4 p)).toInt64 = lN (S 4 p) := nI_l (by omega)
      have e2 : (nI (S 6 p)).toInt64 = lN (S 6 p) := nI_l (by omega)
      generalize hH1 : hup H 108 (jA 421 (vp_updL gb t (lN (F t)))) = H1
      have w1 : WS h H1 := by rw [← hH1]; exact hw.up (Or.inr rfl)
      have hm1 := (w1.1 88 (by decide) (by decide)).trans hm
      have m931 := (w1.1 93 (by decide) (by decide)).trans m93
      have m951 := (w1.1 95 (by decide) (by decide)).trans m95
      have b1 : H1.2.2 108 = some (jA 421 (vp_updL gb t (lN (F t)))) := by rw [← hH1]; exact hup_get
      have c1 : H1.2.2 107 = some (jA 421 g) := by rw [← hH1]; exact (hup_ne (by decide)).trans g1
      have bt : vp_updL gb t (lN (F t)) t = lN (F t) := by simp [vp_updL]
      have e : Run M_X9_weightOut 43 [.ref 88, .int (nI set), .int (nI tt), .int (nI p), .int (nI t), x5, x6] [] H = Run M_X9_weightOut 43 [.ref 88, .int (nI set), .int (nI tt), .int (nI p), .int (nI (t + 1)), x5, x6] [] (hup H1 107 (jA 421 (vp_updL g t (lN (if set.testBit p = true then F t * (S 4 p * S 6 p) else 0))))) := by
        rw [r_X9_weightOut_43]
        simp only [r_X9_weightOut_45, r_X9_weightOut_48, r_X9_weightOut_51, r_X9_weightOut_52, r_X9_weightOut_55, r_X9_weightOut_57, r_X9_weightOut_58, r_X9_weightOut_61, r_X9_weightOut_63, r_X9_weightOut_64, ↓reduceIte, Option.isSome_some, Option.getD_some, rL_v, rL_n, cH_s, List.cons_append, List.nil_append, cat_i, cat_r, cat_n, ofN, q, g9_0 hm', g9_1 hm', g9_2 hm', g9_3 hm', g9_4 hm', g9_5 hm', g9_6 hm', g9_7 hm', g9_8 hm', g9_9 hm', g9_10 hm', g9_11 hm', g9_12 hm', g9_13 hm', g9_14 hm', g9_15 hm', g9_16 hm', g9_17 hm', g9_18 hm', g9_19 hm', g9_20 hm', g9_21 hm', g9_22 hm', g9_23 hm', g9_24 hm', g9_25 hm', g9_26 hm', g9_27 hm', g9_28 hm', g9_29 hm', g9_30 hm', g9_31 hm', g9_32 hm', g9_33 hm', g9_34 hm', g9_35 hm', g9_36 hm', g9_37 hm', g9_38 hm', g9_39 hm', ro9 hm', gJ_nI g1 (by decide) (by decide) ht', gt, pJ_nI gb1 (by decide) (by decide) ht', hH1]
        by_cases tb : set.testBit p = true
        · rw [if_pos tb, ← Nat.mul_assoc]
          simp only [r_X9_weightOut_65, r_X9_weightOut_66, r_X9_weightOut_69, r_X9_weightOut_71, r_X9_weightOut_72, r_X9_weightOut_73, r_X9_weightOut_76, r_X9_weightOut_79, r_X9_weightOut_80, r_X9_weightOut_83, r_X9_weightOut_85, r_X9_weightOut_86, r_X9_weightOut_87, r_X9_weightOut_90, r_X9_weightOut_91, r_X9_weightOut_92, r_X9_weightOut_93, r_X9_weightOut_94, r_X9_weightOut_95, r_X9_weightOut_98, r_X9_weightOut_99, r_X9_weightOut_100, r_X9_weightOut_101, r_X9_weightOut_102, r_X9_weightOut_106, r_X9_weightOut_107, r_X9_weightOut_110, ↓reduceIte, Option.isSome_some, Option.getD_some, rL_v, rL_n, cH_s, List.cons_append, List.nil_append, cat_i, cat_r, cat_n, ofN, g9_0 hm1, g9_1 hm1, g9_2 hm1, g9_3 hm1, g9_4 hm1, g9_5 hm1, g9_6 hm1, g9_7 hm1, g9_8 hm1, g9_9 hm1, g9_10 hm1, g9_11 hm1, g9_12 hm1, g9_13 hm1, g9_14 hm1, g9_15 hm1, g9_16 hm1, g9_17 hm1, g9_18 hm1, g9_19 hm1, g9_20 hm1, g9_21 hm1, g9_22 hm1, g9_23 hm1, g9_24 hm1, g9_25 hm1, g9_26 hm1, g9_27 hm1, g9_28 hm1, g9_29 hm1, g9_30 hm1, g9_31 hm1, g9_32 hm1, g9_33 hm1, g9_34 hm1, g9_35 hm1, g9_36 hm1, g9_37 hm1, g9_38 hm1, g9_39 hm1, ro9 hm1, c_has (show set < 2147483648 by omega) (show p < 8 by omega), tb_1 tb, n10, gJ_nI b1 (by decide) (by decide) ht', bt, gI_nI m931 (by decide) (show p < 7 by omega), gI_nI m951 (by decide) (show p < 7 by omega), e1, e2, lN_mul, pJ_nI c1 (by decide) (by decide) ht', nI_add]
        · rw [if_neg tb]
          simp only [r_X9_weightOut_65, r_X9_weightOut_66, r_X9_weightOut_69, r_X9_weightOut_71, r_X9_weightOut_72, r_X9_weightOut_73, r_X9_weightOut_76, r_X9_weightOut_105, r_X9_weightOut_106, r_X9_weightOut_107, r_X9_weightOut_110, ↓reduceIte, Option.isSome_some, Option.getD_some, rL_v, rL_n, cH_s, List.cons_append, List.nil_append, cat_i, cat_r, cat_n, ofN, g9_0 hm1, g9_1 hm1, g9_2 hm1, g9_3 hm1, g9_4 hm1, g9_5 hm1, g9_6 hm1, g9_7 hm1, g9_8 hm1, g9_9 hm1, g9_10 hm1, g9_11 hm1, g9_12 hm1, g9_13 hm1, g9_14 hm1, g9_15 hm1, g9_16 hm1, g9_17 hm1, g9_18 hm1, g9_19 hm1, g9_20 hm1, g9_21 hm1, g9_22 hm1, g9_23 hm1, g9_24 hm1, g9_25 hm1, g9_26 hm1, g9_27 hm1, g9_28 hm1, g9_29 hm1, g9_30 hm1, g9_31 hm1, g9_32 hm1, g9_33 hm1, g9_34 hm1, g9_35 hm1, g9_36 hm1, g9_37 hm1, g9_38 hm1, g9_39 hm1, ro9 hm1, c_has (show set < 2147483648 by omega) (show p < 8 by omega), tb_0 tb, pJ_nI c1 (by decide) (by decide) ht', nI_add]
      obtain ⟨H', r1, r2⟩ := ih (t + 1) p _ F x5 x6 (by omega) hp (w1.up (a := 107) (c := jA 421 (vp_updL g t (lN (if set.testBit p = true then F t * (S 4 p * S 6 p) else 0)))) (Or.inl rfl)) ⟨_, hup_get, fun u hu => by
        by_cases h1 : u = t
        · subst h1; rw [if_pos (show u < u + 1 by omega)]; simp only [vp_updL, if_true]
        · simp only [vp_updL]; rw [if_neg h1, g2 u hu]
          by_cases h2 : u < t
          · rw [if_pos h2, if_pos (show u < t + 1 by omega)]
          · rw [if_neg h2, if_neg (show ¬ u < t + 1 by omega)]⟩ ⟨_, (hup_ne (by decide)).trans b1, fun u hu => by
        by_cases h1 : u = t
        · subst h1; exact bt
        · simp only [vp_updL]; rw [if_neg h1]; exact gb2 u (by omega)⟩
      exact ⟨H', e.trans r1, r2⟩
  have LD : ∀ (k t p i len : Nat) (H : AH) (F G : Nat → Nat), t + k = 421 → len ≤ t → p < S 12 0 → WS h H → (∃ g, H.2.2 107 = some (jA 421 g) ∧ ∀ u, u < 421 → g u = lN (G u + if len ≤ u ∧ u < t then F (u - len) * (8 - S 4 p) else 0)) → WB H F →
      ∃ H', Run M_X9_weightOut 152 [.ref 88, .int (nI set), .int (nI tt), .int (nI p), .int (nI i), .int (nI len), .int (nI t)] [] H = Run M_X9_weightOut 197 [.ref 88, .int (nI set), .int (nI tt), .int (nI p), .int (nI i), .int (nI len), .int (nI 421)] [] H' ∧ WS h H' ∧ WA H' (fun u => G u + if len ≤ u then F (u - len) * (8 - S 4 p) else 0) ∧ WB H' F := by
    intro k
    induction k with
    | zero =>
      intro t p i len H F G ht hl hp hw ⟨g, g1, g2⟩ hb
      have ht : t = 421 := by omega
      subst ht
      have q : nI 420 < nI 421 := by decide
      exact ⟨H, by simp only [r_X9_weightOut_152, r_X9_weightOut_154, r_X9_weightOut_157, ↓reduceIte, Option.isSome_some, Option.getD_some, rL_v, rL_n, cH_s, List.cons_append, List.nil_append, cat_i, cat_r, cat_n, ofN, q], hw, ⟨g, g1, fun u hu => by
        rw [g2 u hu]
        dsimp only
        by_cases h1 : len ≤ u
        · rw [if_pos ⟨h1, hu⟩, if_pos h1]
        · rw [if_neg (fun z => h1 z.1), if_neg h1]⟩, hb⟩
    | succ k ih =>
      intro t p i len H F G ht hl hp hw ⟨g, g1, g2⟩ ⟨gb, gb1, gb2⟩
      have q : ¬ nI 420 < nI t := by rw [nI_lt' (by omega) (by omega)]; omega
      have hm' := (hw.1 88 (by decide) (by decide)).trans hm
      have m93' := (hw.1 93 (by decide) (by decide)).trans m93
      obtain ⟨k1, k2, k3, k4, k5, k6⟩ := hS.2 p hp
      have ht' : t < 421 := by omega
      have gt : g t = lN (G t) := by rw [g2 t ht', if_neg (by omega)]; rfl
      have e1 : (nI (8 - S 4 p)).toInt64 = lN (8 - S 4 p) := nI_l (by omega)
      have e : Run M_X9_weightOut 152 [.ref 88, .int (nI set), .int (nI tt), .int (nI p), .int (nI i), .int (nI len), .int (nI t)] [] H = Run M_X9_weightOut 152 [.ref 88, .int (nI set), .int (nI tt), .int (nI p), .int (nI i), .int (nI len), .int (nI (t + 1))] [] (hup H 107 (jA 421 (vp_updL g t (lN (G t + F (t - len) * (8 - S 4 p)))))) := by
        rw [r_X9_weightOut_152]
        simp only [r_X9_weightOut_154, r_X9_weightOut_157, r_X9_weightOut_160, r_X9_weightOut_161, r_X9_weightOut_164, r_X9_weightOut_166, r_X9_weightOut_167, r_X9_weightOut_168, r_X9_weightOut_169, r_X9_weightOut_172, r_X9_weightOut_174, r_X9_weightOut_176, r_X9_weightOut_177, r_X9_weightOut_178, r_X9_weightOut_180, r_X9_weightOut_181, r_X9_weightOut_184, r_X9_weightOut_185, r_X9_weightOut_186, r_X9_weightOut_187, r_X9_weightOut_188, r_X9_weightOut_189, r_X9_weightOut_190, r_X9_weightOut_191, r_X9_weightOut_194, ↓reduceIte, Option.isSome_some, Option.getD_some, rL_v, rL_n, cH_s, List.cons_append, List.nil_append, cat_i, cat_r, cat_n, ofN, q, g9_0 hm', g9_1 hm', g9_2 hm', g9_3 hm', g9_4 hm', g9_5 hm', g9_6 hm', g9_7 hm', g9_8 hm', g9_9 hm', g9_10 hm', g9_11 hm', g9_12 hm', g9_13 hm', g9_14 hm', g9_15 hm', g9_16 hm', g9_17 hm', g9_18 hm', g9_19 hm', g9_20 hm', g9_21 hm', g9_22 hm', g9_23 hm', g9_24 hm', g9_25 hm', g9_26 hm', g9_27 hm', g9_28 hm', g9_29 hm', g9_30 hm', g9_31 hm', g9_32 hm', g9_33 hm', g9_34 hm', g9_35 hm', g9_36 hm', g9_37 hm', g9_38 hm', g9_39 hm', ro9 hm', gJ_nI g1 (by decide) (by decide) ht', gt, nI_s hl, gJ_nI gb1 (by decide) (by decide) (show t - len < 421 by omega), gb2 (t - len) (by omega), gI_nI m93' (by decide) (show p < 7 by omega), nI_s (show S 4 p ≤ 8 by omega), e1, lN_mul, lN_add, pJ_nI g1 (by decide) (by decide) ht', nI_add]
      obtain ⟨H', r1, r2⟩ := ih (t + 1) p i len _ F G (by omega) (by omega) hp (hw.up (a := 107) (c := jA 421 (vp_updL g t (lN (G t + F (t - len) * (8 - S 4 p))))) (Or.inl rfl)) ⟨_, hup_get, fun u hu => by
        by_cases h1 : u = t
        · subst h1; simp only [vp_updL, if_true]; rw [if_pos (by omega)]
        · simp only [vp_updL]; rw [if_neg h1, g2 u hu]
          by_cases h2 : len ≤ u ∧ u < t
          · rw [if_pos h2, if_pos (by omega)]
          · rw [if_neg h2, if_neg (by omega)]⟩ ⟨gb, (hup_ne (by decide)).trans gb1, gb2⟩
      exact ⟨H', e.trans r1, r2⟩
  have LC : ∀ (k i p : Nat) (H : AH) (F : Nat → Nat) (x5 x6 : Value), i + k = S 6 p → p < S 12 0 → ¬ set.testBit p = true → WS h H → WA H (fun u => sm (fun j => if S 7 (4 * p + j) ≤ u then F (u - S 7 (4 * p + j)) * (8 - S 4 p) else 0) i) → WB H F →
      ∃ H' x4' x5' x6', Run M_X9_weightOut 116 [.ref 88, .int (nI set), .int (nI tt), .int (nI p), .int (nI i), x5, x6] [] H = Run M_X9_weightOut 203 [.ref 88, .int (nI set), .int (nI tt), .int (nI p), x4', x5', x6'] [] H' ∧ WS h H' ∧ WA H' (fun u => sm (fun j => if S 7 (4 * p + j) ≤ u then F (u - S 7 (4 * p + j)) * (8 - S 4 p) else 0) (S 6 p)) ∧ WB H' F := by
    intro k
    induction k with
    | zero =>
      intro i p H F x5 x6 hi hp tb hw hWA hWB
      have hi : i = S 6 p := by omega
      subst hi
      have hm' := (hw.1 88 (by decide) (by decide)).trans hm
      have m95' := (hw.1 95 (by decide) (by decide)).trans m95
      exact ⟨H, .int (nI (S 6 p)), x5, x6, by simp only [r_X9_weightOut_116, r_X9_weightOut_118, r_X9_weightOut_119, r_X9_weightOut_122, r_X9_weightOut_123, r_X9_weightOut_124, ↓reduceIte, Option.isSome_some, Option.getD_some, rL_v, rL_n, cH_s, List.cons_append, List.nil_append, cat_i, cat_r, cat_n, ofN, g9_0 hm', g9_1 hm', g9_2 hm', g9_3 hm', g9_4 hm', g9_5 hm', g9_6 hm', g9_7 hm', g9_8 hm', g9_9 hm', g9_10 hm', g9_11 hm', g9_12 hm', g9_13 hm', g9_14 hm', g9_15 hm', g9_16 hm', g9_17 hm', g9_18 hm', g9_19 hm', g9_20 hm', g9_21 hm', g9_22 hm', g9_23 hm', g9_24 hm', g9_25 hm', g9_26 hm', g9_27 hm', g9_28 hm', g9_29 hm', g9_30 hm', g9_31 hm', g9_32 hm', g9_33 hm', g9_34 hm', g9_35 hm', g9_36 hm', g9_37 hm', g9_38 hm', g9_39 hm', ro9 hm', gI_nI m95' (by decide) (show p < 7 by omega), Int32.le_refl], hw, hWA, hWB⟩
    | succ k ih =>
      intro i p H F x5 x6 hi hp tb hw hWA hWB
      have hm' := (hw.1 88 (by decide) (by decide)).trans hm
      have m95' := (hw.1 95 (by decide) (by decide)).trans m95
      have m96' := (hw.1 96 (by decide) (by decide)).trans m96
      obtain ⟨k1, k2, k3, k4, k5, k6⟩ := hS.2 p hp
      have kl := k6 i (by omega)
      have q : ¬ nI (S 6 p) ≤ nI i := by rw [nI_le' (by omega) (by omega)]; omega
      obtain ⟨g, g1, g2⟩ := hWA
      obtain ⟨H1, r1, r2, r3, r4⟩ := LD (421 - S 7 (4 * p + i)) (S 7 (4 * p + i)) p i (S 7 (4 * p + i)) H F (fun u => sm (fun j => if S 7 (4 * p + j) ≤ u then F (u - S 7 (4 * p + j)) * (8 - S 4 p) else 0) i) (by omega) (Nat.le_refl _) hp hw ⟨g, g1, fun u hu => by rw [g2 u hu, if_neg (by omega)]; rfl⟩ hWB
      obtain ⟨H2, y4, y5, y6, s1, s2⟩ := ih (i + 1) p H1 F (.int (nI (S 7 (4 * p + i)))) (.int (nI 421)) (by omega) hp tb r2 (by
        obtain ⟨g', z1, z2⟩ := r3
        exact ⟨g', z1, fun u hu => by rw [z2 u hu]; dsimp only [sm]⟩) r4
      refine ⟨H2, y4, y5, y6, ?_, s2⟩
      rw [← s1]
      rw [r_X9_weightOut_116]
      simp only [r_X9_weightOut_118, r_X9_weightOut_119, r_X9_weightOut_122, r_X9_weightOut_123, r_X9_weightOut_124, r_X9_weightOut_127, r_X9_weightOut_128, r_X9_weightOut_129, r_X9_weightOut_132, r_X9_weightOut_135, r_X9_weightOut_136, r_X9_weightOut_139, r_X9_weightOut_140, r_X9_weightOut_141, r_X9_weightOut_142, r_X9_weightOut_144, r_X9_weightOut_145, r_X9_weightOut_146, r_X9_weightOut_148, r_X9_weightOut_150, ↓reduceIte, Option.isSome_some, Option.getD_some, rL_v, rL_n, cH_s, List.cons_append, List.nil_append, cat_i, cat_r, cat_n, ofN, g9_0 hm', g9_1 hm', g9_2 hm', g9_3 hm', g9_4 hm', g9_5 hm', g9_6 hm', g9_7 hm', g9_8 hm', g9_9 hm', g9_10 hm', g9_11 hm', g9_12 hm', g9_13 hm', g9_14 hm', g9_15 hm', g9_16 hm', g9_17 hm', g9_18 hm', g9_19 hm', g9_20 hm', g9_21 hm', g9_22 hm', g9_23 hm', g9_24 hm', g9_25 hm', g9_26 hm', g9_27 hm', g9_28 hm', g9_29 hm', g9_30 hm', g9_31 hm', g9_32 hm', g9_33 hm', g9_34 hm', g9_35 hm', g9_36 hm', g9_37 hm', g9_38 hm', g9_39 hm', ro9 hm', gI_nI m95' (by decide) (show p < 7 by omega), q, c_has (show set < 2147483648 by omega) (show p < 8 by omega), tb_0 tb, nI_m, nI_add, gI_nI m96' (by decide) (show 4 * p + i < 28 by omega)]
      rw [r1]
      simp only [r_X9_weightOut_197, r_X9_weightOut_200, ↓reduceIte, Option.isSome_some, Option.getD_some, rL_v, rL_n, cH_s, List.cons_append, List.nil_append, cat_i, cat_r, cat_n, ofN, nI_add]
  have LP : ∀ (k p : Nat) (H : AH) (x4 x5 x6 : Value), p + k = S 12 0 → WS h H → WA H (Wo S set p) → (∃ g, H.2.2 108 = some (jA 421 g)) →
      ∃ h', Run M_X9_weightOut 32 [.ref 88, .int (nI set), .int (nI tt), .int (nI p), x4, x5, x6] [] H = some (h', some (.long (lN (Wo S set (S 12 0) tt)))) ∧ WS h h' ∧ (∃ g, h'.2.2 107 = some (jA 421 g)) ∧ ∃ g, h'.2.2 108 = some (jA 421 g) := by
    intro k
    induction k with
    | zero =>
      intro p H x4 x5 x6 hp hw hWA hb
      have hp : p = S 12 0 := by omega
      subst hp
      have hm' := (hw.1 88 (by decide) (by decide)).trans hm
      obtain ⟨g, g1, g2⟩ := hWA
      exact ⟨H, by simp only [r_X9_weightOut_32, r_X9_weightOut_33, r_X9_weightOut_34, r_X9_weightOut_37, r_X9_weightOut_209, r_X9_weightOut_210, r_X9_weightOut_213, r_X9_weightOut_214, r_X9_weightOut_215, ↓reduceIte, Option.isSome_some, Option.getD_some, rL_v, rL_n, cH_s, List.cons_append, List.nil_append, cat_i, cat_r, cat_n, ofN, g9_0 hm', g9_1 hm', g9_2 hm', g9_3 hm', g9_4 hm', g9_5 hm', g9_6 hm', g9_7 hm', g9_8 hm', g9_9 hm', g9_10 hm', g9_11 hm', g9_12 hm', g9_13 hm', g9_14 hm', g9_15 hm', g9_16 hm', g9_17 hm', g9_18 hm', g9_19 hm', g9_20 hm', g9_21 hm', g9_22 hm', g9_23 hm', g9_24 hm', g9_25 hm', g9_26 hm', g9_27 hm', g9_28 hm', g9_29 hm', g9_30 hm', g9_31 hm', g9_32 hm', g9_33 hm', g9_34 hm', g9_35 hm', g9_36 hm', g9_37 hm', g9_38 hm', g9_39 hm', ro9 hm', Int32.le_refl, gJ_nI g1 (by decide) (by decide) (show tt < 421 by omega), g2 tt (by omega)], hw, ⟨g, g1⟩, hb⟩
    | succ k ih =>
      intro p H x4 x5 x6 hp hw hWA ⟨gb, hb⟩
      have hm' := (hw.1 88 (by decide) (by decide)).trans hm
      obtain ⟨k1, k2, k3, k4, k5, k6⟩ := hS.2 p (by omega)
      have q : ¬ nI (S 12 0) ≤ nI p := by rw [nI_le' (by omega) (by omega)]; omega
      obtain ⟨g, g1, g2⟩ := hWA
      obtain ⟨H1, r1, r2, r3, r4⟩ := LB 421 0 p H (Wo S set p) x5 x6 (by omega) (by omega) hw ⟨g, g1, fun u hu => by rw [g2 u hu, if_neg (show ¬ u < 0 by omega)]⟩ ⟨gb, hb, fun u hu => by omega⟩
      by_cases tb : set.testBit p = true
      · obtain ⟨gb2, hb2, -⟩ := r4
        have hm1 := (r2.1 88 (by decide) (by decide)).trans hm
        have m95' := (r2.1 95 (by decide) (by decide)).trans m95
        have q1 : ¬ nI (S 6 p) ≤ nI 0 := by rw [nI_le' (by omega) (by omega)]; omega
        obtain ⟨h', t1, t2⟩ := ih (p + 1) H1 (.int (nI 0)) x5 x6 (by omega) r2 (by
          obtain ⟨g', z1, z2⟩ := r3
          exact ⟨g', z1, fun u hu => by rw [z2 u hu]; dsimp only [Wo]; rw [if_pos tb, if_pos tb]⟩) ⟨gb2, hb2⟩
        refine ⟨h', ?_, t2⟩
        rw [← t1, r_X9_weightOut_32]
        simp only [r_X9_weightOut_33, r_X9_weightOut_34, r_X9_weightOut_37, r_X9_weightOut_40, r_X9_weightOut_41, ↓reduceIte, Option.isSome_some, Option.getD_some, rL_v, rL_n, cH_s, List.cons_append, List.nil_append, cat_i, cat_r, cat_n, ofN, q, g9_0 hm', g9_1 hm', g9_2 hm', g9_3 hm', g9_4 hm', g9_5 hm', g9_6 hm', g9_7 hm', g9_8 hm', g9_9 hm', g9_10 hm', g9_11 hm', g9_12 hm', g9_13 hm', g9_14 hm', g9_15 hm', g9_16 hm', g9_17 hm', g9_18 hm', g9_19 hm', g9_20 hm', g9_21 hm', g9_22 hm', g9_23 hm', g9_24 hm', g9_25 hm', g9_26 hm', g9_27 hm', g9_28 hm', g9_29 hm', g9_30 hm', g9_31 hm', g9_32 hm', g9_33 hm', g9_34 hm', g9_35 hm', g9_36 hm', g9_37 hm', g9_38 hm', g9_39 hm', ro9 hm']
        rw [r1]
        simp only [r_X9_weightOut_113, r_X9_weightOut_114, r_X9_weightOut_116, r_X9_weightOut_118, r_X9_weightOut_119, r_X9_weightOut_122, r_X9_weightOut_123, r_X9_weightOut_124, r_X9_weightOut_127, r_X9_weightOut_128, r_X9_weightOut_129, r_X9_weightOut_132, r_X9_weightOut_203, r_X9_weightOut_206, ↓reduceIte, Option.isSome_some, Option.getD_some, rL_v, rL_n, cH_s, List.cons_append, List.nil_append, cat_i, cat_r, cat_n, ofN, g9_0 hm1, g9_1 hm1, g9_2 hm1, g9_3 hm1, g9_4 hm1, g9_5 hm1, g9_6 hm1, g9_7 hm1, g9_8 hm1, g9_9 hm1, g9_10 hm1, g9_11 hm1, g9_12 hm1, g9_13 hm1, g9_14 hm1, g9_15 hm1, g9_16 hm1, g9_17 hm1, g9_18 hm1, g9_19 hm1, g9_20 hm1, g9_21 hm1, g9_22 hm1, g9_23 hm1, g9_24 hm1, g9_25 hm1, g9_26 hm1, g9_27 hm1, g9_28 hm1, g9_29 hm1, g9_30 hm1, g9_31 hm1, g9_32 hm1, g9_33 hm1, g9_34 hm1, g9_35 hm1, g9_36 hm1, g9_37 hm1, g9_38 hm1, g9_39 hm1, ro9 hm1, gI_nI m95' (by decide) (show p < 7 by omega), q1, c_has (show set < 2147483648 by omega) (show p < 8 by omega), tb_1 tb, n10, nI_add]
      · obtain ⟨H2, y4, y5, y6, s1, s2, s3, s4⟩ := LC (S 6 p) 0 p H1 (Wo S set p) x5 x6 (by omega) (by omega) tb r2 (by
          obtain ⟨g', z1, z2⟩ := r3
          exact ⟨g', z1, fun u hu => by rw [z2 u hu]; dsimp only [sm]; rw [if_neg tb]⟩) r4
        obtain ⟨gb2, hb2, -⟩ := s4
        obtain ⟨h', t1, t2⟩ := ih (p + 1) H2 y4 y5 y6 (by omega) s2 (by
          obtain ⟨g', z1, z2⟩ := s3
          exact ⟨g', z1, fun u hu => by rw [z2 u hu]; dsimp only [Wo]; rw [if_neg tb]⟩) ⟨gb2, hb2⟩
        refine ⟨h', ?_, t2⟩
        rw [← t1, r_X9_weightOut_32]
        simp only [r_X9_weightOut_33, r_X9_weightOut_34, r_X9_weightOut_37, r_X9_weightOut_40, r_X9_weightOut_41, ↓reduceIte, Option.isSome_some, Option.getD_some, rL_v, rL_n, cH_s, List.cons_append, List.nil_append, cat_i, cat_r, cat_n, ofN, q, g9_0 hm', g9_1 hm', g9_2 hm', g9_3 hm', g9_4 hm', g9_5 hm', g9_6 hm', g9_7 hm', g9_8 hm', g9_9 hm', g9_10 hm', g9_11 hm', g9_12 hm', g9_13 hm', g9_14 hm', g9_15 hm', g9_16 hm', g9_17 hm', g9_18 hm', g9_19 hm', g9_20 hm', g9_21 hm', g9_22 hm', g9_23 hm', g9_24 hm', g9_25 hm', g9_26 hm', g9_27 hm', g9_28 hm', g9_29 hm', g9_30 hm', g9_31 hm', g9_32 hm', g9_33 hm', g9_34 hm', g9_35 hm', g9_36 hm', g9_37 hm', g9_38 hm', g9_39 hm', ro9 hm']
        rw [r1]
        simp only [r_X9_weightOut_113, r_X9_weightOut_114, ↓reduceIte, Option.isSome_some, Option.getD_some, rL_v, rL_n, cH_s, List.cons_append, List.nil_append, cat_i, cat_r, cat_n, ofN]
        rw [s1]
        simp only [r_X9_weightOut_203, r_X9_weightOut_206, ↓reduceIte, Option.isSome_some, Option.getD_some, rL_v, rL_n, cH_s, List.cons_append, List.nil_append, cat_i, cat_r, cat_n, ofN, nI_add]
  obtain ⟨H1, r1, r2, r3, r4⟩ := LA 421 0 h .null .null .null (by omega) ⟨fun _ _ _ => rfl, rfl, rfl⟩ ⟨w0, q107, fun u hu => by omega⟩ ⟨b0, q108⟩
  obtain ⟨h', s1, s2⟩ := LP (S 12 0) 0 H1 .null .null .null (by omega) r2 r3 r4
  refine ⟨h', ?_, s2⟩
  show Run M_X9_weightOut 0 [.ref 88, .int (nI set), .int (nI tt), .null, .null, .null, .null] [] h = _
  simp only [r_X9_weightOut_0, r_X9_weightOut_1, ↓reduceIte, Option.isSome_some, Option.getD_some, rL_v, rL_n, cH_s, List.cons_append, List.nil_append, cat_i, cat_r, cat_n, ofN]
  rw [r1]
  simp only [r_X9_weightOut_30, r_X9_weightOut_31, ↓reduceIte, Option.isSome_some, Option.getD_some, rL_v, rL_n, cH_s, List.cons_append, List.nil_append, cat_i, cat_r, cat_n, ofN]
  exact s1
/-- may all of these be left out -/
def mbB (S : SS) (set : Nat) : Nat → Bool
  | 0 => true
  | p + 1 => mbB S set p && (!(set.testBit p) || decide (0 < S 4 p))
theorem Wo_mb (S : SS) (set : Nat) : ∀ p t, mbB S set p = false → Wo S set p t = 0
  | 0, t, h => by cases h
  | p + 1, t, h => by
    simp only [Wo]
    by_cases q : mbB S set p = false
    · by_cases tb : set.testBit p = true
      · rw [if_pos tb, Wo_mb S set p t q, Nat.zero_mul]
      · rw [if_neg tb]
        apply sm_zero
        intro i hi
        split
        · rw [Wo_mb S set p _ q, Nat.zero_mul]
        · rfl
    · have q' : mbB S set p = true := by cases hq : mbB S set p <;> simp_all
      simp only [mbB, q', Bool.true_and, Bool.or_eq_false_iff, Bool.not_eq_false', decide_eq_false_iff_not] at h
      rw [if_pos h.1, show S 4 p = 0 by omega, Nat.zero_mul, Nat.mul_zero]
theorem c_mayBeOut {h : AH} {S : SS} (hS : HOk S) (hr : RepM h S) {set : Nat} (hset : set < 128) : Call M_X9_mayBeOut h [.ref 88, .int (nI set)] = some (h, some (.int (bI (mbB S set (S 12 0) = true)))) := by
  obtain ⟨⟨a, b, c, d, e, f, g, i1, i2, i3, i4, hm⟩, hA, -⟩ := id hr
  have m93 := hA 93 _ rfl
  have h7 := hS.1
  have n10 : ¬ nI 1 = nI 0 := by decide
  have L : ∀ k p, p + k = S 12 0 → Run M_X9_mayBeOut 4 [.ref 88, .int (nI set), .int (bI (mbB S set p = true)), .int (nI p)] [] h = some (h, some (.int (bI (mbB S set (S 12 0) = true)))) := by
    intro k
    induction k with
    | zero =>
      intro p hp
      have e : p = S 12 0 := by omega
      subst e
      have nb : bI (mbB S set (S 12 0) = true) = nI 0 ∨ bI (mbB S set (S 12 0) = true) = nI 1 := by unfold bI; split <;> simp
      rcases nb with nb | nb <;> rw [nb] <;> simp only [r_X9_mayBeOut_4, r_X9_mayBeOut_5, r_X9_mayBeOut_6, r_X9_mayBeOut_9, r_X9_mayBeOut_45, r_X9_mayBeOut_46_0, r_X9_mayBeOut_46_1, r_X9_mayBeOut_46_c, ↓reduceIte, Option.isSome_some, Option.getD_some, rL_v, rL_n, cH_s, List.cons_append, List.nil_append, cat_i, cat_r, cat_n, ofN, g9_0 hm, g9_1 hm, g9_2 hm, g9_3 hm, g9_4 hm, g9_5 hm, g9_6 hm, g9_7 hm, g9_8 hm, g9_9 hm, g9_10 hm, g9_11 hm, g9_12 hm, g9_13 hm, g9_14 hm, g9_15 hm, g9_16 hm, g9_17 hm, g9_18 hm, g9_19 hm, g9_20 hm, g9_21 hm, g9_22 hm, g9_23 hm, g9_24 hm, g9_25 hm, g9_26 hm, g9_27 hm, g9_28 hm, g9_29 hm, g9_30 hm, g9_31 hm, g9_32 hm, g9_33 hm, g9_34 hm, g9_35 hm, g9_36 hm, g9_37 hm, g9_38 hm, g9_39 hm, ro9 hm, Int32.le_refl]
    | succ k ih =>
      intro p hp
      obtain ⟨k1, k2, k3, k4, k5, k6⟩ := hS.2 p (by omega)
      have q : ¬ nI (S 12 0) ≤ nI p := by rw [nI_le' (by omega) (by omega)]; omega
      have I := ih (p + 1) (by omega)
      have cz : (nI (S 4 p) ≤ nI 0) = (S 4 p ≤ 0) := nI_le' (by omega) (by decide)
      rw [r_X9_mayBeOut_4]
      by_cases q1 : mbB S set p = true
      · by_cases tb : set.testBit p = true
        · by_cases z : S 4 p ≤ 0
          · have e : ¬ mbB S set (p + 1) = true := by simp only [mbB, q1, tb]; simp; omega
            rw [bI_f e] at I
            simp only [r_X9_mayBeOut_5, r_X9_mayBeOut_6, r_X9_mayBeOut_9, r_X9_mayBeOut_12, r_X9_mayBeOut_13, r_X9_mayBeOut_16, r_X9_mayBeOut_17, r_X9_mayBeOut_18, r_X9_mayBeOut_21, r_X9_mayBeOut_24, r_X9_mayBeOut_25, r_X9_mayBeOut_28, r_X9_mayBeOut_29, r_X9_mayBeOut_30, r_X9_mayBeOut_37, r_X9_mayBeOut_38, r_X9_mayBeOut_39, r_X9_mayBeOut_42, ↓reduceIte, Option.isSome_some, Option.getD_some, rL_v, rL_n, cH_s, List.cons_append, List.nil_append, cat_i, cat_r, cat_n, ofN, g9_0 hm, g9_1 hm, g9_2 hm, g9_3 hm, g9_4 hm, g9_5 hm, g9_6 hm, g9_7 hm, g9_8 hm, g9_9 hm, g9_10 hm, g9_11 hm, g9_12 hm, g9_13 hm, g9_14 hm, g9_15 hm, g9_16 hm, g9_17 hm, g9_18 hm, g9_19 hm, g9_20 hm, g9_21 hm, g9_22 hm, g9_23 hm, g9_24 hm, g9_25 hm, g9_26 hm, g9_27 hm, g9_28 hm, g9_29 hm, g9_30 hm, g9_31 hm, g9_32 hm, g9_33 hm, g9_34 hm, g9_35 hm, g9_36 hm, g9_37 hm, g9_38 hm, g9_39 hm, ro9 hm, q, ite_bI, q1, c_has (show set < 2147483648 by omega) (show p < 8 by omega), tb_1 tb, n10, gI_nI m93 (by decide) (show p < 7 by omega), cz, z, nI_add]
            exact I
          · have e : mbB S set (p + 1) = true := by simp only [mbB, q1, tb]; simp; omega
            rw [bI_t e] at I
            simp only [r_X9_mayBeOut_5, r_X9_mayBeOut_6, r_X9_mayBeOut_9, r_X9_mayBeOut_12, r_X9_mayBeOut_13, r_X9_mayBeOut_16, r_X9_mayBeOut_17, r_X9_mayBeOut_18, r_X9_mayBeOut_21, r_X9_mayBeOut_24, r_X9_mayBeOut_25, r_X9_mayBeOut_28, r_X9_mayBeOut_29, r_X9_mayBeOut_30, r_X9_mayBeOut_33, r_X9_mayBeOut_34, r_X9_mayBeOut_38, r_X9_mayBeOut_39, r_X9_mayBeOut_42, ↓reduceIte, Option.isSome_some, Option.getD_some, rL_v, rL_n, cH_s, List.cons_append, List.nil_append, cat_i, cat_r, cat_n, ofN, g9_0 hm, g9_1 hm, g9_2 hm, g9_3 hm, g9_4 hm, g9_5 hm, g9_6 hm, g9_7 hm, g9_8 hm, g9_9 hm, g9_10 hm, g9_11 hm, g9_12 hm, g9_13 hm, g9_14 hm, g9_15 hm, g9_16 hm, g9_17 hm, g9_18 hm, g9_19 hm, g9_20 hm, g9_21 hm, g9_22 hm, g9_23 hm, g9_24 hm, g9_25 hm, g9_26 hm, g9_27 hm, g9_28 hm, g9_29 hm, g9_30 hm, g9_31 hm, g9_32 hm, g9_33 hm, g9_34 hm, g9_35 hm, g9_36 hm, g9_37 hm, g9_38 hm, g9_39 hm, ro9 hm, q, ite_bI, q1, c_has (show set < 2147483648 by omega) (show p < 8 by omega), tb_1 tb, n10, gI_nI m93 (by decide) (show p < 7 by omega), cz, z, nI_add]
            exact I
        · have e : mbB S set (p + 1) = true := by simp only [mbB, q1]; simp [tb]
          rw [bI_t e] at I
          simp only [r_X9_mayBeOut_5, r_X9_mayBeOut_6, r_X9_mayBeOut_9, r_X9_mayBeOut_12, r_X9_mayBeOut_13, r_X9_mayBeOut_16, r_X9_mayBeOut_17, r_X9_mayBeOut_18, r_X9_mayBeOut_21, r_X9_mayBeOut_33, r_X9_mayBeOut_34, r_X9_mayBeOut_38, r_X9_mayBeOut_39, r_X9_mayBeOut_42, ↓reduceIte, Option.isSome_some, Option.getD_some, rL_v, rL_n, cH_s, List.cons_append, List.nil_append, cat_i, cat_r, cat_n, ofN, g9_0 hm, g9_1 hm, g9_2 hm, g9_3 hm, g9_4 hm, g9_5 hm, g9_6 hm, g9_7 hm, g9_8 hm, g9_9 hm, g9_10 hm, g9_11 hm, g9_12 hm, g9_13 hm, g9_14 hm, g9_15 hm, g9_16 hm, g9_17 hm, g9_18 hm, g9_19 hm, g9_20 hm, g9_21 hm, g9_22 hm, g9_23 hm, g9_24 hm, g9_25 hm, g9_26 hm, g9_27 hm, g9_28 hm, g9_29 hm, g9_30 hm, g9_31 hm, g9_32 hm, g9_33 hm, g9_34 hm, g9_35 hm, g9_36 hm, g9_37 hm, g9_38 hm, g9_39 hm, ro9 hm, q, ite_bI, q1, c_has (show set < 2147483648 by omega) (show p < 8 by omega), tb_0 tb, nI_add]
          exact I
      · have e : ¬ mbB S set (p + 1) = true := by simp only [mbB]; simp [q1]
        rw [bI_f e] at I
        simp only [r_X9_mayBeOut_5, r_X9_mayBeOut_6, r_X9_mayBeOut_9, r_X9_mayBeOut_12, r_X9_mayBeOut_13, r_X9_mayBeOut_37, r_X9_mayBeOut_38, r_X9_mayBeOut_39, r_X9_mayBeOut_42, ↓reduceIte, Option.isSome_some, Option.getD_some, rL_v, rL_n, cH_s, List.cons_append, List.nil_append, cat_i, cat_r, cat_n, ofN, g9_0 hm, g9_1 hm, g9_2 hm, g9_3 hm, g9_4 hm, g9_5 hm, g9_6 hm, g9_7 hm, g9_8 hm, g9_9 hm, g9_10 hm, g9_11 hm, g9_12 hm, g9_13 hm, g9_14 hm, g9_15 hm, g9_16 hm, g9_17 hm, g9_18 hm, g9_19 hm, g9_20 hm, g9_21 hm, g9_22 hm, g9_23 hm, g9_24 hm, g9_25 hm, g9_26 hm, g9_27 hm, g9_28 hm, g9_29 hm, g9_30 hm, g9_31 hm, g9_32 hm, g9_33 hm, g9_34 hm, g9_35 hm, g9_36 hm, g9_37 hm, g9_38 hm, g9_39 hm, ro9 hm, q, ite_bI, q1, nI_add]
        exact I
  have I := L (S 12 0) 0 (by omega)
  rw [bI_t (show mbB S set 0 = true from rfl)] at I
  show Run M_X9_mayBeOut 0 [.ref 88, .int (nI set), .null, .null] [] h = _
  simp only [r_X9_mayBeOut_0, r_X9_mayBeOut_1, r_X9_mayBeOut_2, r_X9_mayBeOut_3, ↓reduceIte, Option.isSome_some, Option.getD_some, rL_v, rL_n, cH_s, List.cons_append, List.nil_append, cat_i, cat_r, cat_n, ofN]
  exact I
theorem Wo_le {S : SS} (hS : HOk S) (set : Nat) : ∀ p, p ≤ S 12 0 → ∀ t, Wo S set p t ≤ Ch S p
  | 0, _, t => by simp only [Wo, Ch]; split <;> omega
  | p + 1, hp, t => by
    obtain ⟨k1, k2, k3, k4, k5, k6⟩ := hS.2 p (by omega)
    simp only [Wo, Ch]
    split
    · exact Nat.mul_le_mul (Wo_le hS set p (by omega) t) (Nat.mul_le_mul_right _ (by omega))
    · refine Nat.le_trans (sm_mono (g := fun _ => Ch S p * 8) (S 6 p) (fun i hi => ?_)) ?_
      · split
        · exact Nat.mul_le_mul (Wo_le hS set p (by omega) _) (by omega)
        · exact Nat.zero_le _
      · rw [sm_const, Nat.mul_comm, Nat.mul_assoc]; exact Nat.le_refl _
theorem nI_and (a b : Nat) : nI a &&& nI b = nI (a &&& b) := by
  apply Int32.toBitVec_inj.mp
  apply BitVec.eq_of_toNat_eq
  rw [Int32.toBitVec_and, BitVec.toNat_and]
  show a % 2 ^ 32 &&& b % 2 ^ 32 = (a &&& b) % 2 ^ 32
  rw [Nat.and_mod_two_pow]
theorem ofo_b (S : SS) (t : Nat) : ∀ k, (ofo S t k).1 ≤ k ∧ (ofo S t k).2.2.1 ≤ k
  | 0 => ⟨Nat.le_refl _, Nat.le_refl _⟩
  | k + 1 => by
    have ih := ofo_b S t k
    simp only [ofo]
    split
    · constructor
      · show (ofo S t k).1 + 1 ≤ _; omega
      · show (if _ then k + 1 else _) ≤ _
        split
        · exact Nat.le_refl _
        · exact Nat.le_succ_of_le ih.2
    · exact ⟨by omega, by omega⟩
theorem ofo_w {S : SS} (hS : HOk S) (t : Nat) : ∀ k, (ofo S t k).2.2.2 ≤ Ch S (S 12 0)
  | 0 => Nat.zero_le _
  | k + 1 => by
    have ih := ofo_w hS t k
    have := Wo_le hS k (S 12 0) (Nat.le_refl _) t
    simp only [ofo]
    split
    · show (if _ then Wo S k (S 12 0) t else _) ≤ _; split <;> assumption
    · exact ih
