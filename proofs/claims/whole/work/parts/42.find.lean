/-! ===== the model's findWeights, whole, costs ===== -/
/-- another heap that differs in the two arrays of weights alone -/
def WS (h H : AH) : Prop := (∀ a, a ≠ 107 → a ≠ 108 → H.2.2 a = h.2.2 a) ∧ H.1 = h.1 ∧ H.2.1 = h.2.1
theorem WS.up {h H : AH} {a : Nat} {c : AC} (w : WS h H) (ha : a = 107 ∨ a = 108) : WS h (hup H a c) := ⟨fun x h1 h2 => by rw [hup_ne (by omega)]; exact w.1 x h1 h2, w.2.1, w.2.2⟩
def WA (H : AH) (F : Nat → Nat) : Prop := ∃ g, H.2.2 107 = some (jA 421 g) ∧ ∀ t, t < 421 → g t = lN (F t)
def WB (H : AH) (F : Nat → Nat) : Prop := ∃ g, H.2.2 108 = some (jA 421 g) ∧ ∀ t, t < 421 → g t = lN (F t)
set_option maxHeartbeats 4000000 in
theorem c_findWeights {h : AH} {S : SS} (hS : HOk S) (hr : RepM h S) {n : Nat} (hn : n ≤ S 12 0) : ∃ h', Call M_X9_findWeights h [.ref 88, .int (nI n)] = some (h', none) ∧ WS h h' ∧ WA h' (Wt S n) ∧ ∃ g, h'.2.2 108 = some (jA 421 g) := by
  obtain ⟨⟨a, b, c, d, e, f, g, i1, i2, i3, i4, hm⟩, hA, -, -, -, -, -, ⟨w0, q107⟩, ⟨b0, q108⟩⟩ := id hr
  have m93 := hA 93 _ rfl
  have m95 := hA 95 _ rfl
  have m96 := hA 96 _ rfl
  have h7 := hS.1
  -- weights at first
  have LA : ∀ (k t : Nat) (H : AH) (x3 x4 x5 : Value), t + k = 421 → WS h H → (∃ g, H.2.2 107 = some (jA 421 g) ∧ ∀ u, u < t → g u = lN (Wt S 0 u)) → (∃ g, H.2.2 108 = some (jA 421 g)) →
      ∃ H', Run M_X9_findWeights 2 [.ref 88, .int (nI n), .int (nI t), x3, x4, x5] [] H = Run M_X9_findWeights 30 [.ref 88, .int (nI n), .int (nI 421), x3, x4, x5] [] H' ∧ WS h H' ∧ WA H' (Wt S 0) ∧ ∃ g, H'.2.2 108 = some (jA 421 g) := by
    intro k
    induction k with
    | zero =>
      intro t H x3 x4 x5 ht hw ⟨g, g1, g2⟩ hb
      have ht : t = 421 := by omega
      subst ht
      have q : nI 420 < nI 421 := by decide
      exact ⟨H, by simp only [r_X9_findWeights_2, r_X9_findWeights_3, r_X9_findWeights_6, ↓reduceIte, Option.isSome_some, Option.getD_some, rL_v, rL_n, cH_s, List.cons_append, List.nil_append, cat_i, cat_r, cat_n, ofN, q], hw, ⟨g, g1, g2⟩, hb⟩
    | succ k ih =>
      intro t H x3 x4 x5 ht hw ⟨g, g1, g2⟩ hb
      have q : ¬ nI 420 < nI t := by rw [nI_lt' (by omega) (by omega)]; omega
      have q0 : (nI t = nI 0) = (t = 0) := nI_inj (by omega) (by decide)
      have hm' := (hw.1 88 (by decide) (by decide)).trans hm
      have ht' : t < 421 := by omega
      have e : Run M_X9_findWeights 2 [.ref 88, .int (nI n), .int (nI t), x3, x4, x5] [] H = Run M_X9_findWeights 2 [.ref 88, .int (nI n), .int (nI (t + 1)), x3, x4, x5] [] (hup H 107 (jA 421 (vp_updL g t (lN (Wt S 0 t))))) := by
        rw [r_X9_findWeights_2]
        simp only [r_X9_findWeights_3, r_X9_findWeights_6, r_X9_findWeights_9, r_X9_findWeights_10, r_X9_findWeights_13, r_X9_findWeights_14, r_X9_findWeights_15, r_X9_findWeights_18, r_X9_findWeights_19, r_X9_findWeights_22, r_X9_findWeights_23, r_X9_findWeights_24, r_X9_findWeights_27, ↓reduceIte, Option.isSome_some, Option.getD_some, rL_v, rL_n, cH_s, List.cons_append, List.nil_append, cat_i, cat_r, cat_n, ofN, q, g9_0 hm', g9_1 hm', g9_2 hm', g9_3 hm', g9_4 hm', g9_5 hm', g9_6 hm', g9_7 hm', g9_8 hm', g9_9 hm', g9_10 hm', g9_11 hm', g9_12 hm', g9_13 hm', g9_14 hm', g9_15 hm', g9_16 hm', g9_17 hm', g9_18 hm', g9_19 hm', g9_20 hm', g9_21 hm', g9_22 hm', g9_23 hm', g9_24 hm', g9_25 hm', g9_26 hm', g9_27 hm', g9_28 hm', g9_29 hm', g9_30 hm', g9_31 hm', g9_32 hm', g9_33 hm', g9_34 hm', g9_35 hm', g9_36 hm', g9_37 hm', g9_38 hm', g9_39 hm', ro9 hm', q0, nI_add, pJ_nI g1 (by decide) (by decide) ht', Wt]
        split <;> rfl
      obtain ⟨hb1, hb2⟩ := hb
      obtain ⟨H', r1, r2⟩ := ih (t + 1) _ x3 x4 x5 (by omega) (hw.up (a := 107) (c := jA 421 (vp_updL g t (lN (Wt S 0 t)))) (Or.inl rfl)) ⟨_, hup_get, fun u hu => by
        by_cases h1 : u = t
        · subst h1; simp [vp_updL]
        · simp only [vp_updL]; rw [if_neg h1]; exact g2 u (by omega)⟩ ⟨hb1, (hup_ne (by decide)).trans hb2⟩
      exact ⟨H', e.trans r1, r2⟩
  -- a PART: left out
  have LB : ∀ (k t p : Nat) (H : AH) (F : Nat → Nat) (x4 x5 : Value), t + k = 421 → p < S 12 0 → WS h H → (∃ g, H.2.2 107 = some (jA 421 g) ∧ ∀ u, u < 421 → g u = lN (if u < t then F u * (S 4 p * S 6 p) else F u)) → (∃ g, H.2.2 108 = some (jA 421 g) ∧ ∀ u, u < t → g u = lN (F u)) →
      ∃ H', Run M_X9_findWeights 39 [.ref 88, .int (nI n), .int (nI p), .int (nI t), x4, x5] [] H = Run M_X9_findWeights 92 [.ref 88, .int (nI n), .int (nI p), .int (nI 421), x4, x5] [] H' ∧ WS h H' ∧ WA H' (fun u => F u * (S 4 p * S 6 p)) ∧ WB H' F := by
    intro k
    induction k with
    | zero =>
      intro t p H F x4 x5 ht hp hw ⟨g, g1, g2⟩ ⟨gb, gb1, gb2⟩
      have ht : t = 421 := by omega
      subst ht
      have q : nI 420 < nI 421 := by decide
      exact ⟨H, by simp only [r_X9_findWeights_39, r_X9_findWeights_40, r_X9_findWeights_43, ↓reduceIte, Option.isSome_some, Option.getD_some, rL_v, rL_n, cH_s, List.cons_append, List.nil_append, cat_i, cat_r, cat_n, ofN, q], hw, ⟨g, g1, fun u hu => by rw [g2 u hu, if_pos hu]⟩, ⟨gb, gb1, gb2⟩⟩
    | succ k ih =>
      intro t p H F x4 x5 ht hp hw ⟨g, g1, g2⟩ ⟨gb, gb1, gb2⟩
      have q : ¬ nI 420 < nI t := by rw [nI_lt' (by omega) (by omega)]; omega
      have hm' := (hw.1 88 (by decide) (by decide)).trans hm
      have m93' := (hw.1 93 (by decide) (by decide)).trans m93
      have m95' := (hw.1 95 (by decide) (by decide)).trans m95
      obtain ⟨k1, k2, k3, k4, k5, k6⟩ := hS.2 p hp
      have ht' : t < 421 := by omega
      have gt : g t = lN (F t) := by rw [g2 t ht', if_neg (by omega)]
      have e1 : (nI (S 4 p)).toInt64 = lN (S 4 p) := nI_l (by omega)
      have e2 : (nI (S 6 p)).toInt64 = lN (S 6 p) := nI_l (by omega)
      generalize hH1 : hup H 108 (jA 421 (vp_updL gb t (lN (F t)))) = H1
      have w1 : WS h H1 := by rw [← hH1]; exact hw.up (Or.inr rfl)
      have hm1 := (w1.1 88 (by decide) (by decide)).trans hm
      have m931 := (w1.1 93 (by decide) (by decide)).trans m93
      have m951 := (w1.1 95 (by decide) (by decide)).trans m95
      have b1 : H1.2.2 108 = some (jA 421 (vp_updL gb t (lN (F t)))) := by rw [← hH1]; exact hup_get
      have c1 : H1.2.2 107 = some (jA 421 g) := by rw [← hH1]; exact (hup_ne (by decide)).trans g1
      have bt : vp_updL gb t (lN (F t)) t = lN (F t) := by simp [vp_updL]
      have e : Run M_X9_findWeights 39 [.ref 88, .int (nI n), .int (nI p), .int (nI t), x4, x5] [] H = Run M_X9_findWeights 39 [.ref 88, .int (nI n), .int (nI p), .int (nI (t + 1)), x4, x5] [] (hup H1 107 (jA 421 (vp_updL g t (lN (F t * S 4 p * S 6 p))))) := by
        rw [r_X9_findWeights_39]
        simp only [r_X9_findWeights_40, r_X9_findWeights_43, r_X9_findWeights_46, r_X9_findWeights_47, r_X9_findWeights_50, r_X9_findWeights_51, r_X9_findWeights_52, r_X9_findWeights_55, r_X9_findWeights_56, r_X9_findWeights_57, ↓reduceIte, Option.isSome_some, Option.getD_some, rL_v, rL_n, cH_s, List.cons_append, List.nil_append, cat_i, cat_r, cat_n, ofN, q, g9_0 hm', g9_1 hm', g9_2 hm', g9_3 hm', g9_4 hm', g9_5 hm', g9_6 hm', g9_7 hm', g9_8 hm', g9_9 hm', g9_10 hm', g9_11 hm', g9_12 hm', g9_13 hm', g9_14 hm', g9_15 hm', g9_16 hm', g9_17 hm', g9_18 hm', g9_19 hm', g9_20 hm', g9_21 hm', g9_22 hm', g9_23 hm', g9_24 hm', g9_25 hm', g9_26 hm', g9_27 hm', g9_28 hm', g9_29 hm', g9_30 hm', g9_31 hm', g9_32 hm', g9_33 hm', g9_34 hm', g9_35 hm', g9_36 hm', g9_37 hm', g9_38 hm', g9_39 hm', ro9 hm', gJ_nI g1 (by decide) (by decide) ht', gt, pJ_nI gb1 (by decide) (by decide) ht', hH1]
        simp only [r_X9_findWeights_58, r_X9_findWeights_59, r_X9_findWeights_62, r_X9_findWeights_63, r_X9_findWeights_64, r_X9_findWeights_67, r_X9_findWeights_68, r_X9_findWeights_69, r_X9_findWeights_70, r_X9_findWeights_73, r_X9_findWeights_74, r_X9_findWeights_75, r_X9_findWeights_76, r_X9_findWeights_77, r_X9_findWeights_78, r_X9_findWeights_81, r_X9_findWeights_82, r_X9_findWeights_83, r_X9_findWeights_84, r_X9_findWeights_85, r_X9_findWeights_86, r_X9_findWeights_89, ↓reduceIte, Option.isSome_some, Option.getD_some, rL_v, rL_n, cH_s, List.cons_append, List.nil_append, cat_i, cat_r, cat_n, ofN, g9_0 hm1, g9_1 hm1, g9_2 hm1, g9_3 hm1, g9_4 hm1, g9_5 hm1, g9_6 hm1, g9_7 hm1, g9_8 hm1, g9_9 hm1, g9_10 hm1, g9_11 hm1, g9_12 hm1, g9_13 hm1, g9_14 hm1, g9_15 hm1, g9_16 hm1, g9_17 hm1, g9_18 hm1, g9_19 hm1, g9_20 hm1, g9_21 hm1, g9_22 hm1, g9_23 hm1, g9_24 hm1, g9_25 hm1, g9_26 hm1, g9_27 hm1, g9_28 hm1, g9_29 hm1, g9_30 hm1, g9_31 hm1, g9_32 hm1, g9_33 hm1, g9_34 hm1, g9_35 hm1, g9_36 hm1, g9_37 hm1, g9_38 hm1, g9_39 hm1, ro9 hm1, gJ_nI b1 (by decide) (by decide) ht', bt, gI_nI m931 (by decide) (show p < 7 by omega), gI_nI m951 (by decide) (show p < 7 by omega), e1, e2, lN_mul, pJ_nI c1 (by decide) (by decide) ht', nI_add]
      obtain ⟨H', r1, r2⟩ := ih (t + 1) p _ F x4 x5 (by omega) hp (w1.up (a := 107) (c := jA 421 (vp_updL g t (lN (F t * S 4 p * S 6 p)))) (Or.inl rfl)) ⟨_, hup_get, fun u hu => by
        by_cases h1 : u = t
        · subst h1; simp only [vp_updL, if_true]; rw [if_pos (by omega), Nat.mul_assoc]
        · simp only [vp_updL]; rw [if_neg h1, g2 u hu]
          by_cases h2 : u < t
          · rw [if_pos h2, if_pos (by omega)]
          · rw [if_neg h2, if_neg (by omega)]⟩ ⟨_, (hup_ne (by decide)).trans b1, fun u hu => by
        by_cases h1 : u = t
        · subst h1; exact bt
        · simp only [vp_updL]; rw [if_neg h1]; exact gb2 u (by omega)⟩
      exact ⟨H', e.trans r1, r2⟩
  -- one LENGTH
  have LD : ∀ (k t p i len : Nat) (H : AH) (F G : Nat → Nat), t + k = 421 → len ≤ t → p < S 12 0 → WS h H → (∃ g, H.2.2 107 = some (jA 421 g) ∧ ∀ u, u < 421 → g u = lN (G u + if len ≤ u ∧ u < t then F (u - len) * (8 - S 4 p) else 0)) → WB H F →
      ∃ H', Run M_X9_findWeights 120 [.ref 88, .int (nI n), .int (nI p), .int (nI i), .int (nI len), .int (nI t)] [] H = Run M_X9_findWeights 165 [.ref 88, .int (nI n), .int (nI p), .int (nI i), .int (nI len), .int (nI 421)] [] H' ∧ WS h H' ∧ WA H' (fun u => G u + if len ≤ u then F (u - len) * (8 - S 4 p) else 0) ∧ WB H' F := by
    intro k
    induction k with
    | zero =>
      intro t p i len H F G ht hl hp hw ⟨g, g1, g2⟩ hb
      have ht : t = 421 := by omega
      subst ht
      have q : nI 420 < nI 421 := by decide
      exact ⟨H, by simp only [r_X9_findWeights_120, r_X9_findWeights_122, r_X9_findWeights_125, ↓reduceIte, Option.isSome_some, Option.getD_some, rL_v, rL_n, cH_s, List.cons_append, List.nil_append, cat_i, cat_r, cat_n, ofN, q], hw, ⟨g, g1, fun u hu => by
        rw [g2 u hu]
        dsimp only
        by_cases h1 : len ≤ u
        · rw [if_pos ⟨h1, hu⟩, if_pos h1]
        · rw [if_neg (fun z => h1 z.1), if_neg h1]⟩, hb⟩
    | succ k ih =>
      intro t p i len H F G ht hl hp hw ⟨g, g1, g2⟩ ⟨gb, gb1, gb2⟩
      have q : ¬ nI 420 < nI t := by rw [nI_lt' (by omega) (by omega)]; omega
      have hm' := (hw.1 88 (by decide) (by decide)).trans hm
      have m93' := (hw.1 93 (by decide) (by decide)).trans m93
      obtain ⟨k1, k2, k3, k4, k5, k6⟩ := hS.2 p hp
      have ht' : t < 421 := by omega
      have gt : g t = lN (G t) := by rw [g2 t ht', if_neg (by omega)]; rfl
      have e1 : (nI (8 - S 4 p)).toInt64 = lN (8 - S 4 p) := nI_l (by omega)
      have e : Run M_X9_findWeights 120 [.ref 88, .int (nI n), .int (nI p), .int (nI i), .int (nI len), .int (nI t)] [] H = Run M_X9_findWeights 120 [.ref 88, .int (nI n), .int (nI p), .int (nI i), .int (nI len), .int (nI (t + 1))] [] (hup H 107 (jA 421 (vp_updL g t (lN (G t + F (t - len) * (8 - S 4 p)))))) := by
        rw [r_X9_findWeights_120]
        simp only [r_X9_findWeights_122, r_X9_findWeights_125, r_X9_findWeights_128, r_X9_findWeights_129, r_X9_findWeights_132, r_X9_findWeights_134, r_X9_findWeights_135, r_X9_findWeights_136, r_X9_findWeights_137, r_X9_findWeights_140, r_X9_findWeights_142, r_X9_findWeights_144, r_X9_findWeights_145, r_X9_findWeights_146, r_X9_findWeights_148, r_X9_findWeights_149, r_X9_findWeights_152, r_X9_findWeights_153, r_X9_findWeights_154, r_X9_findWeights_155, r_X9_findWeights_156, r_X9_findWeights_157, r_X9_findWeights_158, r_X9_findWeights_159, r_X9_findWeights_162, ↓reduceIte, Option.isSome_some, Option.getD_some, rL_v, rL_n, cH_s, List.cons_append, List.nil_append, cat_i, cat_r, cat_n, ofN, q, g9_0 hm', g9_1 hm', g9_2 hm', g9_3 hm', g9_4 hm', g9_5 hm', g9_6 hm', g9_7 hm', g9_8 hm', g9_9 hm', g9_10 hm', g9_11 hm', g9_12 hm', g9_13 hm', g9_14 hm', g9_15 hm', g9_16 hm', g9_17 hm', g9_18 hm', g9_19 hm', g9_20 hm', g9_21 hm', g9_22 hm', g9_23 hm', g9_24 hm', g9_25 hm', g9_26 hm', g9_27 hm', g9_28 hm', g9_29 hm', g9_30 hm', g9_31 hm', g9_32 hm', g9_33 hm', g9_34 hm', g9_35 hm', g9_36 hm', g9_37 hm', g9_38 hm', g9_39 hm', ro9 hm', gJ_nI g1 (by decide) (by decide) ht', gt, nI_s hl, gJ_nI gb1 (by decide) (by decide) (show t - len < 421 by omega), gb2 (t - len) (by omega), gI_nI m93' (by decide) (show p < 7 by omega), nI_s (show S 4 p ≤ 8 by omega), e1, lN_mul, lN_add, pJ_nI g1 (by decide) (by decide) ht', nI_add]
      obtain ⟨H', r1, r2⟩ := ih (t + 1) p i len _ F G (by omega) (by omega) hp (hw.up (a := 107) (c := jA 421 (vp_updL g t (lN (G t + F (t - len) * (8 - S 4 p))))) (Or.inl rfl)) ⟨_, hup_get, fun u hu => by
        by_cases h1 : u = t
        · subst h1; simp only [vp_updL, if_true]; rw [if_pos (by omega)]
        · simp only [vp_updL]; rw [if_neg h1, g2 u hu]
          by_cases h2 : len ≤ u ∧ u < t
          · rw [if_pos h2, if_pos (by omega)]
          · rw [if_neg h2, if_neg (by omega)]⟩ ⟨gb, (hup_ne (by decide)).trans gb1, gb2⟩
      exact ⟨H', e.trans r1, r2⟩
  -- all LENGTHS
  have LC : ∀ (k i p : Nat) (H : AH) (F : Nat → Nat) (x4 x5 : Value), i + k = S 6 p → p < S 12 0 → WS h H → WA H (fun u => F u * (S 4 p * S 6 p) + sm (fun j => if S 7 (4 * p + j) ≤ u then F (u - S 7 (4 * p + j)) * (8 - S 4 p) else 0) i) → WB H F →
      ∃ H' x4' x5', Run M_X9_findWeights 94 [.ref 88, .int (nI n), .int (nI p), .int (nI i), x4, x5] [] H = Run M_X9_findWeights 171 [.ref 88, .int (nI n), .int (nI p), .int (nI (S 6 p)), x4', x5'] [] H' ∧ WS h H' ∧ WA H' (fun u => F u * (S 4 p * S 6 p) + sm (fun j => if S 7 (4 * p + j) ≤ u then F (u - S 7 (4 * p + j)) * (8 - S 4 p) else 0) (S 6 p)) ∧ WB H' F := by
    intro k
    induction k with
    | zero =>
      intro i p H F x4 x5 hi hp hw hWA hWB
      have hi : i = S 6 p := by omega
      subst hi
      have hm' := (hw.1 88 (by decide) (by decide)).trans hm
      have m95' := (hw.1 95 (by decide) (by decide)).trans m95
      exact ⟨H, x4, x5, by simp only [r_X9_findWeights_94, r_X9_findWeights_95, r_X9_findWeights_96, r_X9_findWeights_99, r_X9_findWeights_100, r_X9_findWeights_101, ↓reduceIte, Option.isSome_some, Option.getD_some, rL_v, rL_n, cH_s, List.cons_append, List.nil_append, cat_i, cat_r, cat_n, ofN, g9_0 hm', g9_1 hm', g9_2 hm', g9_3 hm', g9_4 hm', g9_5 hm', g9_6 hm', g9_7 hm', g9_8 hm', g9_9 hm', g9_10 hm', g9_11 hm', g9_12 hm', g9_13 hm', g9_14 hm', g9_15 hm', g9_16 hm', g9_17 hm', g9_18 hm', g9_19 hm', g9_20 hm', g9_21 hm', g9_22 hm', g9_23 hm', g9_24 hm', g9_25 hm', g9_26 hm', g9_27 hm', g9_28 hm', g9_29 hm', g9_30 hm', g9_31 hm', g9_32 hm', g9_33 hm', g9_34 hm', g9_35 hm', g9_36 hm', g9_37 hm', g9_38 hm', g9_39 hm', ro9 hm', gI_nI m95' (by decide) (show p < 7 by omega), Int32.le_refl], hw, hWA, hWB⟩
    | succ k ih =>
      intro i p H F x4 x5 hi hp hw hWA hWB
      have hm' := (hw.1 88 (by decide) (by decide)).trans hm
      have m95' := (hw.1 95 (by decide) (by decide)).trans m95
      have m96' := (hw.1 96 (by decide) (by decide)).trans m96
      obtain ⟨k1, k2, k3, k4, k5, k6⟩ := hS.2 p hp
      have kl := k6 i (by omega)
      have q : ¬ nI (S 6 p) ≤ nI i := by rw [nI_le' (by omega) (by omega)]; omega
      obtain ⟨g, g1, g2⟩ := hWA
      obtain ⟨H1, r1, r2, r3, r4⟩ := LD (421 - S 7 (4 * p + i)) (S 7 (4 * p + i)) p i (S 7 (4 * p + i)) H F (fun u => F u * (S 4 p * S 6 p) + sm (fun j => if S 7 (4 * p + j) ≤ u then F (u - S 7 (4 * p + j)) * (8 - S 4 p) else 0) i) (by omega) (Nat.le_refl _) hp hw ⟨g, g1, fun u hu => by rw [g2 u hu, if_neg (by omega)]; rfl⟩ hWB
      obtain ⟨H2, y4, y5, s1, s2⟩ := ih (i + 1) p H1 F (.int (nI (S 7 (4 * p + i)))) (.int (nI 421)) (by omega) hp r2 (by
        obtain ⟨g', z1, z2⟩ := r3
        exact ⟨g', z1, fun u hu => by rw [z2 u hu]; dsimp only [sm]; rw [Nat.add_assoc]⟩) r4
      refine ⟨H2, y4, y5, ?_, s2⟩
      rw [← s1]
      rw [r_X9_findWeights_94]
      simp only [r_X9_findWeights_95, r_X9_findWeights_96, r_X9_findWeights_99, r_X9_findWeights_100, r_X9_findWeights_101, r_X9_findWeights_104, r_X9_findWeights_105, r_X9_findWeights_108, r_X9_findWeights_109, r_X9_findWeights_110, r_X9_findWeights_111, r_X9_findWeights_112, r_X9_findWeights_113, r_X9_findWeights_114, r_X9_findWeights_116, r_X9_findWeights_118, ↓reduceIte, Option.isSome_some, Option.getD_some, rL_v, rL_n, cH_s, List.cons_append, List.nil_append, cat_i, cat_r, cat_n, ofN, g9_0 hm', g9_1 hm', g9_2 hm', g9_3 hm', g9_4 hm', g9_5 hm', g9_6 hm', g9_7 hm', g9_8 hm', g9_9 hm', g9_10 hm', g9_11 hm', g9_12 hm', g9_13 hm', g9_14 hm', g9_15 hm', g9_16 hm', g9_17 hm', g9_18 hm', g9_19 hm', g9_20 hm', g9_21 hm', g9_22 hm', g9_23 hm', g9_24 hm', g9_25 hm', g9_26 hm', g9_27 hm', g9_28 hm', g9_29 hm', g9_30 hm', g9_31 hm', g9_32 hm', g9_33 hm', g9_34 hm', g9_35 hm', g9_36 hm', g9_37 hm', g9_38 hm', g9_39 hm', ro9 hm', gI_nI m95' (by decide) (show p < 7 by omega), q, nI_m, nI_add, gI_nI m96' (by decide) (show 4 * p + i < 28 by omega)]
      rw [r1]
      simp only [r_X9_findWeights_165, r_X9_findWeights_168, ↓reduceIte, Option.isSome_some, Option.getD_some, rL_v, rL_n, cH_s, List.cons_append, List.nil_append, cat_i, cat_r, cat_n, ofN, nI_add]
  -- all PARTS
  have LP : ∀ (k p : Nat) (H : AH) (x3 x4 x5 : Value), p + k = n → WS h H → WA H (Wt S p) → (∃ g, H.2.2 108 = some (jA 421 g)) →
      ∃ h', Run M_X9_findWeights 32 [.ref 88, .int (nI n), .int (nI p), x3, x4, x5] [] H = some (h', none) ∧ WS h h' ∧ WA h' (Wt S n) ∧ ∃ g, h'.2.2 108 = some (jA 421 g) := by
    intro k
    induction k with
    | zero =>
      intro p H x3 x4 x5 hp hw hWA hb
      have hp : p = n := by omega
      subst hp
      exact ⟨H, by simp only [r_X9_findWeights_32, r_X9_findWeights_33, r_X9_findWeights_34, r_X9_findWeights_177, ↓reduceIte, Option.isSome_some, Option.getD_some, rL_v, rL_n, cH_s, List.cons_append, List.nil_append, cat_i, cat_r, cat_n, ofN, Int32.le_refl], hw, hWA, hb⟩
    | succ k ih =>
      intro p H x3 x4 x5 hp hw hWA ⟨gb, hb⟩
      have q : ¬ nI n ≤ nI p := by rw [nI_le' (by omega) (by omega)]; omega
      obtain ⟨g, g1, g2⟩ := hWA
      obtain ⟨H1, r1, r2, r3, r4⟩ := LB 421 0 p H (Wt S p) x4 x5 (by omega) (by omega) hw ⟨g, g1, fun u hu => by rw [g2 u hu, if_neg (by omega)]⟩ ⟨gb, hb, fun u hu => by omega⟩
      obtain ⟨H2, y4, y5, s1, s2, s3, s4⟩ := LC (S 6 p) 0 p H1 (Wt S p) x4 x5 (by omega) (by omega) r2 (by
        obtain ⟨g', z1, z2⟩ := r3
        exact ⟨g', z1, fun u hu => by rw [z2 u hu]; rfl⟩) r4
      obtain ⟨gb2, hb2, -⟩ := s4
      obtain ⟨h', t1, t2⟩ := ih (p + 1) H2 (.int (nI (S 6 p))) y4 y5 (by omega) s2 s3 ⟨gb2, hb2⟩
      refine ⟨h', ?_, t2⟩
      rw [← t1, r_X9_findWeights_32]
      simp only [r_X9_findWeights_33, r_X9_findWeights_34, r_X9_findWeights_37, r_X9_findWeights_38, ↓reduceIte, Option.isSome_some, Option.getD_some, rL_v, rL_n, cH_s, List.cons_append, List.nil_append, cat_i, cat_r, cat_n, ofN, q]
      rw [r1]
      simp only [r_X9_findWeights_92, r_X9_findWeights_93, ↓reduceIte, Option.isSome_some, Option.getD_some, rL_v, rL_n, cH_s, List.cons_append, List.nil_append, cat_i, cat_r, cat_n, ofN]
      rw [s1]
      simp only [r_X9_findWeights_171, r_X9_findWeights_174, ↓reduceIte, Option.isSome_some, Option.getD_some, rL_v, rL_n, cH_s, List.cons_append, List.nil_append, cat_i, cat_r, cat_n, ofN, nI_add]
  obtain ⟨H1, r1, r2, r3, r4⟩ := LA 421 0 h .null .null .null (by omega) ⟨fun _ _ _ => rfl, rfl, rfl⟩ ⟨w0, q107, fun u hu => by omega⟩ ⟨b0, q108⟩
  obtain ⟨h', s1, s2⟩ := LP n 0 H1 .null .null .null (by omega) r2 r3 r4
  refine ⟨h', ?_, s2⟩
  show Run M_X9_findWeights 0 [.ref 88, .int (nI n), .null, .null, .null, .null] [] h = _
  simp only [r_X9_findWeights_0, r_X9_findWeights_1, ↓reduceIte, Option.isSome_some, Option.getD_some, rL_v, rL_n, cH_s, List.cons_append, List.nil_append, cat_i, cat_r, cat_n, ofN]
  rw [r1]
  simp only [r_X9_findWeights_30, r_X9_findWeights_31, ↓reduceIte, Option.isSome_some, Option.getD_some, rL_v, rL_n, cH_s, List.cons_append, List.nil_append, cat_i, cat_r, cat_n, ofN]
  exact s1
/-- what the model holds stays -/
theorem RepM.ws {h h' : AH} {S : SS} (r : RepM h S) (w : WS h h') (h7 : ∃ f, h'.2.2 107 = some (jA 421 f)) (h8 : ∃ f, h'.2.2 108 = some (jA 421 f)) : RepM h' S := by
  obtain ⟨m1, m2, m3, m4, m5, m6, m7, -, -⟩ := r
  refine ⟨?_, fun a c hc => ?_, fun a b1 b2 => ?_, ?_, ?_, ?_, ?_, h7, h8⟩
  · unfold MoR; rw [w.1 88 (by decide) (by decide)]; exact m1
  · have := cM_lt hc
    rw [w.1 a (by omega) (by omega)]; exact m2 a c hc
  · rw [w.1 a (by omega) (by omega)]; exact m3 a b1 b2
  · rw [w.1 _ (by decide) (by decide)]; exact m4
  · rw [w.1 _ (by decide) (by decide)]; exact m5
  · rw [w.1 _ (by decide) (by decide)]; exact m6
  · rw [w.1 _ (by decide) (by decide)]; exact m7
theorem WS.frM {h h' : AH} (w : WS h h') : frM h h' := ⟨fun a ha => w.1 a (by omega) (by omega), w.2⟩
/-- the whole from PART p to n: as the model multiplies it -/
def Wh (S : SS) (p : Nat) : Nat → Nat
  | 0 => 1
  | k + 1 => Wh S p k * (8 * S 6 (p + k))
theorem Wh_Ch (S : SS) : ∀ n, Wh S 0 n = Ch S n
  | 0 => rfl
  | n + 1 => by simp only [Wh, Ch]; rw [Wh_Ch S n, Nat.zero_add]
theorem Ch_Wh (S : SS) (p : Nat) : ∀ k, Ch S (p + k) = Ch S p * Wh S p k
  | 0 => by simp [Wh]
  | k + 1 => by
    rw [show p + (k + 1) = (p + k) + 1 by omega]
    simp only [Ch, Wh]; rw [Ch_Wh S p k, Nat.mul_assoc]
theorem c_whole {h : AH} {S : SS} (hS : HOk S) (hr : RepM h S) {p n : Nat} (hp : p ≤ n) (hn : n ≤ S 12 0) : Call M_X9_whole h [.ref 88, .int (nI p), .int (nI n)] = some (h, some (.long (lN (Wh S p (n - p))))) := by
  obtain ⟨⟨_, _, _, _, _, _, _, _, _, _, _, hm⟩, hA, -⟩ := id hr
  have m95 := hA 95 _ rfl
  have h7 := hS.1
  have L : ∀ k i, p + i + k = n → Run M_X9_whole 5 [.ref 88, .int (nI p), .int (nI n), .long (lN (Wh S p i)), .null, .int (nI (p + i))] [] h = some (h, some (.long (lN (Wh S p (n - p))))) := by
    intro k
    induction k with
    | zero =>
      intro i hi
      have e : n - p = i := by omega
      have e2 : p + i = n := by omega
      rw [e, e2]
      simp only [r_X9_whole_0, r_X9_whole_1, r_X9_whole_2, r_X9_whole_3, r_X9_whole_5, r_X9_whole_7, r_X9_whole_8, r_X9_whole_11, r_X9_whole_12, r_X9_whole_14, r_X9_whole_15, r_X9_whole_18, r_X9_whole_20, r_X9_whole_21, r_X9_whole_22, r_X9_whole_23, r_X9_whole_24, r_X9_whole_25, r_X9_whole_28, r_X9_whole_31, r_X9_whole_32, ↓reduceIte, Option.isSome_some, Option.getD_some, rL_v, rL_n, cH_s, List.cons_append, List.nil_append, cat_i, cat_r, cat_n, ofN, Int32.le_refl]
    | succ k ih =>
      intro i hi
      have q : ¬ nI n ≤ nI (p + i) := by rw [nI_le' (by omega) (by omega)]; omega
      have kl := (hS.2 (p + i) (by omega)).2.2.2.2.1
      have e1 : (nI (8 * S 6 (p + i))).toInt64 = lN (8 * S 6 (p + i)) := nI_l (by omega)
      rw [r_X9_whole_5]
      simp only [r_X9_whole_7, r_X9_whole_8, r_X9_whole_11, r_X9_whole_12, r_X9_whole_14, r_X9_whole_15, r_X9_whole_18, r_X9_whole_20, r_X9_whole_21, r_X9_whole_22, r_X9_whole_23, r_X9_whole_24, r_X9_whole_25, r_X9_whole_28, ↓reduceIte, Option.isSome_some, Option.getD_some, rL_v, rL_n, cH_s, List.cons_append, List.nil_append, cat_i, cat_r, cat_n, ofN, g9_0 hm, g9_1 hm, g9_2 hm, g9_3 hm, g9_4 hm, g9_5 hm, g9_6 hm, g9_7 hm, g9_8 hm, g9_9 hm, g9_10 hm, g9_11 hm, g9_12 hm, g9_13 hm, g9_14 hm, g9_15 hm, g9_16 hm, g9_17 hm, g9_18 hm, g9_19 hm, g9_20 hm, g9_21 hm, g9_22 hm, g9_23 hm, g9_24 hm, g9_25 hm, g9_26 hm, g9_27 hm, g9_28 hm, g9_29 hm, g9_30 hm, g9_31 hm, g9_32 hm, g9_33 hm, g9_34 hm, g9_35 hm, g9_36 hm, g9_37 hm, g9_38 hm, g9_39 hm, ro9 hm, q, gI_nI m95 (by decide) (show p + i < 7 by omega), nI_m, e1, lN_mul, nI_add]
      exact ih (i + 1) (by omega)
  show Run M_X9_whole 0 [.ref 88, .int (nI p), .int (nI n), .null, .null, .null] [] h = _
  simp only [r_X9_whole_0, r_X9_whole_1, r_X9_whole_2, r_X9_whole_3, ↓reduceIte, Option.isSome_some, Option.getD_some, rL_v, rL_n, cH_s, List.cons_append, List.nil_append, cat_i, cat_r, cat_n, ofN]
  exact L (n - p) 0 (by omega)
