/-! ===== out: the call ===== -/
theorem RepCo.lo {h h' : AH} {S : SS} {o : Nat} (hS : S 12 0 ≤ 7) (r : RepCo h S o) (hf : ∀ x, x < 17 ∨ 31 < x → h'.2.2 x = h.2.2 x) (ha : LoR h' S) : RepCo h' S o := by
  obtain ⟨h0, h1, h2, h3, h4, h5, h6, h7, h8, h9⟩ := r
  exact ⟨h0, by rw [hf 1 (by omega)]; exact h1, h2.fr (fun x _ _ => hf x (by omega)), h3.fr hS (fun x _ _ => hf x (by omega)), h4.fr (fun x _ _ => hf x (by omega)), h5.fr (fun x _ _ => hf x (by omega)), ha, h7.fr (fun x _ _ => hf x (by omega)), h8.fr (fun x _ _ => hf x (by omega)), h9.fr (fun x _ => hf x (by omega))⟩
def oR (S : SS) (t w k : Nat) : Int32 := if w = 0 then nI (ofo S t k).1 else if w = 1 then nI (ofo S t k).2.1 else fI (ofo S t k).2.2.1
theorem m_out {h : AH} {S : SS} {t w : Nat} (hI : Inv S) (hr : RepM h S) (ht : t ≤ 420) (hw : w ≤ 2) : ∃ h', Call M_X9_out h [.ref 88, .int (nI t), .int (nI w)] = some (h', some (.int (oR S t w (2 ^ S 12 0)))) ∧ RepM h' S ∧ frM h h' := by
  have hS := hI.1
  have h7 := hS.1
  have p7 := pow7 h7
  have hC := Ch_lt hS (Nat.le_refl (S 12 0))
  have n10 : ¬ nI 1 = nI 0 := by decide
  have L : ∀ (m k : Nat) (H : AH) (x9 x10 : Value), k + m = 2 ^ S 12 0 → RepM H S → frM h H → ∃ h', Run M_X9_out 33 [.ref 88, .int (nI t), .int (nI w), .int (nI (ofo S t k).1), .int (nI (ofo S t k).2.1), .int (fI (ofo S t k).2.2.1), .long (lN (ofo S t k).2.2.2), .null, .int (nI k), x9, x10] [] H = some (h', some (.int (oR S t w (2 ^ S 12 0)))) ∧ RepM h' S ∧ frM h h' := by
    intro m
    induction m with
    | zero =>
      intro k H x9 x10 hk hr hf
      have e : k = 2 ^ S 12 0 := by omega
      obtain ⟨⟨_, _, _, _, _, _, _, _, _, _, _, hm⟩, -⟩ := id hr
      refine ⟨H, ?_, hr, hf⟩
      have e2 : (1 : Int32) <<< (nI (S 12 0) &&& 31) = nI (2 ^ S 12 0) := shl1 h7
      unfold oR
      rw [← e]
      rw [← e] at e2
      have q1 : (nI w = nI 0) = (w = 0) := nI_inj (by omega) (by decide)
      have q2 : (nI w = nI 1) = (w = 1) := nI_inj (by omega) (by decide)
      have sh : nI 1 <<< (nI (S 12 0) &&& 31) = nI k := e2
      by_cases a : w = 0
      · rw [if_pos a]
        simp only [r_X9_out_33, r_X9_out_35, r_X9_out_36, r_X9_out_37, r_X9_out_40, r_X9_out_41, r_X9_out_132, r_X9_out_133, r_X9_out_136, r_X9_out_137, r_X9_out_152, ↓reduceIte, Option.isSome_some, Option.getD_some, rL_v, rL_n, cH_s, List.cons_append, List.nil_append, cat_i, cat_r, cat_n, ofN, g9_0 hm, g9_1 hm, g9_2 hm, g9_3 hm, g9_4 hm, g9_5 hm, g9_6 hm, g9_7 hm, g9_8 hm, g9_9 hm, g9_10 hm, g9_11 hm, g9_12 hm, g9_13 hm, g9_14 hm, g9_15 hm, g9_16 hm, g9_17 hm, g9_18 hm, g9_19 hm, g9_20 hm, g9_21 hm, g9_22 hm, g9_23 hm, g9_24 hm, g9_25 hm, g9_26 hm, g9_27 hm, g9_28 hm, g9_29 hm, g9_30 hm, g9_31 hm, g9_32 hm, g9_33 hm, g9_34 hm, g9_35 hm, g9_36 hm, g9_37 hm, g9_38 hm, g9_39 hm, ro9 hm, sh, Int32.le_refl, q1, a]
      · rw [if_neg a]
        by_cases b : w = 1
        · rw [if_pos b]
          simp only [r_X9_out_33, r_X9_out_35, r_X9_out_36, r_X9_out_37, r_X9_out_40, r_X9_out_41, r_X9_out_132, r_X9_out_133, r_X9_out_140, r_X9_out_141, r_X9_out_142, r_X9_out_145, r_X9_out_147, r_X9_out_152, ↓reduceIte, Option.isSome_some, Option.getD_some, rL_v, rL_n, cH_s, List.cons_append, List.nil_append, cat_i, cat_r, cat_n, ofN, g9_0 hm, g9_1 hm, g9_2 hm, g9_3 hm, g9_4 hm, g9_5 hm, g9_6 hm, g9_7 hm, g9_8 hm, g9_9 hm, g9_10 hm, g9_11 hm, g9_12 hm, g9_13 hm, g9_14 hm, g9_15 hm, g9_16 hm, g9_17 hm, g9_18 hm, g9_19 hm, g9_20 hm, g9_21 hm, g9_22 hm, g9_23 hm, g9_24 hm, g9_25 hm, g9_26 hm, g9_27 hm, g9_28 hm, g9_29 hm, g9_30 hm, g9_31 hm, g9_32 hm, g9_33 hm, g9_34 hm, g9_35 hm, g9_36 hm, g9_37 hm, g9_38 hm, g9_39 hm, ro9 hm, sh, Int32.le_refl, q1, a, q2, b, n10]
        · rw [if_neg b]
          simp only [r_X9_out_33, r_X9_out_35, r_X9_out_36, r_X9_out_37, r_X9_out_40, r_X9_out_41, r_X9_out_132, r_X9_out_133, r_X9_out_140, r_X9_out_141, r_X9_out_142, r_X9_out_150, r_X9_out_152, ↓reduceIte, Option.isSome_some, Option.getD_some, rL_v, rL_n, cH_s, List.cons_append, List.nil_append, cat_i, cat_r, cat_n, ofN, g9_0 hm, g9_1 hm, g9_2 hm, g9_3 hm, g9_4 hm, g9_5 hm, g9_6 hm, g9_7 hm, g9_8 hm, g9_9 hm, g9_10 hm, g9_11 hm, g9_12 hm, g9_13 hm, g9_14 hm, g9_15 hm, g9_16 hm, g9_17 hm, g9_18 hm, g9_19 hm, g9_20 hm, g9_21 hm, g9_22 hm, g9_23 hm, g9_24 hm, g9_25 hm, g9_26 hm, g9_27 hm, g9_28 hm, g9_29 hm, g9_30 hm, g9_31 hm, g9_32 hm, g9_33 hm, g9_34 hm, g9_35 hm, g9_36 hm, g9_37 hm, g9_38 hm, g9_39 hm, ro9 hm, sh, Int32.le_refl, q1, a, q2, b]
    | succ m ih =>
      intro k H x9 x10 hk hr hf
      have k7 : k < 128 := by omega
      obtain ⟨⟨_, _, _, _, _, _, _, _, _, _, _, hm⟩, -⟩ := id hr
      have q0 : ¬ nI (2 ^ S 12 0) ≤ nI k := by rw [nI_le' (by omega) (by omega)]; omega
      have wl := Wo_le hS k (S 12 0) (Nat.le_refl _) t
      have ol := ofo_w hS t k
      have ob := ofo_b S t k
      have T0 : ∃ H1, Run M_X9_out 33 [.ref 88, .int (nI t), .int (nI w), .int (nI (ofo S t k).1), .int (nI (ofo S t k).2.1), .int (fI (ofo S t k).2.2.1), .long (lN (ofo S t k).2.2.2), .null, .int (nI k), x9, x10] [] H = Run M_X9_out 66 [.ref 88, .int (nI t), .int (nI w), .int (nI (ofo S t k).1), .int (nI (ofo S t k).2.1), .int (fI (ofo S t k).2.2.1), .long (lN (ofo S t k).2.2.2), .null, .int (nI k), .long (lN (Wo S k (S 12 0) t)), .null] [] H1 ∧ RepM H1 S ∧ frM h H1 := by
        by_cases mb : mbB S k (S 12 0) = true
        · obtain ⟨H1, c1, c2, c3, c4⟩ := c_weightOut hS hr k7 ht
          refine ⟨H1, ?_, hr.ws c2 c3 c4, fun a ha => (c2.frM.1 a ha).trans (hf.1 a ha), c2.2.1.trans hf.2.1, c2.2.2.trans hf.2.2⟩
          rw [r_X9_out_33]
          simp only [r_X9_out_35, r_X9_out_36, r_X9_out_37, r_X9_out_40, r_X9_out_41, r_X9_out_44, r_X9_out_45, r_X9_out_47, r_X9_out_50, r_X9_out_53, r_X9_out_54, r_X9_out_56, r_X9_out_57, r_X9_out_60, r_X9_out_64, ↓reduceIte, Option.isSome_some, Option.getD_some, rL_v, rL_n, cH_s, List.cons_append, List.nil_append, cat_i, cat_r, cat_n, ofN, g9_0 hm, g9_1 hm, g9_2 hm, g9_3 hm, g9_4 hm, g9_5 hm, g9_6 hm, g9_7 hm, g9_8 hm, g9_9 hm, g9_10 hm, g9_11 hm, g9_12 hm, g9_13 hm, g9_14 hm, g9_15 hm, g9_16 hm, g9_17 hm, g9_18 hm, g9_19 hm, g9_20 hm, g9_21 hm, g9_22 hm, g9_23 hm, g9_24 hm, g9_25 hm, g9_26 hm, g9_27 hm, g9_28 hm, g9_29 hm, g9_30 hm, g9_31 hm, g9_32 hm, g9_33 hm, g9_34 hm, g9_35 hm, g9_36 hm, g9_37 hm, g9_38 hm, g9_39 hm, ro9 hm, shl1 h7, q0, c_mayBeOut hS hr k7, ite_bI, mb, c1]
        · have e0 : Wo S k (S 12 0) t = 0 := Wo_mb S k (S 12 0) t (by cases hq : mbB S k (S 12 0) <;> simp_all)
          refine ⟨H, ?_, hr, hf⟩
          rw [e0, r_X9_out_33]
          simp only [r_X9_out_35, r_X9_out_36, r_X9_out_37, r_X9_out_40, r_X9_out_41, r_X9_out_44, r_X9_out_45, r_X9_out_47, r_X9_out_50, r_X9_out_63, r_X9_out_64, ↓reduceIte, Option.isSome_some, Option.getD_some, rL_v, rL_n, cH_s, List.cons_append, List.nil_append, cat_i, cat_r, cat_n, ofN, g9_0 hm, g9_1 hm, g9_2 hm, g9_3 hm, g9_4 hm, g9_5 hm, g9_6 hm, g9_7 hm, g9_8 hm, g9_9 hm, g9_10 hm, g9_11 hm, g9_12 hm, g9_13 hm, g9_14 hm, g9_15 hm, g9_16 hm, g9_17 hm, g9_18 hm, g9_19 hm, g9_20 hm, g9_21 hm, g9_22 hm, g9_23 hm, g9_24 hm, g9_25 hm, g9_26 hm, g9_27 hm, g9_28 hm, g9_29 hm, g9_30 hm, g9_31 hm, g9_32 hm, g9_33 hm, g9_34 hm, g9_35 hm, g9_36 hm, g9_37 hm, g9_38 hm, g9_39 hm, ro9 hm, shl1 h7, q0, c_mayBeOut hS hr k7, ite_bI, mb, Bool.false_eq_true]
      obtain ⟨H1, t1, t2, t3⟩ := T0
      obtain ⟨h', p1, p2⟩ := ih (k + 1) H1 (.long (lN (Wo S k (S 12 0) t))) .null (by omega) t2 t3
      refine ⟨h', ?_, p2⟩
      rw [t1, ← p1]
      have lw0 : lN (Wo S k (S 12 0) t) ≤ lN 0 ↔ Wo S k (S 12 0) t ≤ 0 := by rw [lN_le' (by omega) (by decide)]
      have cg : lN (Wo S k (S 12 0) t) ≤ lN (ofo S t k).2.2.2 ↔ Wo S k (S 12 0) t ≤ (ofo S t k).2.2.2 := by rw [lN_le' (by omega) (by omega)]
      have cz : (nI (ofo S t k).1 = nI 0) = ((ofo S t k).1 = 0) := nI_inj (by omega) (by decide)
      by_cases w0 : Wo S k (S 12 0) t ≤ 0
      · have e : ofo S t (k + 1) = ofo S t k := by simp only [ofo]; rw [if_neg (by omega)]
        rw [e]
        simp only [r_X9_out_66, r_X9_out_68, r_X9_out_69, r_X9_out_70, r_X9_out_126, r_X9_out_129, ↓reduceIte, Option.isSome_some, Option.getD_some, rL_v, rL_n, cH_s, List.cons_append, List.nil_append, cat_i, cat_r, cat_n, ofN, cmp_le, lw0, w0, nI_add]
      · have E : ofo S t (k + 1) = ((ofo S t k).1 + 1, if (ofo S t k).1 = 0 then k else (ofo S t k).2.1 &&& k, if (ofo S t k).2.2.2 < Wo S k (S 12 0) t then k + 1 else (ofo S t k).2.2.1, if (ofo S t k).2.2.2 < Wo S k (S 12 0) t then Wo S k (S 12 0) t else (ofo S t k).2.2.2) := by
          simp only [ofo]; rw [if_pos (by omega)]
        rw [E]
        have T1 : Run M_X9_out 66 [.ref 88, .int (nI t), .int (nI w), .int (nI (ofo S t k).1), .int (nI (ofo S t k).2.1), .int (fI (ofo S t k).2.2.1), .long (lN (ofo S t k).2.2.2), .null, .int (nI k), .long (lN (Wo S k (S 12 0) t)), .null] [] H1 = Run M_X9_out 92 [.ref 88, .int (nI t), .int (nI w), .int (nI ((ofo S t k).1 + 1)), .int (nI (if (ofo S t k).1 = 0 then k else (ofo S t k).2.1 &&& k)), .int (fI (ofo S t k).2.2.1), .long (lN (ofo S t k).2.2.2), .null, .int (nI k), .long (lN (Wo S k (S 12 0) t)), .null] [] H1 := by
          by_cases z : (ofo S t k).1 = 0
          · rw [if_pos z]
            simp only [r_X9_out_66, r_X9_out_68, r_X9_out_69, r_X9_out_70, r_X9_out_73, r_X9_out_74, r_X9_out_77, r_X9_out_79, r_X9_out_87, r_X9_out_89, ↓reduceIte, Option.isSome_some, Option.getD_some, rL_v, rL_n, cH_s, List.cons_append, List.nil_append, cat_i, cat_r, cat_n, ofN, cmp_le, lw0, w0, cz, z, nI_add]
          · rw [if_neg z]
            simp only [r_X9_out_66, r_X9_out_68, r_X9_out_69, r_X9_out_70, r_X9_out_73, r_X9_out_74, r_X9_out_82, r_X9_out_84, r_X9_out_86, r_X9_out_87, r_X9_out_89, ↓reduceIte, Option.isSome_some, Option.getD_some, rL_v, rL_n, cH_s, List.cons_append, List.nil_append, cat_i, cat_r, cat_n, ofN, cmp_le, lw0, w0, cz, z, nI_and, nI_add]
        rw [T1]
        clear T1
        by_cases g : (ofo S t k).2.2.2 < Wo S k (S 12 0) t
        · have gn : ¬ Wo S k (S 12 0) t ≤ (ofo S t k).2.2.2 := by omega
          rw [if_pos g, if_pos g, fI_s]
          simp only [r_X9_out_92, r_X9_out_94, r_X9_out_96, r_X9_out_97, r_X9_out_100, r_X9_out_102, r_X9_out_107, r_X9_out_109, r_X9_out_111, r_X9_out_113, r_X9_out_114, r_X9_out_117, r_X9_out_119, r_X9_out_124, r_X9_out_126, r_X9_out_129, ↓reduceIte, Option.isSome_some, Option.getD_some, rL_v, rL_n, cH_s, List.cons_append, List.nil_append, cat_i, cat_r, cat_n, ofN, cmp_le, cg, gn, nI_add]
        · have gn : Wo S k (S 12 0) t ≤ (ofo S t k).2.2.2 := by omega
          rw [if_neg g, if_neg g]
          simp only [r_X9_out_92, r_X9_out_94, r_X9_out_96, r_X9_out_97, r_X9_out_105, r_X9_out_107, r_X9_out_109, r_X9_out_111, r_X9_out_113, r_X9_out_114, r_X9_out_122, r_X9_out_124, r_X9_out_126, r_X9_out_129, ↓reduceIte, Option.isSome_some, Option.getD_some, rL_v, rL_n, cH_s, List.cons_append, List.nil_append, cat_i, cat_r, cat_n, ofN, cmp_le, cg, gn, nI_add]
  obtain ⟨h', p1, p2⟩ := L (2 ^ S 12 0) 0 h .null .null (by omega) hr frM.rf
  refine ⟨h', ?_, p2⟩
  have hx := rng_in (j := t) (B := 420) (by decide) ht
  have hy := rng_in (j := w) (B := 2) (by decide) hw
  have em : (-1 : Int32) = fI 0 := by decide
  show Run M_X9_out 0 [.ref 88, .int (nI t), .int (nI w), .null, .null, .null, .null, .null, .null, .null, .null] [] h = _
  simp only [r_X9_out_0, r_X9_out_1, r_X9_out_4, r_X9_out_7, r_X9_out_8, r_X9_out_9, r_X9_out_10, r_X9_out_13, r_X9_out_16, r_X9_out_18, r_X9_out_19, r_X9_out_20, r_X9_out_21, r_X9_out_22, r_X9_out_24, r_X9_out_25, r_X9_out_27, r_X9_out_28, r_X9_out_30, r_X9_out_31, ↓reduceIte, Option.isSome_some, Option.getD_some, rL_v, rL_n, cH_s, List.cons_append, List.nil_append, cat_i, cat_r, cat_n, ofN, c_mTenth, c_in, ite_bI, hx, hy, and_self, em]
  exact p1
theorem c_out {h : AH} {S : SS} {t w o : Nat} (hI : Inv S) (hr : RepCo h S o) (ht : t ≤ 420) (hw : w ≤ 2) : ∃ h', Call M_X8_out h [.ref 1, .int (nI t), .int (nI w)] = some (h', some (.int (oR S t w (2 ^ S 12 0)))) ∧ RepCo h' S o ∧ frC h h' := by
  have hS := hI.1
  have h7 := hS.1
  obtain ⟨h0, h1, -, ⟨hH1, hRow, -, -, -, -, hP⟩, -, -, ⟨hX, hL⟩, -⟩ := id hr
  have hx := rng_in (j := t) (B := 420) (by decide) ht
  have hy := rng_in (j := w) (B := 2) (by decide) hw
  have W : ∃ h', Call M_X5_weighOnce h [.ref 17, .ref o] = some (h', none) ∧ LoX h' ∧ h'.2.2 17 = some (oLo 18 19 20 21 22 31 (nI 1)) ∧ LoD h' S ∧ (∀ a, a < 17 ∨ 31 < a → h'.2.2 a = h.2.2 a) ∧ h'.1 = h.1 ∧ h'.2.1 = h.2.1 := by
    rcases hL with h17 | ⟨h17, hD⟩
    · exact c_weighOnce hS (by omega) ⟨_, _, _, _, _, hH1⟩ hRow hP hX h17
    · refine ⟨h, ?_, hX, h17, hD, fun _ _ => rfl, rfl, rfl⟩
      show Run M_X5_weighOnce 0 [.ref 17, .ref o, .null, .null, .null, .null] [] h = _
      simp only [r_X5_weighOnce_0, r_X5_weighOnce_1, r_X5_weighOnce_4, r_X5_weighOnce_7, ↓reduceIte, Option.isSome_some, Option.getD_some, rL_v, rL_n, cH_s, List.cons_append, List.nil_append, cat_i, cat_r, cat_n, ofN, g5_0 h17, g5_1 h17, g5_2 h17, g5_3 h17, g5_4 h17, g5_5 h17, g5_6 h17, ro5 h17, ne10]
  obtain ⟨h', c1, c2, c3, c4, c5, c6, c7⟩ := W
  refine ⟨h', ?_, hr.lo h7 c5 ⟨c2, Or.inr ⟨c3, c4⟩⟩, fun a ha => c5 a (by omega), c6, c7⟩
  have h17 : ∃ fl, h.2.2 17 = some (oLo 18 19 20 21 22 31 fl) := by
    rcases hL with h17 | ⟨h17, -⟩
    · exact ⟨_, h17⟩
    · exact ⟨_, h17⟩
  obtain ⟨fl, h17⟩ := h17
  have h1' := (c5 1 (by omega)).trans h1
  obtain ⟨⟨f1, a1, b1⟩, ⟨f2, a2, b2⟩, ⟨f3, a3, b3⟩⟩ := c4
  have ti : t < 421 := by omega
  have q1 : (nI w = nI 0) = (w = 0) := nI_inj (by omega) (by decide)
  have q2 : (nI w = nI 1) = (w = 1) := nI_inj (by omega) (by decide)
  have n10 : ¬ nI 1 = nI 0 := by decide
  show Run M_X8_out 0 [.ref 1, .int (nI t), .int (nI w)] [] h = _
  unfold oR
  by_cases a : w = 0
  · rw [if_pos a]
    subst a
    simp only [r_X8_out_0, r_X8_out_1, r_X8_out_4, r_X8_out_7, r_X8_out_8, r_X8_out_9, r_X8_out_10, r_X8_out_13, r_X8_out_16, r_X8_out_18, r_X8_out_19, r_X8_out_20, r_X8_out_23, r_X8_out_24, r_X8_out_27, r_X8_out_30, r_X8_out_31, r_X8_out_56, r_X8_out_57, r_X8_out_60, r_X8_out_63, r_X8_out_64, r_X8_out_65, ↓reduceIte, Option.isSome_some, Option.getD_some, rL_v, rL_n, cH_s, List.cons_append, List.nil_append, cat_i, cat_r, cat_n, ofN, c_isTenth, c_within, ite_bI, hx, hy, and_self, g8_0 h1, g8_1 h1, g8_2 h1, g8_3 h1, g8_4 h1, g8_5 h1, g8_6 h1, g8_7 h1, g8_8 h1, ro8 h1, ro5 h17, c1, g8_0 h1', g8_1 h1', g8_2 h1', g8_3 h1', g8_4 h1', g8_5 h1', g8_6 h1', g8_7 h1', g8_8 h1', ro8 h1', g5_0 c3, g5_1 c3, g5_2 c3, g5_3 c3, g5_4 c3, g5_5 c3, g5_6 c3, ro5 c3, gI_nI a1 (by decide) ti, b1 t ht]
  · rw [if_neg a]
    by_cases b : w = 1
    · rw [if_pos b]
      subst b
      simp only [r_X8_out_0, r_X8_out_1, r_X8_out_4, r_X8_out_7, r_X8_out_8, r_X8_out_9, r_X8_out_10, r_X8_out_13, r_X8_out_16, r_X8_out_18, r_X8_out_19, r_X8_out_20, r_X8_out_23, r_X8_out_24, r_X8_out_27, r_X8_out_30, r_X8_out_31, r_X8_out_66, r_X8_out_67, r_X8_out_70, r_X8_out_73, r_X8_out_74, r_X8_out_75, ↓reduceIte, Option.isSome_some, Option.getD_some, rL_v, rL_n, cH_s, List.cons_append, List.nil_append, cat_i, cat_r, cat_n, ofN, c_isTenth, c_within, ite_bI, hx, hy, and_self, g8_0 h1, g8_1 h1, g8_2 h1, g8_3 h1, g8_4 h1, g8_5 h1, g8_6 h1, g8_7 h1, g8_8 h1, ro8 h1, ro5 h17, c1, n10, g8_0 h1', g8_1 h1', g8_2 h1', g8_3 h1', g8_4 h1', g8_5 h1', g8_6 h1', g8_7 h1', g8_8 h1', ro8 h1', g5_0 c3, g5_1 c3, g5_2 c3, g5_3 c3, g5_4 c3, g5_5 c3, g5_6 c3, ro5 c3, gI_nI a2 (by decide) ti, b2 t ht]
    · rw [if_neg b]
      simp only [r_X8_out_0, r_X8_out_1, r_X8_out_4, r_X8_out_7, r_X8_out_8, r_X8_out_9, r_X8_out_10, r_X8_out_13, r_X8_out_16, r_X8_out_18, r_X8_out_19, r_X8_out_20, r_X8_out_23, r_X8_out_24, r_X8_out_27, r_X8_out_30, r_X8_out_31, r_X8_out_76, r_X8_out_77, r_X8_out_80, r_X8_out_83, r_X8_out_84, r_X8_out_85, ↓reduceIte, Option.isSome_some, Option.getD_some, rL_v, rL_n, cH_s, List.cons_append, List.nil_append, cat_i, cat_r, cat_n, ofN, c_isTenth, c_within, ite_bI, hx, hy, and_self, g8_0 h1, g8_1 h1, g8_2 h1, g8_3 h1, g8_4 h1, g8_5 h1, g8_6 h1, g8_7 h1, g8_8 h1, ro8 h1, ro5 h17, c1, q1, a, q2, b, g8_0 h1', g8_1 h1', g8_2 h1', g8_3 h1', g8_4 h1', g8_5 h1', g8_6 h1', g8_7 h1', g8_8 h1', ro8 h1', g5_0 c3, g5_1 c3, g5_2 c3, g5_3 c3, g5_4 c3, g5_5 c3, g5_6 c3, ro5 c3, gI_nI a3 (by decide) ti, b3 t ht]
theorem op_out {S : SS} (hI : Inv S) (x y : Int32) : OpV M_X8_out M_X9_out [.int x, .int y] S := by
  by_cases hx : nI 0 ≤ x ∧ x ≤ nI 420
  · by_cases hy : nI 0 ≤ y ∧ y ≤ nI 2
    · obtain ⟨t, ht, rfl⟩ := rng (by decide) hx
      obtain ⟨w, hw, rfl⟩ := rng (by decide) hy
      exact op_mk hI (fun h o hr => c_out hI hr ht hw) (fun h hr => m_out hI hr ht hw)
    · refine OpV.read (r := .int (-1000000002)) hI (fun h hr => ?_) (fun h hr => ?_)
      · show Run M_X8_out 0 [.ref 1, .int x, .int y] [] h = _
        simp only [r_X8_out_0, r_X8_out_1, r_X8_out_4, r_X8_out_7, r_X8_out_8, r_X8_out_9, r_X8_out_10, r_X8_out_13, r_X8_out_16, r_X8_out_18, ↓reduceIte, Option.isSome_some, Option.getD_some, rL_v, rL_n, cH_s, List.cons_append, List.nil_append, cat_i, cat_r, cat_n, ofN, c_isTenth, c_within, ite_bI, hx, hy, and_self]
      · show Run M_X9_out 0 [.ref 88, .int x, .int y, .null, .null, .null, .null, .null, .null, .null, .null] [] h = _
        simp only [r_X9_out_0, r_X9_out_1, r_X9_out_4, r_X9_out_7, r_X9_out_8, r_X9_out_9, r_X9_out_10, r_X9_out_13, r_X9_out_16, r_X9_out_18, ↓reduceIte, Option.isSome_some, Option.getD_some, rL_v, rL_n, cH_s, List.cons_append, List.nil_append, cat_i, cat_r, cat_n, ofN, c_mTenth, c_in, ite_bI, hx, hy, and_self]
  · refine OpV.read (r := .int (-1000000002)) hI (fun h hr => ?_) (fun h hr => ?_)
    · show Run M_X8_out 0 [.ref 1, .int x, .int y] [] h = _
      simp only [r_X8_out_0, r_X8_out_1, r_X8_out_4, r_X8_out_7, r_X8_out_8, r_X8_out_9, r_X8_out_10, r_X8_out_13, r_X8_out_16, r_X8_out_18, ↓reduceIte, Option.isSome_some, Option.getD_some, rL_v, rL_n, cH_s, List.cons_append, List.nil_append, cat_i, cat_r, cat_n, ofN, c_isTenth, ite_bI, hx]
    · show Run M_X9_out 0 [.ref 88, .int x, .int y, .null, .null, .null, .null, .null, .null, .null, .null] [] h = _
      simp only [r_X9_out_0, r_X9_out_1, r_X9_out_4, r_X9_out_7, r_X9_out_8, r_X9_out_9, r_X9_out_10, r_X9_out_13, r_X9_out_16, r_X9_out_18, ↓reduceIte, Option.isSome_some, Option.getD_some, rL_v, rL_n, cH_s, List.cons_append, List.nil_append, cat_i, cat_r, cat_n, ofN, c_mTenth, ite_bI, hx]
