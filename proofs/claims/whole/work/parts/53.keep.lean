/-! ===== keep, goBack ===== -/
theorem c_copyFrom {h : AH} {a b n : Nat} {g : Nat → Nat} (hx : AgX h a) (hr : AgR h b g n) (hab : a + 2 < b ∨ b + 2 < a) (ha0 : 0 < a) (hn : n ≤ 5) : ∃ h', Call M_X0_copyFrom h [.ref a, .ref b] = some (h', none) ∧ AgR h' a g n ∧ (∀ x, x < a ∨ a + 2 < x → h'.2.2 x = h.2.2 x) ∧ h'.1 = h.1 ∧ h'.2.1 = h.2.1 := by
  obtain ⟨⟨x0, x1, x2, x3, x4, x7, x8, x9, x10, hA⟩, ⟨F0, hF⟩, ⟨G0, hG⟩⟩ := hx
  obtain ⟨hB, ⟨f1, b1, c1⟩, ⟨f2, b2, c2⟩⟩ := hr
  have L : ∀ k i H F G, i + k = 5 → H.2.2 a = some (oAg (nI (g 0)) (nI (g 1)) (nI (g 2)) (nI (g 3)) (nI (g 4)) (a + 1) (a + 2) x7 x8 x9 x10) → H.2.2 (a + 1) = some (iA 5 F) → H.2.2 (a + 2) = some (iA 5 G) → (∀ x, x < a ∨ a + 2 < x → H.2.2 x = h.2.2 x) → H.1 = h.1 → H.2.1 = h.2.1 → (∀ p, p < i → F p = f1 p ∧ G p = f2 p) → ∃ h', Run M_X0_copyFrom 30 [.ref a, .ref b, .int (nI i)] [] H = some (h', none) ∧ AgR h' a g n ∧ (∀ x, x < a ∨ a + 2 < x → h'.2.2 x = h.2.2 x) ∧ h'.1 = h.1 ∧ h'.2.1 = h.2.1 := by
    intro k
    induction k with
    | zero =>
      intro i H F G hi hA' hF' hG' hf q1 q2 hp
      have e : i = 5 := by omega
      subst e
      have hB' := (hf b (by omega)).trans hB
      have hne : b ≠ a := by omega
      refine ⟨_, by simp only [r_X0_copyFrom_30, r_X0_copyFrom_31, r_X0_copyFrom_32, r_X0_copyFrom_65, r_X0_copyFrom_66, r_X0_copyFrom_67, r_X0_copyFrom_70, r_X0_copyFrom_73, r_X0_copyFrom_74, r_X0_copyFrom_75, r_X0_copyFrom_78, r_X0_copyFrom_81, r_X0_copyFrom_82, r_X0_copyFrom_83, r_X0_copyFrom_86, r_X0_copyFrom_89, r_X0_copyFrom_90, r_X0_copyFrom_91, r_X0_copyFrom_94, r_X0_copyFrom_97, ↓reduceIte, Option.isSome_some, Option.getD_some, rL_v, rL_n, cH_s, List.cons_append, List.nil_append, cat_i, cat_r, cat_n, ofN, Int32.le_refl, g0_0 hA', p0_0 hA', g0_1 hA', p0_1 hA', g0_2 hA', p0_2 hA', g0_3 hA', p0_3 hA', g0_4 hA', p0_4 hA', g0_5 hA', p0_5 hA', g0_6 hA', p0_6 hA', g0_7 hA', p0_7 hA', g0_8 hA', p0_8 hA', g0_9 hA', p0_9 hA', g0_10 hA', p0_10 hA', ro0 hA', g0_0 hB', p0_0 hB', g0_1 hB', p0_1 hB', g0_2 hB', p0_2 hB', g0_3 hB', p0_3 hB', g0_4 hB', p0_4 hB', g0_5 hB', p0_5 hB', g0_6 hB', p0_6 hB', g0_7 hB', p0_7 hB', g0_8 hB', p0_8 hB', g0_9 hB', p0_9 hB', g0_10 hB', p0_10 hB', ro0 hB', rou0, gu0_0, pu0_0, gu0_1, pu0_1, gu0_2, pu0_2, gu0_3, pu0_3, gu0_4, pu0_4, gu0_5, pu0_5, gu0_6, pu0_6, gu0_7, pu0_7, gu0_8, pu0_8, gu0_9, pu0_9, gu0_10, pu0_10, gF_h hne], ⟨hup_get, ⟨F, by rw [hup_ne (by omega)]; exact hF', fun p hp' => by rw [(hp p (by omega)).1]; exact c1 p hp'⟩, ⟨G, by rw [hup_ne (by omega)]; exact hG', fun p hp' => by rw [(hp p (by omega)).2]; exact c2 p hp'⟩⟩, fun x hx => by rw [hup_ne (by omega)]; exact hf x hx, q1, q2⟩
    | succ k ih =>
      intro i H F G hi hA' hF' hG' hf q1 q2 hp
      have hB' := (hf b (by omega)).trans hB
      have hb1 := (hf (b + 1) (by omega)).trans b1
      have hb2 := (hf (b + 2) (by omega)).trans b2
      have q0 : ¬ nI 5 ≤ nI i := by rw [nI_le' (by omega) (by omega)]; omega
      have I := ih (i + 1) (hup (hup H (a + 1) (iA 5 (upd F i (f1 i)))) (a + 2) (iA 5 (upd G i (f2 i)))) (upd F i (f1 i)) (upd G i (f2 i)) (by omega) (by rw [hup_ne (by omega), hup_ne (by omega)]; exact hA') (by rw [hup_ne (by omega)]; exact hup_get) hup_get (fun x hx => by rw [hup_ne (by omega), hup_ne (by omega)]; exact hf x hx) q1 q2 (fun p hp' => by
        by_cases e : p = i
        · subst e; exact ⟨pk_us, pk_us⟩
        · rw [pk_un e, pk_un e]; exact hp p (by omega))
      have hA2 : (hup H (a + 1) (iA 5 (upd F i (f1 i)))).2.2 a = some (oAg (nI (g 0)) (nI (g 1)) (nI (g 2)) (nI (g 3)) (nI (g 4)) (a + 1) (a + 2) x7 x8 x9 x10) := (hup_ne (by omega)).trans hA'
      have hB2 : (hup H (a + 1) (iA 5 (upd F i (f1 i)))).2.2 b = _ := (hup_ne (by omega)).trans hB'
      have hb3 : (hup H (a + 1) (iA 5 (upd F i (f1 i)))).2.2 (b + 2) = _ := (hup_ne (by omega)).trans hb2
      have hG2 : (hup H (a + 1) (iA 5 (upd F i (f1 i)))).2.2 (a + 2) = _ := (hup_ne (by omega)).trans hG'
      rw [r_X0_copyFrom_30]
      simp only [r_X0_copyFrom_31, r_X0_copyFrom_32, r_X0_copyFrom_35, r_X0_copyFrom_36, r_X0_copyFrom_39, r_X0_copyFrom_40, r_X0_copyFrom_41, r_X0_copyFrom_44, r_X0_copyFrom_45, r_X0_copyFrom_46, r_X0_copyFrom_47, r_X0_copyFrom_48, r_X0_copyFrom_51, r_X0_copyFrom_52, r_X0_copyFrom_53, r_X0_copyFrom_56, r_X0_copyFrom_57, r_X0_copyFrom_58, r_X0_copyFrom_59, r_X0_copyFrom_62, ↓reduceIte, Option.isSome_some, Option.getD_some, rL_v, rL_n, cH_s, List.cons_append, List.nil_append, cat_i, cat_r, cat_n, ofN, q0, g0_0 hA', g0_1 hA', g0_2 hA', g0_3 hA', g0_4 hA', g0_5 hA', g0_6 hA', g0_7 hA', g0_8 hA', g0_9 hA', g0_10 hA', ro0 hA', g0_0 hB', g0_1 hB', g0_2 hB', g0_3 hB', g0_4 hB', g0_5 hB', g0_6 hB', g0_7 hB', g0_8 hB', g0_9 hB', g0_10 hB', ro0 hB', g0_0 hA2, g0_1 hA2, g0_2 hA2, g0_3 hA2, g0_4 hA2, g0_5 hA2, g0_6 hA2, g0_7 hA2, g0_8 hA2, g0_9 hA2, g0_10 hA2, ro0 hA2, g0_0 hB2, g0_1 hB2, g0_2 hB2, g0_3 hB2, g0_4 hB2, g0_5 hB2, g0_6 hB2, g0_7 hB2, g0_8 hB2, g0_9 hB2, g0_10 hB2, ro0 hB2, gI_nI hb1 (by decide) (show i < 5 by omega), gI_nI hb3 (by decide) (show i < 5 by omega), pI_nI hF' (by decide) (show a + 1 ≠ 0 by omega) (show i < 5 by omega), pI_nI hG2 (by decide) (show a + 2 ≠ 0 by omega) (show i < 5 by omega), nI_add]
      exact I
  have hne : b ≠ a := by omega
  have hB1 : (hup h a (oAg (nI (g 0)) (nI (g 1)) (nI (g 2)) x3 x4 (a + 1) (a + 2) x7 x8 x9 x10)).2.2 b = _ := (hup_ne hne).trans hB
  have I := L 5 0 (hup h a (oAg (nI (g 0)) (nI (g 1)) (nI (g 2)) (nI (g 3)) (nI (g 4)) (a + 1) (a + 2) x7 x8 x9 x10)) F0 G0 (by omega) hup_get (by rw [hup_ne (by omega)]; exact hF) (by rw [hup_ne (by omega)]; exact hG) (fun x hx => hup_ne (by omega)) rfl rfl (fun p hp => by omega)
  show ∃ h', Run M_X0_copyFrom 0 [.ref a, .ref b, .null] [] h = some (h', none) ∧ _
  simp only [r_X0_copyFrom_0, r_X0_copyFrom_1, r_X0_copyFrom_2, r_X0_copyFrom_5, r_X0_copyFrom_6, r_X0_copyFrom_9, r_X0_copyFrom_10, r_X0_copyFrom_13, r_X0_copyFrom_16, r_X0_copyFrom_17, r_X0_copyFrom_18, r_X0_copyFrom_21, r_X0_copyFrom_22, r_X0_copyFrom_25, r_X0_copyFrom_28, r_X0_copyFrom_29, ↓reduceIte, Option.isSome_some, Option.getD_some, rL_v, rL_n, cH_s, List.cons_append, List.nil_append, cat_i, cat_r, cat_n, ofN, g0_0 hA, g0_1 hA, g0_2 hA, g0_3 hA, g0_4 hA, g0_5 hA, g0_6 hA, g0_7 hA, g0_8 hA, g0_9 hA, g0_10 hA, ro0 hA, g0_0 hB, g0_1 hB, g0_2 hB, g0_3 hB, g0_4 hB, g0_5 hB, g0_6 hB, g0_7 hB, g0_8 hB, g0_9 hB, g0_10 hB, ro0 hB, c_setCosts hA, ro0 hA, g0_0 hB1, g0_1 hB1, g0_2 hB1, g0_3 hB1, g0_4 hB1, g0_5 hB1, g0_6 hB1, g0_7 hB1, g0_8 hB1, g0_9 hB1, g0_10 hB1, ro0 hB1, c_setSign hup_get, hup_hup, rou0, gu0_0, pu0_0, gu0_1, pu0_1, gu0_2, pu0_2, gu0_3, pu0_3, gu0_4, pu0_4, gu0_5, pu0_5, gu0_6, pu0_6, gu0_7, pu0_7, gu0_8, pu0_8, gu0_9, pu0_9, gu0_10, pu0_10]
  exact I
