/-! ===== hall: the model settles ===== -/
def cpI (f g : Nat → Int32) (k i : Nat) : Int32 := if i < k then f i else g i
theorem cpI_0 (f g : Nat → Int32) : cpI f g 0 = g := by funext i; unfold cpI; rw [if_neg (by omega)]
theorem cpI_s (f g : Nat → Int32) (k : Nat) : upd (cpI f g k) k (f k) = cpI f g (k + 1) := by
  funext i
  by_cases e : i = k
  · subst e; rw [pk_us]; unfold cpI; rw [if_pos (by omega)]
  · rw [pk_un e]; unfold cpI
    by_cases a : i < k
    · rw [if_pos a, if_pos (by omega)]
    · rw [if_neg a, if_neg (by omega)]
/-- the same, from 5 on -/
def cpL (f g : Nat → Int32) (k i : Nat) : Int32 := if 5 ≤ i ∧ i < 5 + k then f (i - 5) else g i
theorem cpL_0 (f g : Nat → Int32) : cpL f g 0 = g := by funext i; unfold cpL; rw [if_neg (by omega)]
theorem cpL_s (f g : Nat → Int32) (k : Nat) : upd (cpL f g k) (5 + k) (f k) = cpL f g (k + 1) := by
  funext i
  by_cases e : i = 5 + k
  · subst e; rw [pk_us]; unfold cpL; rw [if_pos (by omega), show 5 + k - 5 = k by omega]
  · rw [pk_un e]; unfold cpL
    by_cases a : 5 ≤ i ∧ i < 5 + k
    · rw [if_pos a, if_pos (by omega)]
    · rw [if_neg a, if_neg (by omega)]
set_option maxHeartbeats 4000000 in
theorem m_settles {h : AH} {S : SS} {np npl ntl sg co : Nat} {at' pl tk v f fl fa : Int32} {f1 f2 f3 f4 f5 f6 f7 f8 : Nat → Int32} (hm : h.2.2 88 = some (oMk (bS S np npl ntl sg co) at' pl tk v f fl fa)) (hA : RepA h S) (q1 : h.2.2 99 = some (iA 7 f1)) (q2 : h.2.2 100 = some (iA 7 f2)) (q3 : h.2.2 101 = some (iA 7 f3)) (q4 : h.2.2 102 = some (iA 7 f4)) (q5 : h.2.2 103 = some (iA 28 f5)) (q6 : h.2.2 104 = some (iA 10 f6)) (q7 : h.2.2 105 = some (iA 10 f7)) (q8 : h.2.2 106 = some (iA 5 f8)) :
    ∃ h', Call M_X9_settles h [.ref 88] = some (h', none) ∧ h'.2.2 88 = some (oMo (nI np) (nI npl) (nI ntl) (nI (S 12 3)) at' pl tk v f fl fa (nI np) (nI npl) (nI ntl) (nI sg) (nI co) (nI 0) (nI 0)) ∧ h'.2.2 89 = some (iA 19 (upd (upd (upd (cpL f6 (cpI f8 (fun i => nI (S 0 i)) 5) 10) 15 (nI 0)) 16 (nI 0)) 17 (nI 0))) ∧ h'.2.2 91 = some (zA 2 (upd (upd (fun i => nI (S 2 i)) 0 (nI 0)) 1 (nI 0))) ∧ h'.2.2 92 = some (iA 7 (cpI f1 (fun i => nI (S 3 i)) 7)) ∧ h'.2.2 93 = some (iA 7 (cpI f2 (fun i => nI (S 4 i)) 7)) ∧ h'.2.2 94 = some (iA 7 (cpI f3 (fun i => nI (S 5 i)) 7)) ∧ h'.2.2 95 = some (iA 7 (cpI f4 (fun i => nI (S 6 i)) 7)) ∧ h'.2.2 96 = some (iA 28 (cpI f5 (fun i => nI (S 7 i)) 28)) ∧ h'.2.2 97 = some (iA 10 (cpI f7 (fun i => nI (S 8 i)) 10)) ∧ (∀ x, x < 88 ∨ x = 90 ∨ 97 < x → h'.2.2 x = h.2.2 x) ∧ h'.1 = h.1 ∧ h'.2.1 = h.2.1 := by
  generalize hX : oMo (nI np) (nI npl) (nI ntl) (nI (S 12 3)) at' pl tk v f fl fa (nI np) (nI npl) (nI ntl) (nI sg) (nI co) (nI (S 12 4)) (nI (S 12 5)) = X
  have L1 : ∀ (m k : Nat) (H : AH), k + m = 7 → H.2.2 88 = some X → H.2.2 92 = some (iA 7 (cpI f1 (fun i => nI (S 3 i)) k)) → H.2.2 93 = some (iA 7 (cpI f2 (fun i => nI (S 4 i)) k)) → H.2.2 94 = some (iA 7 (cpI f3 (fun i => nI (S 5 i)) k)) → H.2.2 95 = some (iA 7 (cpI f4 (fun i => nI (S 6 i)) k)) → (∀ x, x ≠ 88 → x < 92 ∨ 95 < x → H.2.2 x = h.2.2 x) → H.1 = h.1 → H.2.1 = h.2.1 →
      ∃ H', Run M_X9_settles 26 [.ref 88, .int (nI k)] [] H = Run M_X9_settles 86 [.ref 88, .int (nI 7)] [] H' ∧ H'.2.2 88 = some X ∧ H'.2.2 92 = some (iA 7 (cpI f1 (fun i => nI (S 3 i)) 7)) ∧ H'.2.2 93 = some (iA 7 (cpI f2 (fun i => nI (S 4 i)) 7)) ∧ H'.2.2 94 = some (iA 7 (cpI f3 (fun i => nI (S 5 i)) 7)) ∧ H'.2.2 95 = some (iA 7 (cpI f4 (fun i => nI (S 6 i)) 7)) ∧ (∀ x, x ≠ 88 → x < 92 ∨ 95 < x → H'.2.2 x = h.2.2 x) ∧ H'.1 = h.1 ∧ H'.2.1 = h.2.1 := by
    intro m
    induction m with
    | zero =>
      intro k H hk g88 g92 g93 g94 g95 gf s1 s2
      have e : k = 7 := by omega
      subst e
      exact ⟨H, by simp only [r_X9_settles_26, r_X9_settles_27, r_X9_settles_29, ↓reduceIte, Option.isSome_some, Option.getD_some, rL_v, rL_n, cH_s, List.cons_append, List.nil_append, cat_i, cat_r, cat_n, ofN, Int32.le_refl], g88, g92, g93, g94, g95, gf, s1, s2⟩
    | succ m ih =>
      intro k H hk g88 g92 g93 g94 g95 gf s1 s2
      have q0 : ¬ nI 7 ≤ nI k := by rw [nI_le' (by decide) (by omega)]; omega
      have k7 : k < 7 := by omega
      have g88' := g88
      rw [← hX] at g88'
      have p1 := (gf 99 (by decide) (by decide)).trans q1
      have p2 := (gf 100 (by decide) (by decide)).trans q2
      have p3 := (gf 101 (by decide) (by decide)).trans q3
      have p4 := (gf 102 (by decide) (by decide)).trans q4
      generalize hB : hup H 92 (iA 7 (cpI f1 (fun i => nI (S 3 i)) (k + 1))) = B
      have B88 : B.2.2 88 = some (oMo (nI np) (nI npl) (nI ntl) (nI (S 12 3)) at' pl tk v f fl fa (nI np) (nI npl) (nI ntl) (nI sg) (nI co) (nI (S 12 4)) (nI (S 12 5))) := by rw [← hB, hup_ne (by decide)]; exact g88'
      have Bf : ∀ x, x ≠ 92 → B.2.2 x = H.2.2 x := fun x hx => by rw [← hB]; exact hup_ne hx
      generalize hC : hup B 93 (iA 7 (cpI f2 (fun i => nI (S 4 i)) (k + 1))) = C
      have C88 : C.2.2 88 = some (oMo (nI np) (nI npl) (nI ntl) (nI (S 12 3)) at' pl tk v f fl fa (nI np) (nI npl) (nI ntl) (nI sg) (nI co) (nI (S 12 4)) (nI (S 12 5))) := by rw [← hC, hup_ne (by decide)]; exact B88
      have Cf : ∀ x, x ≠ 92 → x ≠ 93 → C.2.2 x = H.2.2 x := fun x h1 h2 => by rw [← hC, hup_ne h2]; exact Bf x h1
      generalize hD : hup C 94 (iA 7 (cpI f3 (fun i => nI (S 5 i)) (k + 1))) = D
      have D88 : D.2.2 88 = some (oMo (nI np) (nI npl) (nI ntl) (nI (S 12 3)) at' pl tk v f fl fa (nI np) (nI npl) (nI ntl) (nI sg) (nI co) (nI (S 12 4)) (nI (S 12 5))) := by rw [← hD, hup_ne (by decide)]; exact C88
      have Df : ∀ x, x ≠ 92 → x ≠ 93 → x ≠ 94 → D.2.2 x = H.2.2 x := fun x h1 h2 h3 => by rw [← hD, hup_ne h3]; exact Cf x h1 h2
      generalize hE : hup D 95 (iA 7 (cpI f4 (fun i => nI (S 6 i)) (k + 1))) = E
      have E92 : E.2.2 92 = some (iA 7 (cpI f1 (fun i => nI (S 3 i)) (k + 1))) := by rw [← hE, hup_ne (by decide), ← hD, hup_ne (by decide), ← hC, hup_ne (by decide), ← hB]; exact hup_get
      have E93 : E.2.2 93 = some (iA 7 (cpI f2 (fun i => nI (S 4 i)) (k + 1))) := by rw [← hE, hup_ne (by decide), ← hD, hup_ne (by decide), ← hC]; exact hup_get
      have E94 : E.2.2 94 = some (iA 7 (cpI f3 (fun i => nI (S 5 i)) (k + 1))) := by rw [← hE, hup_ne (by decide), ← hD]; exact hup_get
      have E95 : E.2.2 95 = some (iA 7 (cpI f4 (fun i => nI (S 6 i)) (k + 1))) := by rw [← hE]; exact hup_get
      have Ef : ∀ x, x < 92 ∨ 95 < x → E.2.2 x = H.2.2 x := fun x hx => by rw [← hE, hup_ne (by omega)]; exact Df x (by omega) (by omega) (by omega)
      obtain ⟨H', i1, i2⟩ := ih (k + 1) E (by omega) ((Ef 88 (by decide)).trans g88) E92 E93 E94 E95 (fun x h1 h2 => (Ef x h2).trans (gf x h1 h2)) (by rw [← hE, ← hD, ← hC, ← hB]; exact s1) (by rw [← hE, ← hD, ← hC, ← hB]; exact s2)
      refine ⟨H', ?_, i2⟩
      rw [← i1, r_X9_settles_26]
      simp only [r_X9_settles_27, r_X9_settles_29, r_X9_settles_32, r_X9_settles_33, r_X9_settles_36, r_X9_settles_37, r_X9_settles_38, r_X9_settles_41, r_X9_settles_42, r_X9_settles_43, ↓reduceIte, Option.isSome_some, Option.getD_some, rL_v, rL_n, cH_s, List.cons_append, List.nil_append, cat_i, cat_r, cat_n, ofN, q0, g9_0 g88', g9_1 g88', g9_2 g88', g9_3 g88', g9_4 g88', g9_5 g88', g9_6 g88', g9_7 g88', g9_8 g88', g9_9 g88', g9_10 g88', g9_11 g88', g9_12 g88', g9_13 g88', g9_14 g88', g9_15 g88', g9_16 g88', g9_17 g88', g9_18 g88', g9_19 g88', g9_20 g88', g9_21 g88', g9_22 g88', g9_23 g88', g9_24 g88', g9_25 g88', g9_26 g88', g9_27 g88', g9_28 g88', g9_29 g88', g9_30 g88', g9_31 g88', g9_32 g88', g9_33 g88', g9_34 g88', g9_35 g88', g9_36 g88', g9_37 g88', g9_38 g88', g9_39 g88', ro9 g88', gI_nI p1 (by decide) k7, pI_nI g92 (by decide) (show 92 ≠ 0 by decide) k7, cpI_s, hB]
      simp only [r_X9_settles_44, r_X9_settles_45, r_X9_settles_48, r_X9_settles_49, r_X9_settles_50, r_X9_settles_53, r_X9_settles_54, r_X9_settles_55, ↓reduceIte, Option.isSome_some, Option.getD_some, rL_v, rL_n, cH_s, List.cons_append, List.nil_append, cat_i, cat_r, cat_n, ofN, g9_0 B88, g9_1 B88, g9_2 B88, g9_3 B88, g9_4 B88, g9_5 B88, g9_6 B88, g9_7 B88, g9_8 B88, g9_9 B88, g9_10 B88, g9_11 B88, g9_12 B88, g9_13 B88, g9_14 B88, g9_15 B88, g9_16 B88, g9_17 B88, g9_18 B88, g9_19 B88, g9_20 B88, g9_21 B88, g9_22 B88, g9_23 B88, g9_24 B88, g9_25 B88, g9_26 B88, g9_27 B88, g9_28 B88, g9_29 B88, g9_30 B88, g9_31 B88, g9_32 B88, g9_33 B88, g9_34 B88, g9_35 B88, g9_36 B88, g9_37 B88, g9_38 B88, g9_39 B88, ro9 B88, gI_nI ((Bf 100 (by decide)).trans p2) (by decide) k7, pI_nI ((Bf 93 (by decide)).trans g93) (by decide) (show 93 ≠ 0 by decide) k7, cpI_s, hC]
      simp only [r_X9_settles_56, r_X9_settles_57, r_X9_settles_60, r_X9_settles_61, r_X9_settles_62, r_X9_settles_65, r_X9_settles_66, r_X9_settles_67, ↓reduceIte, Option.isSome_some, Option.getD_some, rL_v, rL_n, cH_s, List.cons_append, List.nil_append, cat_i, cat_r, cat_n, ofN, g9_0 C88, g9_1 C88, g9_2 C88, g9_3 C88, g9_4 C88, g9_5 C88, g9_6 C88, g9_7 C88, g9_8 C88, g9_9 C88, g9_10 C88, g9_11 C88, g9_12 C88, g9_13 C88, g9_14 C88, g9_15 C88, g9_16 C88, g9_17 C88, g9_18 C88, g9_19 C88, g9_20 C88, g9_21 C88, g9_22 C88, g9_23 C88, g9_24 C88, g9_25 C88, g9_26 C88, g9_27 C88, g9_28 C88, g9_29 C88, g9_30 C88, g9_31 C88, g9_32 C88, g9_33 C88, g9_34 C88, g9_35 C88, g9_36 C88, g9_37 C88, g9_38 C88, g9_39 C88, ro9 C88, gI_nI ((Cf 101 (by decide) (by decide)).trans p3) (by decide) k7, pI_nI ((Cf 94 (by decide) (by decide)).trans g94) (by decide) (show 94 ≠ 0 by decide) k7, cpI_s, hD]
      simp only [r_X9_settles_68, r_X9_settles_69, r_X9_settles_72, r_X9_settles_73, r_X9_settles_74, r_X9_settles_77, r_X9_settles_78, r_X9_settles_79, r_X9_settles_80, r_X9_settles_83, ↓reduceIte, Option.isSome_some, Option.getD_some, rL_v, rL_n, cH_s, List.cons_append, List.nil_append, cat_i, cat_r, cat_n, ofN, g9_0 D88, g9_1 D88, g9_2 D88, g9_3 D88, g9_4 D88, g9_5 D88, g9_6 D88, g9_7 D88, g9_8 D88, g9_9 D88, g9_10 D88, g9_11 D88, g9_12 D88, g9_13 D88, g9_14 D88, g9_15 D88, g9_16 D88, g9_17 D88, g9_18 D88, g9_19 D88, g9_20 D88, g9_21 D88, g9_22 D88, g9_23 D88, g9_24 D88, g9_25 D88, g9_26 D88, g9_27 D88, g9_28 D88, g9_29 D88, g9_30 D88, g9_31 D88, g9_32 D88, g9_33 D88, g9_34 D88, g9_35 D88, g9_36 D88, g9_37 D88, g9_38 D88, g9_39 D88, ro9 D88, gI_nI ((Df 102 (by decide) (by decide) (by decide)).trans p4) (by decide) k7, pI_nI ((Df 95 (by decide) (by decide) (by decide)).trans g95) (by decide) (show 95 ≠ 0 by decide) k7, cpI_s, hE, nI_add]
  have L2 : ∀ (m k : Nat) (H0 : AH), k + m = 28 → H0.2.2 88 = some X → H0.2.2 103 = some (iA 28 f5) → Run M_X9_settles 88 [.ref 88, .int (nI k)] [] (hup H0 96 (iA 28 (cpI f5 (fun i => nI (S 7 i)) k))) = Run M_X9_settles 112 [.ref 88, .int (nI 28)] [] (hup H0 96 (iA 28 (cpI f5 (fun i => nI (S 7 i)) 28))) := by
    intro m
    induction m with
    | zero =>
      intro k H0 hk g88 g103
      have e : k = 28 := by omega
      subst e
      simp only [r_X9_settles_88, r_X9_settles_89, r_X9_settles_91, ↓reduceIte, Option.isSome_some, Option.getD_some, rL_v, rL_n, cH_s, List.cons_append, List.nil_append, cat_i, cat_r, cat_n, ofN, Int32.le_refl]
    | succ m ih =>
      intro k H0 hk g88 g103
      have q0 : ¬ nI 28 ≤ nI k := by rw [nI_le' (by decide) (by omega)]; omega
      rw [← hX] at g88
      have g88' : ∀ Y, (hup H0 96 Y).2.2 88 = _ := fun Y => (hup_ne (by decide)).trans g88
      have g103' : ∀ Y, (hup H0 96 Y).2.2 103 = _ := fun Y => (hup_ne (by decide)).trans g103
      rw [← ih (k + 1) H0 (by omega) (by rw [← hX]; exact g88) g103, r_X9_settles_88]
      simp only [r_X9_settles_89, r_X9_settles_91, r_X9_settles_94, r_X9_settles_95, r_X9_settles_98, r_X9_settles_99, r_X9_settles_100, r_X9_settles_103, r_X9_settles_104, r_X9_settles_105, r_X9_settles_106, r_X9_settles_109, ↓reduceIte, Option.isSome_some, Option.getD_some, rL_v, rL_n, cH_s, List.cons_append, List.nil_append, cat_i, cat_r, cat_n, ofN, q0, g9_0 (g88' _), g9_1 (g88' _), g9_2 (g88' _), g9_3 (g88' _), g9_4 (g88' _), g9_5 (g88' _), g9_6 (g88' _), g9_7 (g88' _), g9_8 (g88' _), g9_9 (g88' _), g9_10 (g88' _), g9_11 (g88' _), g9_12 (g88' _), g9_13 (g88' _), g9_14 (g88' _), g9_15 (g88' _), g9_16 (g88' _), g9_17 (g88' _), g9_18 (g88' _), g9_19 (g88' _), g9_20 (g88' _), g9_21 (g88' _), g9_22 (g88' _), g9_23 (g88' _), g9_24 (g88' _), g9_25 (g88' _), g9_26 (g88' _), g9_27 (g88' _), g9_28 (g88' _), g9_29 (g88' _), g9_30 (g88' _), g9_31 (g88' _), g9_32 (g88' _), g9_33 (g88' _), g9_34 (g88' _), g9_35 (g88' _), g9_36 (g88' _), g9_37 (g88' _), g9_38 (g88' _), g9_39 (g88' _), ro9 (g88' _), gI_nI (g103' _) (by decide) (show k < 28 by omega), pI_u (show 28 < 2147483648 by decide) (show 96 ≠ 0 by decide) (show k < 28 by omega), cpI_s, nI_add]
  have L3 : ∀ (m k : Nat) (H0 : AH), k + m = 5 → H0.2.2 88 = some X → H0.2.2 106 = some (iA 5 f8) → Run M_X9_settles 114 [.ref 88, .int (nI k)] [] (hup H0 89 (iA 19 (cpI f8 (fun i => nI (S 0 i)) k))) = Run M_X9_settles 137 [.ref 88, .int (nI 5)] [] (hup H0 89 (iA 19 (cpI f8 (fun i => nI (S 0 i)) 5))) := by
    intro m
    induction m with
    | zero =>
      intro k H0 hk g88 g106
      have e : k = 5 := by omega
      subst e
      simp only [r_X9_settles_114, r_X9_settles_115, r_X9_settles_116, ↓reduceIte, Option.isSome_some, Option.getD_some, rL_v, rL_n, cH_s, List.cons_append, List.nil_append, cat_i, cat_r, cat_n, ofN, Int32.le_refl]
    | succ m ih =>
      intro k H0 hk g88 g106
      have q0 : ¬ nI 5 ≤ nI k := by rw [nI_le' (by decide) (by omega)]; omega
      rw [← hX] at g88
      have g88' : ∀ Y, (hup H0 89 Y).2.2 88 = _ := fun Y => (hup_ne (by decide)).trans g88
      have g106' : ∀ Y, (hup H0 89 Y).2.2 106 = _ := fun Y => (hup_ne (by decide)).trans g106
      rw [← ih (k + 1) H0 (by omega) (by rw [← hX]; exact g88) g106, r_X9_settles_114]
      simp only [r_X9_settles_115, r_X9_settles_116, r_X9_settles_119, r_X9_settles_120, r_X9_settles_123, r_X9_settles_124, r_X9_settles_125, r_X9_settles_128, r_X9_settles_129, r_X9_settles_130, r_X9_settles_131, r_X9_settles_134, ↓reduceIte, Option.isSome_some, Option.getD_some, rL_v, rL_n, cH_s, List.cons_append, List.nil_append, cat_i, cat_r, cat_n, ofN, q0, g9_0 (g88' _), g9_1 (g88' _), g9_2 (g88' _), g9_3 (g88' _), g9_4 (g88' _), g9_5 (g88' _), g9_6 (g88' _), g9_7 (g88' _), g9_8 (g88' _), g9_9 (g88' _), g9_10 (g88' _), g9_11 (g88' _), g9_12 (g88' _), g9_13 (g88' _), g9_14 (g88' _), g9_15 (g88' _), g9_16 (g88' _), g9_17 (g88' _), g9_18 (g88' _), g9_19 (g88' _), g9_20 (g88' _), g9_21 (g88' _), g9_22 (g88' _), g9_23 (g88' _), g9_24 (g88' _), g9_25 (g88' _), g9_26 (g88' _), g9_27 (g88' _), g9_28 (g88' _), g9_29 (g88' _), g9_30 (g88' _), g9_31 (g88' _), g9_32 (g88' _), g9_33 (g88' _), g9_34 (g88' _), g9_35 (g88' _), g9_36 (g88' _), g9_37 (g88' _), g9_38 (g88' _), g9_39 (g88' _), ro9 (g88' _), gI_nI (g106' _) (by decide) (show k < 5 by omega), pI_u (show 19 < 2147483648 by decide) (show 89 ≠ 0 by decide) (show k < 19 by omega), cpI_s, nI_add]
  have L4 : ∀ (m k : Nat) (H : AH) (g : Nat → Int32), k + m = 10 → H.2.2 88 = some X → H.2.2 104 = some (iA 10 f6) → H.2.2 105 = some (iA 10 f7) → H.2.2 89 = some (iA 19 (cpL f6 g k)) → H.2.2 97 = some (iA 10 (cpI f7 (fun i => nI (S 8 i)) k)) →
      ∃ H', Run M_X9_settles 139 [.ref 88, .int (nI k)] [] H = Run M_X9_settles 177 [.ref 88, .int (nI 10)] [] H' ∧ H'.2.2 89 = some (iA 19 (cpL f6 g 10)) ∧ H'.2.2 97 = some (iA 10 (cpI f7 (fun i => nI (S 8 i)) 10)) ∧ (∀ x, x ≠ 89 → x ≠ 97 → H'.2.2 x = H.2.2 x) ∧ H'.1 = H.1 ∧ H'.2.1 = H.2.1 := by
    intro m
    induction m with
    | zero =>
      intro k H g hk g88 g104 g105 g89 g97
      have e : k = 10 := by omega
      subst e
      exact ⟨H, by simp only [r_X9_settles_139, r_X9_settles_140, r_X9_settles_142, ↓reduceIte, Option.isSome_some, Option.getD_some, rL_v, rL_n, cH_s, List.cons_append, List.nil_append, cat_i, cat_r, cat_n, ofN, Int32.le_refl], g89, g97, fun _ _ _ => rfl, rfl, rfl⟩
    | succ m ih =>
      intro k H g hk g88 g104 g105 g89 g97
      have q0 : ¬ nI 10 ≤ nI k := by rw [nI_le' (by decide) (by omega)]; omega
      have g88' := g88
      rw [← hX] at g88'
      generalize hB : hup H 89 (iA 19 (cpL f6 g (k + 1))) = B
      have B88 : B.2.2 88 = some (oMo (nI np) (nI npl) (nI ntl) (nI (S 12 3)) at' pl tk v f fl fa (nI np) (nI npl) (nI ntl) (nI sg) (nI co) (nI (S 12 4)) (nI (S 12 5))) := by rw [← hB, hup_ne (by decide)]; exact g88'
      have Bf : ∀ x, x ≠ 89 → B.2.2 x = H.2.2 x := fun x hx => by rw [← hB]; exact hup_ne hx
      generalize hC : hup B 97 (iA 10 (cpI f7 (fun i => nI (S 8 i)) (k + 1))) = C
      have Cf : ∀ x, x ≠ 89 → x ≠ 97 → C.2.2 x = H.2.2 x := fun x h1 h2 => by rw [← hC, hup_ne h2]; exact Bf x h1
      have C89 : C.2.2 89 = some (iA 19 (cpL f6 g (k + 1))) := by rw [← hC, hup_ne (by decide), ← hB]; exact hup_get
      have C97 : C.2.2 97 = some (iA 10 (cpI f7 (fun i => nI (S 8 i)) (k + 1))) := by rw [← hC]; exact hup_get
      obtain ⟨H', i1, i2, i3, i4, i5, i6⟩ := ih (k + 1) C g (by omega) ((Cf 88 (by decide) (by decide)).trans g88) ((Cf 104 (by decide) (by decide)).trans g104) ((Cf 105 (by decide) (by decide)).trans g105) C89 C97
      refine ⟨H', ?_, i2, i3, fun x h1 h2 => (i4 x h1 h2).trans (Cf x h1 h2), by rw [i5, ← hC, ← hB]; rfl, by rw [i6, ← hC, ← hB]; rfl⟩
      rw [← i1, r_X9_settles_139]
      simp only [r_X9_settles_140, r_X9_settles_142, r_X9_settles_145, r_X9_settles_146, r_X9_settles_149, r_X9_settles_150, r_X9_settles_151, r_X9_settles_152, r_X9_settles_153, r_X9_settles_156, r_X9_settles_157, r_X9_settles_158, ↓reduceIte, Option.isSome_some, Option.getD_some, rL_v, rL_n, cH_s, List.cons_append, List.nil_append, cat_i, cat_r, cat_n, ofN, q0, g9_0 g88', g9_1 g88', g9_2 g88', g9_3 g88', g9_4 g88', g9_5 g88', g9_6 g88', g9_7 g88', g9_8 g88', g9_9 g88', g9_10 g88', g9_11 g88', g9_12 g88', g9_13 g88', g9_14 g88', g9_15 g88', g9_16 g88', g9_17 g88', g9_18 g88', g9_19 g88', g9_20 g88', g9_21 g88', g9_22 g88', g9_23 g88', g9_24 g88', g9_25 g88', g9_26 g88', g9_27 g88', g9_28 g88', g9_29 g88', g9_30 g88', g9_31 g88', g9_32 g88', g9_33 g88', g9_34 g88', g9_35 g88', g9_36 g88', g9_37 g88', g9_38 g88', g9_39 g88', ro9 g88', nI_add, gI_nI g104 (by decide) (show k < 10 by omega), pI_nI g89 (by decide) (show 89 ≠ 0 by decide) (show 5 + k < 19 by omega), cpL_s, hB]
      simp only [r_X9_settles_159, r_X9_settles_160, r_X9_settles_163, r_X9_settles_164, r_X9_settles_165, r_X9_settles_168, r_X9_settles_169, r_X9_settles_170, r_X9_settles_171, r_X9_settles_174, ↓reduceIte, Option.isSome_some, Option.getD_some, rL_v, rL_n, cH_s, List.cons_append, List.nil_append, cat_i, cat_r, cat_n, ofN, g9_0 B88, g9_1 B88, g9_2 B88, g9_3 B88, g9_4 B88, g9_5 B88, g9_6 B88, g9_7 B88, g9_8 B88, g9_9 B88, g9_10 B88, g9_11 B88, g9_12 B88, g9_13 B88, g9_14 B88, g9_15 B88, g9_16 B88, g9_17 B88, g9_18 B88, g9_19 B88, g9_20 B88, g9_21 B88, g9_22 B88, g9_23 B88, g9_24 B88, g9_25 B88, g9_26 B88, g9_27 B88, g9_28 B88, g9_29 B88, g9_30 B88, g9_31 B88, g9_32 B88, g9_33 B88, g9_34 B88, g9_35 B88, g9_36 B88, g9_37 B88, g9_38 B88, g9_39 B88, ro9 B88, gI_nI ((Bf 105 (by decide)).trans g105) (by decide) (show k < 10 by omega), pI_nI ((Bf 97 (by decide)).trans g97) (by decide) (show 97 ≠ 0 by decide) (show k < 10 by omega), cpI_s, hC, nI_add]
  have a89 := hA 89 _ rfl
  have a91 := hA 91 _ rfl
  have a92 := hA 92 _ rfl
  have a93 := hA 93 _ rfl
  have a94 := hA 94 _ rfl
  have a95 := hA 95 _ rfl
  have a96 := hA 96 _ rfl
  have a97 := hA 97 _ rfl
  generalize hG0 : hup h 88 X = G0
  have Z88 : G0.2.2 88 = some X := by rw [← hG0]; exact hup_get
  have Zf : ∀ x, x ≠ 88 → G0.2.2 x = h.2.2 x := fun x hx => by rw [← hG0]; exact hup_ne hx
  obtain ⟨G1, i1, A88, A92, A93, A94, A95, Af, A1, A2⟩ := L1 7 0 G0 (by omega) Z88 (by rw [cpI_0, Zf 92 (by decide)]; exact a92) (by rw [cpI_0, Zf 93 (by decide)]; exact a93) (by rw [cpI_0, Zf 94 (by decide)]; exact a94) (by rw [cpI_0, Zf 95 (by decide)]; exact a95) (fun x h1 _ => Zf x h1) (by rw [← hG0]; rfl) (by rw [← hG0]; rfl)
  have i2 := L2 28 0 G1 (by omega) A88 ((Af 103 (by decide) (by decide)).trans q5)
  rw [cpI_0, hup_same ((Af 96 (by decide) (by decide)).trans a96)] at i2
  generalize hG2 : hup G1 96 (iA 28 (cpI f5 (fun i => nI (S 7 i)) 28)) = G2 at i2
  have B88 : G2.2.2 88 = some X := by rw [← hG2, hup_ne (by decide)]; exact A88
  have B96 : G2.2.2 96 = some (iA 28 (cpI f5 (fun i => nI (S 7 i)) 28)) := by rw [← hG2]; exact hup_get
  have Bf : ∀ x, x ≠ 96 → G2.2.2 x = G1.2.2 x := fun x hx => by rw [← hG2]; exact hup_ne hx
  have i3 := L3 5 0 G2 (by omega) B88 ((Bf 106 (by decide)).trans ((Af 106 (by decide) (by decide)).trans q8))
  rw [cpI_0, hup_same ((Bf 89 (by decide)).trans ((Af 89 (by decide) (by decide)).trans a89))] at i3
  generalize hG3 : hup G2 89 (iA 19 (cpI f8 (fun i => nI (S 0 i)) 5)) = G3 at i3
  have C88 : G3.2.2 88 = some X := by rw [← hG3, hup_ne (by decide)]; exact B88
  have C89 : G3.2.2 89 = some (iA 19 (cpI f8 (fun i => nI (S 0 i)) 5)) := by rw [← hG3]; exact hup_get
  have Cf : ∀ x, x ≠ 89 → G3.2.2 x = G2.2.2 x := fun x hx => by rw [← hG3]; exact hup_ne hx
  have Cg : ∀ x, x ≠ 89 → x ≠ 96 → x ≠ 88 → x < 92 ∨ 95 < x → G3.2.2 x = h.2.2 x := fun x h1 h2 h3 h4 => (Cf x h1).trans ((Bf x h2).trans (Af x h3 h4))
  obtain ⟨G4, i4, D89, D97, Df, D1, D2⟩ := L4 10 0 G3 (cpI f8 (fun i => nI (S 0 i)) 5) (by omega) C88 ((Cg 104 (by decide) (by decide) (by decide) (by decide)).trans q6) ((Cg 105 (by decide) (by decide) (by decide) (by decide)).trans q7) (by rw [cpL_0]; exact C89) (by rw [cpI_0, Cg 97 (by decide) (by decide) (by decide) (by decide)]; exact a97)
  have D88 : G4.2.2 88 = some X := (Df 88 (by decide) (by decide)).trans C88
  rw [← hX] at D88
  generalize hg : cpL f6 (cpI f8 (fun i => nI (S 0 i)) 5) 10 = g at D89
  have e88 : ∀ Y, (hup G4 89 Y).2.2 88 = _ := fun Y => (hup_ne (by decide)).trans D88
  generalize hG5 : hup G4 89 (iA 19 (upd (upd (upd g 15 (nI 0)) 16 (nI 0)) 17 (nI 0))) = G5
  have E88 : G5.2.2 88 = some (oMo (nI np) (nI npl) (nI ntl) (nI (S 12 3)) at' pl tk v f fl fa (nI np) (nI npl) (nI ntl) (nI sg) (nI co) (nI (S 12 4)) (nI (S 12 5))) := by rw [← hG5]; exact e88 _
  generalize hG6 : hup G5 88 (oMo (nI np) (nI npl) (nI ntl) (nI (S 12 3)) at' pl tk v f fl fa (nI np) (nI npl) (nI ntl) (nI sg) (nI co) (nI 0) (nI 0)) = G6
  have F88 : G6.2.2 88 = some (oMo (nI np) (nI npl) (nI ntl) (nI (S 12 3)) at' pl tk v f fl fa (nI np) (nI npl) (nI ntl) (nI sg) (nI co) (nI 0) (nI 0)) := by rw [← hG6]; exact hup_get
  have Ff : ∀ x, x ≠ 88 → x ≠ 89 → G6.2.2 x = G4.2.2 x := fun x h1 h2 => by rw [← hG6, hup_ne h1, ← hG5, hup_ne h2]
  have F91 : G6.2.2 91 = some (zA 2 (fun i => nI (S 2 i))) := by rw [Ff 91 (by decide) (by decide), Df 91 (by decide) (by decide), Cg 91 (by decide) (by decide) (by decide) (by decide)]; exact a91
  have n00 : nI 0 &&& 1 = nI 0 := by decide
  have T : Run M_X9_settles 177 [.ref 88, .int (nI 10)] [] G4 = some (hup G6 91 (zA 2 (upd (upd (fun i => nI (S 2 i)) 0 (nI 0)) 1 (nI 0))), none) := by
    have f88 : ∀ Y, (hup G6 91 Y).2.2 88 = _ := fun Y => (hup_ne (by decide)).trans F88
    simp only [r_X9_settles_177, r_X9_settles_178, r_X9_settles_181, r_X9_settles_183, r_X9_settles_184, ↓reduceIte, Option.isSome_some, Option.getD_some, rL_v, rL_n, cH_s, List.cons_append, List.nil_append, cat_i, cat_r, cat_n, ofN, g9_0 D88, g9_1 D88, g9_2 D88, g9_3 D88, g9_4 D88, g9_5 D88, g9_6 D88, g9_7 D88, g9_8 D88, g9_9 D88, g9_10 D88, g9_11 D88, g9_12 D88, g9_13 D88, g9_14 D88, g9_15 D88, g9_16 D88, g9_17 D88, g9_18 D88, g9_19 D88, g9_20 D88, g9_21 D88, g9_22 D88, g9_23 D88, g9_24 D88, g9_25 D88, g9_26 D88, g9_27 D88, g9_28 D88, g9_29 D88, g9_30 D88, g9_31 D88, g9_32 D88, g9_33 D88, g9_34 D88, g9_35 D88, g9_36 D88, g9_37 D88, g9_38 D88, g9_39 D88, ro9 D88, pI_nI D89 (by decide) (show 89 ≠ 0 by decide) (show 15 < 19 by decide)]
    simp only [r_X9_settles_185, r_X9_settles_186, r_X9_settles_189, r_X9_settles_191, r_X9_settles_192, r_X9_settles_193, r_X9_settles_194, r_X9_settles_197, r_X9_settles_199, r_X9_settles_200, ↓reduceIte, Option.isSome_some, Option.getD_some, rL_v, rL_n, cH_s, List.cons_append, List.nil_append, cat_i, cat_r, cat_n, ofN, g9_0 (e88 _), g9_1 (e88 _), g9_2 (e88 _), g9_3 (e88 _), g9_4 (e88 _), g9_5 (e88 _), g9_6 (e88 _), g9_7 (e88 _), g9_8 (e88 _), g9_9 (e88 _), g9_10 (e88 _), g9_11 (e88 _), g9_12 (e88 _), g9_13 (e88 _), g9_14 (e88 _), g9_15 (e88 _), g9_16 (e88 _), g9_17 (e88 _), g9_18 (e88 _), g9_19 (e88 _), g9_20 (e88 _), g9_21 (e88 _), g9_22 (e88 _), g9_23 (e88 _), g9_24 (e88 _), g9_25 (e88 _), g9_26 (e88 _), g9_27 (e88 _), g9_28 (e88 _), g9_29 (e88 _), g9_30 (e88 _), g9_31 (e88 _), g9_32 (e88 _), g9_33 (e88 _), g9_34 (e88 _), g9_35 (e88 _), g9_36 (e88 _), g9_37 (e88 _), g9_38 (e88 _), g9_39 (e88 _), ro9 (e88 _), pI_u (show 19 < 2147483648 by decide) (show 89 ≠ 0 by decide) (show 16 < 19 by decide), pI_u (show 19 < 2147483648 by decide) (show 89 ≠ 0 by decide) (show 17 < 19 by decide), hG5]
    simp only [r_X9_settles_201, r_X9_settles_202, r_X9_settles_203, r_X9_settles_206, r_X9_settles_207, r_X9_settles_208, ↓reduceIte, Option.isSome_some, Option.getD_some, rL_v, rL_n, cH_s, List.cons_append, List.nil_append, cat_i, cat_r, cat_n, ofN, g9_0 E88, g9_1 E88, g9_2 E88, g9_3 E88, p9_3 E88, g9_4 E88, g9_5 E88, g9_6 E88, g9_7 E88, g9_8 E88, g9_9 E88, p9_9 E88, g9_10 E88, p9_10 E88, g9_11 E88, g9_12 E88, g9_13 E88, p9_13 E88, g9_14 E88, p9_14 E88, g9_15 E88, p9_15 E88, g9_16 E88, p9_16 E88, g9_17 E88, p9_17 E88, g9_18 E88, p9_18 E88, g9_19 E88, p9_19 E88, g9_20 E88, p9_20 E88, g9_21 E88, p9_21 E88, g9_22 E88, g9_23 E88, g9_24 E88, g9_25 E88, g9_26 E88, g9_27 E88, p9_27 E88, g9_28 E88, g9_29 E88, p9_29 E88, g9_30 E88, g9_31 E88, g9_32 E88, p9_32 E88, g9_33 E88, p9_33 E88, g9_34 E88, g9_35 E88, g9_36 E88, p9_36 E88, g9_37 E88, g9_38 E88, p9_38 E88, g9_39 E88, ro9 E88, rou9, gu9_0, gu9_1, gu9_2, gu9_3, pu9_3, gu9_4, gu9_5, gu9_6, gu9_7, gu9_8, gu9_9, pu9_9, gu9_10, pu9_10, gu9_11, gu9_12, gu9_13, pu9_13, gu9_14, pu9_14, gu9_15, pu9_15, gu9_16, pu9_16, gu9_17, pu9_17, gu9_18, pu9_18, gu9_19, pu9_19, gu9_20, pu9_20, gu9_21, pu9_21, gu9_22, gu9_23, gu9_24, gu9_25, gu9_26, gu9_27, pu9_27, gu9_28, gu9_29, pu9_29, gu9_30, gu9_31, gu9_32, pu9_32, gu9_33, pu9_33, gu9_34, gu9_35, gu9_36, pu9_36, gu9_37, gu9_38, pu9_38, gu9_39, hG6]
    simp only [r_X9_settles_211, r_X9_settles_212, r_X9_settles_215, r_X9_settles_216, r_X9_settles_217, r_X9_settles_218, r_X9_settles_219, r_X9_settles_222, r_X9_settles_223, r_X9_settles_224, r_X9_settles_225, ↓reduceIte, Option.isSome_some, Option.getD_some, rL_v, rL_n, cH_s, List.cons_append, List.nil_append, cat_i, cat_r, cat_n, ofN, g9_0 F88, g9_1 F88, g9_2 F88, g9_3 F88, g9_4 F88, g9_5 F88, g9_6 F88, g9_7 F88, g9_8 F88, g9_9 F88, g9_10 F88, g9_11 F88, g9_12 F88, g9_13 F88, g9_14 F88, g9_15 F88, g9_16 F88, g9_17 F88, g9_18 F88, g9_19 F88, g9_20 F88, g9_21 F88, g9_22 F88, g9_23 F88, g9_24 F88, g9_25 F88, g9_26 F88, g9_27 F88, g9_28 F88, g9_29 F88, g9_30 F88, g9_31 F88, g9_32 F88, g9_33 F88, g9_34 F88, g9_35 F88, g9_36 F88, g9_37 F88, g9_38 F88, g9_39 F88, ro9 F88, n00, pI_nI F91 (by decide) (show 91 ≠ 0 by decide) (show 0 < 2 by decide), g9_0 (f88 _), g9_1 (f88 _), g9_2 (f88 _), g9_3 (f88 _), g9_4 (f88 _), g9_5 (f88 _), g9_6 (f88 _), g9_7 (f88 _), g9_8 (f88 _), g9_9 (f88 _), g9_10 (f88 _), g9_11 (f88 _), g9_12 (f88 _), g9_13 (f88 _), g9_14 (f88 _), g9_15 (f88 _), g9_16 (f88 _), g9_17 (f88 _), g9_18 (f88 _), g9_19 (f88 _), g9_20 (f88 _), g9_21 (f88 _), g9_22 (f88 _), g9_23 (f88 _), g9_24 (f88 _), g9_25 (f88 _), g9_26 (f88 _), g9_27 (f88 _), g9_28 (f88 _), g9_29 (f88 _), g9_30 (f88 _), g9_31 (f88 _), g9_32 (f88 _), g9_33 (f88 _), g9_34 (f88 _), g9_35 (f88 _), g9_36 (f88 _), g9_37 (f88 _), g9_38 (f88 _), g9_39 (f88 _), ro9 (f88 _), pI_u (show 2 < 2147483648 by decide) (show 91 ≠ 0 by decide) (show 1 < 2 by decide)]
  refine ⟨_, ?_, (hup_ne (by decide)).trans F88, ?_, hup_get, ?_, ?_, ?_, ?_, ?_, ?_, fun x hx => ?_, ?_, ?_⟩
  · show Run M_X9_settles 0 [.ref 88, .null] [] h = _
    simp only [r_X9_settles_0, r_X9_settles_1, r_X9_settles_2, r_X9_settles_5, r_X9_settles_8, r_X9_settles_9, r_X9_settles_10, r_X9_settles_13, r_X9_settles_16, r_X9_settles_17, r_X9_settles_18, r_X9_settles_21, r_X9_settles_24, r_X9_settles_25, ↓reduceIte, Option.isSome_some, Option.getD_some, rL_v, rL_n, cH_s, List.cons_append, List.nil_append, cat_i, cat_r, cat_n, ofN, g9_0 hm, g9_1 hm, g9_2 hm, g9_3 hm, p9_3 hm, g9_4 hm, g9_5 hm, g9_6 hm, g9_7 hm, g9_8 hm, g9_9 hm, p9_9 hm, g9_10 hm, p9_10 hm, g9_11 hm, g9_12 hm, g9_13 hm, p9_13 hm, g9_14 hm, p9_14 hm, g9_15 hm, p9_15 hm, g9_16 hm, p9_16 hm, g9_17 hm, p9_17 hm, g9_18 hm, p9_18 hm, g9_19 hm, p9_19 hm, g9_20 hm, p9_20 hm, g9_21 hm, p9_21 hm, g9_22 hm, g9_23 hm, g9_24 hm, g9_25 hm, g9_26 hm, g9_27 hm, p9_27 hm, g9_28 hm, g9_29 hm, p9_29 hm, g9_30 hm, g9_31 hm, g9_32 hm, p9_32 hm, g9_33 hm, p9_33 hm, g9_34 hm, g9_35 hm, g9_36 hm, p9_36 hm, g9_37 hm, g9_38 hm, p9_38 hm, g9_39 hm, ro9 hm, rou9, gu9_0, gu9_1, gu9_2, gu9_3, pu9_3, gu9_4, gu9_5, gu9_6, gu9_7, gu9_8, gu9_9, pu9_9, gu9_10, pu9_10, gu9_11, gu9_12, gu9_13, pu9_13, gu9_14, pu9_14, gu9_15, pu9_15, gu9_16, pu9_16, gu9_17, pu9_17, gu9_18, pu9_18, gu9_19, pu9_19, gu9_20, pu9_20, gu9_21, pu9_21, gu9_22, gu9_23, gu9_24, gu9_25, gu9_26, gu9_27, pu9_27, gu9_28, gu9_29, pu9_29, gu9_30, gu9_31, gu9_32, pu9_32, gu9_33, pu9_33, gu9_34, gu9_35, gu9_36, pu9_36, gu9_37, gu9_38, pu9_38, gu9_39, bS_4, bS_5, bS_6]
    have eX : hup h 88 (oMo (nI np) (nI npl) (nI ntl) (bS S np npl ntl sg co 3) at' pl tk v f fl fa (nI np) (nI npl) (nI ntl) (bS S np npl ntl sg co 7) (bS S np npl ntl sg co 8) (bS S np npl ntl sg co 9) (bS S np npl ntl sg co 10)) = G0 := by rw [← hG0, ← hX]; rfl
    rw [eX, i1]
    simp only [r_X9_settles_86, r_X9_settles_87, ↓reduceIte, Option.isSome_some, Option.getD_some, rL_v, rL_n, cH_s, List.cons_append, List.nil_append, cat_i, cat_r, cat_n, ofN]
    rw [i2]
    simp only [r_X9_settles_112, r_X9_settles_113, ↓reduceIte, Option.isSome_some, Option.getD_some, rL_v, rL_n, cH_s, List.cons_append, List.nil_append, cat_i, cat_r, cat_n, ofN]
    rw [i3]
    simp only [r_X9_settles_137, r_X9_settles_138, ↓reduceIte, Option.isSome_some, Option.getD_some, rL_v, rL_n, cH_s, List.cons_append, List.nil_append, cat_i, cat_r, cat_n, ofN]
    rw [i4, T]
  · rw [hup_ne (by decide), ← hG6, hup_ne (by decide), ← hG5]; exact hup_get
  · rw [hup_ne (by decide), Ff _ (by decide) (by decide), Df _ (by decide) (by decide), Cf _ (by decide), Bf _ (by decide)]; exact A92
  · rw [hup_ne (by decide), Ff _ (by decide) (by decide), Df _ (by decide) (by decide), Cf _ (by decide), Bf _ (by decide)]; exact A93
  · rw [hup_ne (by decide), Ff _ (by decide) (by decide), Df _ (by decide) (by decide), Cf _ (by decide), Bf _ (by decide)]; exact A94
  · rw [hup_ne (by decide), Ff _ (by decide) (by decide), Df _ (by decide) (by decide), Cf _ (by decide), Bf _ (by decide)]; exact A95
  · rw [hup_ne (by decide), Ff _ (by decide) (by decide), Df _ (by decide) (by decide), Cf _ (by decide)]; exact B96
  · rw [hup_ne (by decide), Ff _ (by decide) (by decide)]; exact D97
  · rw [hup_ne (by omega), Ff _ (by omega) (by omega), Df _ (by omega) (by omega)]; exact Cg x (by omega) (by omega) (by omega) (by omega)
  · rw [hup_1, ← hG6, ← hG5]; show G4.1 = _; rw [D1, ← hG3, ← hG2]; exact A1
  · rw [hup_2, ← hG6, ← hG5]; show G4.2.1 = _; rw [D2, ← hG3, ← hG2]; exact A2
