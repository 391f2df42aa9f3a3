/-! ===== out: weighOnce, and the call ===== -/
/-- the rows, for the last j PARTS and on -/
def RwR (h : AH) (S : SS) (set j : Nat) : Prop := (∃ R, h.2.2 31 = some (iA 8 R) ∧ ∀ k, k ≤ j → R (S 12 0 - k) = nI (rb S set (S 12 0) k)) ∧ ∀ q, q < 8 → ∃ g, h.2.2 (23 + q) = some (jA 421 g) ∧ ∀ k, k ≤ j → q = S 12 0 - k → ∀ t, t ≤ rb S set (S 12 0) k → g t = lN (Wb S set (S 12 0) k t)
theorem c_rows {h : AH} {S : SS} {o set : Nat} {fl : Int32} {fr : Nat → Option Nat} {x2 x4 : Value} (hS : HOk S) (hset : set < 128) (ho : 31 < o) (hx4 : x4.category = 1) (hH : ∃ pl tl ck nt ag, h.2.2 o = some (oHa (nI (S 12 0)) (o + 1) pl tl ck nt ag)) (hRow : RowR h o) (hP : ∀ p, p < S 12 0 → PartR h o S p) (h17 : h.2.2 17 = some (oLo 18 19 20 21 22 31 fl)) (h22 : h.2.2 22 = some (rA 3 8 fr)) (hfr : ∀ q, q < 8 → fr q = some (23 + q)) :
    ∀ (j : Nat) (H : AH), j ≤ S 12 0 → RwR H S set (S 12 0 - j) → (∀ a, a < 23 ∨ 31 < a → H.2.2 a = h.2.2 a) → H.1 = h.1 → H.2.1 = h.2.1 →
      ∃ h', Run M_X5_weighOnce 100 [.ref 17, .ref o, x2, .int (nI set), x4, .int (fI j)] [] H = Run M_X5_weighOnce 139 [.ref 17, .ref o, x2, .int (nI set), x4, .int (fI 0)] [] h' ∧ RwR h' S set (S 12 0) ∧ (∀ a, a < 23 ∨ 31 < a → h'.2.2 a = h.2.2 a) ∧ h'.1 = h.1 ∧ h'.2.1 = h.2.1 := by
  obtain ⟨pl, tl, ck, nt, ag, hH⟩ := hH
  obtain ⟨fw, hw1, hw2⟩ := hRow
  have h7 := hS.1
  intro j
  induction j with
  | zero =>
    intro H _ hR hf s1 s2
    have q : fI 0 < nI 0 := by decide
    exact ⟨H, by simp only [r_X5_weighOnce_100, r_X5_weighOnce_102, ↓reduceIte, Option.isSome_some, Option.getD_some, rL_v, rL_n, cH_s, List.cons_append, List.nil_append, cat_i, cat_r, cat_n, ofN, q], hR, hf, s1, s2⟩
  | succ j ih =>
    intro H hj hR hf s1 s2
    have q17 := (hf 17 (by omega)).trans h17
    have q22 := (hf 22 (by omega)).trans h22
    have qH := (hf o (by omega)).trans hH
    have qw := (hf (o + 1) (by omega)).trans hw1
    have qP : PartR H o S j := (hP j (by omega)).fr (by omega) (fun x a b => hf x (by omega))
    obtain ⟨⟨R, r1, r2⟩, r3⟩ := id hR
    obtain ⟨gf, w1, w2⟩ := r3 (j + 1) (by omega)
    obtain ⟨gt, z1, -⟩ := r3 j (by omega)
    have rl := rb_le hS set (S 12 0 - (j + 1)) (by omega)
    have eR : R (j + 1) = nI (rb S set (S 12 0) (S 12 0 - (j + 1))) := by
      have := r2 (S 12 0 - (j + 1)) (Nat.le_refl _)
      rw [show S 12 0 - (S 12 0 - (j + 1)) = j + 1 by omega] at this
      exact this
    obtain ⟨H1, c1, c2, ⟨g', c3, c4⟩, c5, c6, c7⟩ := c_choose (set := set) (F := Wb S set (S 12 0) (S 12 0 - (j + 1))) hS (show j < S 12 0 by omega) ho q17 q22 hfr qP r1 eR (by omega) w1 (w2 (S 12 0 - (j + 1)) (Nat.le_refl _) (by omega)) (Wb_zero S set _ _) z1
    have eA : Ao S set j (Wb S set (S 12 0) (S 12 0 - (j + 1))) = Wb S set (S 12 0) (S 12 0 - j) := by
      rw [show S 12 0 - j = (S 12 0 - (j + 1)) + 1 by omega]
      simp only [Wb]
      rw [show S 12 0 - (S 12 0 - (j + 1) + 1) = j by omega]
    have eB : rn S set j (rb S set (S 12 0) (S 12 0 - (j + 1))) = rb S set (S 12 0) (S 12 0 - j) := by
      rw [show S 12 0 - j = (S 12 0 - (j + 1)) + 1 by omega]
      simp only [rb]
      rw [show S 12 0 - (S 12 0 - (j + 1) + 1) = j by omega]
      rfl
    rw [eA] at c4
    rw [eB] at c2 c4
    have hR1 : RwR H1 S set (S 12 0 - j) := by
      refine ⟨⟨_, c2, fun k hk => ?_⟩, fun q hq => ?_⟩
      · by_cases e : k = S 12 0 - j
        · subst e
          rw [show S 12 0 - (S 12 0 - j) = j by omega, pk_us]
        · rw [pk_un (by omega)]; exact r2 k (by omega)
      · by_cases e : q = j
        · subst e
          refine ⟨g', c3, fun k hk e2 => ?_⟩
          have : k = S 12 0 - q := by omega
          subst this
          exact c4
        · obtain ⟨g, y1, y2⟩ := r3 q hq
          refine ⟨g, by rw [c5 _ (by omega) (by omega)]; exact y1, fun k hk e2 => y2 k (by omega) e2⟩
    obtain ⟨h', p1, p2⟩ := ih H1 (by omega) hR1 (fun a ha => by rw [c5 a (by omega) (by omega)]; exact hf a ha) (c6.trans s1) (c7.trans s2)
    refine ⟨h', ?_, p2⟩
    rw [← p1, r_X5_weighOnce_100]
    have q0 : ¬ nI j < nI 0 := by rw [nI_lt' (by omega) (by decide)]; omega
    have ef : nI j + -1 = fI j := by
      unfold fI
      rw [Int32.sub_eq_add_neg]
      rfl
    by_cases tb : set.testBit j = true
    · rw [tb_1 tb] at c1
      simp only [r_X5_weighOnce_102, r_X5_weighOnce_105, r_X5_weighOnce_106, r_X5_weighOnce_107, r_X5_weighOnce_110, r_X5_weighOnce_112, r_X5_weighOnce_113, r_X5_weighOnce_115, r_X5_weighOnce_116, r_X5_weighOnce_118, r_X5_weighOnce_119, r_X5_weighOnce_120, r_X5_weighOnce_121, r_X5_weighOnce_122, r_X5_weighOnce_125, r_X5_weighOnce_126, r_X5_weighOnce_130, r_X5_weighOnce_133, r_X5_weighOnce_136, ↓reduceIte, Option.isSome_some, Option.getD_some, rL_v, rL_n, cH_s, List.cons_append, List.nil_append, cat_i, cat_r, cat_n, ofN, hx4, fI_s, q0, g4_0 qH, g4_1 qH, g4_2 qH, g4_3 qH, g4_4 qH, g4_5 qH, g4_6 qH, ro4 qH, gR_nI qw (Or.inr (Or.inl rfl)) (by decide) (by omega) (hw2 j (by omega)) (show j < 7 by omega), shrB (show set < 2147483648 by omega) (show j < 8 by omega), tb_1 tb, ro5 q17, c1, ef]
    · have n01 : ¬ nI 0 = nI 1 := by decide
      rw [tb_0 tb] at c1
      simp only [r_X5_weighOnce_102, r_X5_weighOnce_105, r_X5_weighOnce_106, r_X5_weighOnce_107, r_X5_weighOnce_110, r_X5_weighOnce_112, r_X5_weighOnce_113, r_X5_weighOnce_115, r_X5_weighOnce_116, r_X5_weighOnce_118, r_X5_weighOnce_119, r_X5_weighOnce_120, r_X5_weighOnce_121, r_X5_weighOnce_122, r_X5_weighOnce_129, r_X5_weighOnce_130, r_X5_weighOnce_133, r_X5_weighOnce_136, ↓reduceIte, Option.isSome_some, Option.getD_some, rL_v, rL_n, cH_s, List.cons_append, List.nil_append, cat_i, cat_r, cat_n, ofN, hx4, fI_s, q0, g4_0 qH, g4_1 qH, g4_2 qH, g4_3 qH, g4_4 qH, g4_5 qH, g4_6 qH, ro4 qH, gR_nI qw (Or.inr (Or.inl rfl)) (by decide) (by omega) (hw2 j (by omega)) (show j < 7 by omega), shrB (show set < 2147483648 by omega) (show j < 8 by omega), tb_0 tb, n01, ro5 q17, c1, ef]
theorem pow7 {n : Nat} (h : n ≤ 7) : 2 ^ n ≤ 128 := by
  have := Nat.pow_le_pow_right (show 0 < 2 by decide) h
  exact this
set_option maxHeartbeats 2000000 in
theorem c_weighOnce {h : AH} {S : SS} {o : Nat} (hS : HOk S) (ho : 31 < o) (hH : ∃ pl tl ck nt ag, h.2.2 o = some (oHa (nI (S 12 0)) (o + 1) pl tl ck nt ag)) (hRow : RowR h o) (hP : ∀ p, p < S 12 0 → PartR h o S p) (hX : LoX h) (h17 : h.2.2 17 = some (oLo 18 19 20 21 22 31 (nI 0))) :
    ∃ h', Call M_X5_weighOnce h [.ref 17, .ref o] = some (h', none) ∧ LoX h' ∧ h'.2.2 17 = some (oLo 18 19 20 21 22 31 (nI 1)) ∧ LoD h' S ∧ (∀ a, a < 17 ∨ 31 < a → h'.2.2 a = h.2.2 a) ∧ h'.1 = h.1 ∧ h'.2.1 = h.2.1 := by
  have h7 := hS.1
  have p7 := pow7 h7
  obtain ⟨⟨f18, x18⟩, ⟨f19, x19⟩, ⟨f20, x20⟩, ⟨f21, x21⟩, ⟨f22, x22, x22'⟩, xR, ⟨f31, x31⟩⟩ := hX
  obtain ⟨pl, tl, ck, nt, ag, hH1⟩ := id hH
  have L : ∀ (m k : Nat) (H : AH) (x4 x5 : Value), k + m = 2 ^ S 12 0 → (k = 0 → RwR H S 0 0) → (0 < k → RwR H S (k - 1) (S 12 0)) → NoR H S (fun _ => k) → H.2.2 17 = some (oLo 18 19 20 21 22 31 (nI 1)) → H.2.2 22 = some (rA 3 8 f22) → (∀ a, a < 17 ∨ 31 < a → H.2.2 a = h.2.2 a) → H.1 = h.1 → H.2.1 = h.2.1 →
      ∃ h', Run M_X5_weighOnce 73 [.ref 17, .ref o, .int (nI (S 12 0)), .int (nI k), x4, x5] [] H = some (h', none) ∧ LoX h' ∧ h'.2.2 17 = some (oLo 18 19 20 21 22 31 (nI 1)) ∧ LoD h' S ∧ (∀ a, a < 17 ∨ 31 < a → h'.2.2 a = h.2.2 a) ∧ h'.1 = h.1 ∧ h'.2.1 = h.2.1 := by
    intro m
    induction m with
    | zero =>
      intro k H x4 x5 hk _ hRw hN q17 q22 hf s1 s2
      have e : k = 2 ^ S 12 0 := by omega
      have hk0 : 0 < k := by rw [e]; exact Nat.two_pow_pos _
      obtain ⟨⟨R, r1, -⟩, r3⟩ := hRw hk0
      subst e
      obtain ⟨⟨g1, a1, b1⟩, ⟨g2, a2, b2⟩, ⟨g3, a3, b3⟩, ⟨g4, a4, b4⟩⟩ := hN
      refine ⟨H, by simp only [r_X5_weighOnce_73, r_X5_weighOnce_74, r_X5_weighOnce_75, r_X5_weighOnce_76, r_X5_weighOnce_77, r_X5_weighOnce_150, ↓reduceIte, Option.isSome_some, Option.getD_some, rL_v, rL_n, cH_s, List.cons_append, List.nil_append, cat_i, cat_r, cat_n, ofN, shl1 h7, Int32.le_refl], ⟨⟨g1, a1⟩, ⟨g2, a2⟩, ⟨g3, a3⟩, ⟨g4, a4⟩, ⟨f22, q22, x22'⟩, fun q hq => ?_, ⟨R, r1⟩⟩, q17, ⟨⟨g1, a1, b1⟩, ⟨g2, a2, b2⟩, ⟨g3, a3, b3⟩⟩, hf, s1, s2⟩
      obtain ⟨g, y, -⟩ := r3 q hq
      exact ⟨g, y⟩
    | succ m ih =>
      intro k H x4 x5 hk hRw0 hRw hN q17 q22 hf s1 s2
      have k7 : k < 128 := by omega
      have q0 : ¬ nI (2 ^ S 12 0) ≤ nI k := by rw [nI_le' (by omega) (by omega)]; omega
      have cl := cg_le k k7
      have hr0 : RwR H S k (S 12 0 - min (S 12 0) (cgN k)) := by
        by_cases e : k = 0
        · subst e
          rw [show S 12 0 - min (S 12 0) (cgN 0) = 0 by rw [show cgN 0 = 32 from rfl]; omega]
          exact hRw0 rfl
        · obtain ⟨⟨R, r1, r2⟩, r3⟩ := hRw (by omega)
          have cb := cg_bits k k7
          have eq : ∀ j, j ≤ S 12 0 - min (S 12 0) (cgN k) → Wb S k (S 12 0) j = Wb S (k - 1) (S 12 0) j ∧ rb S k (S 12 0) j = rb S (k - 1) (S 12 0) j := fun j hj => Wb_bits S j (by omega) (fun p p1 p2 => cb p (by omega) (by omega) (by omega))
          refine ⟨⟨R, r1, fun j hj => by rw [(eq j hj).2]; exact r2 j (by omega)⟩, fun q hq => ?_⟩
          obtain ⟨g, y1, y2⟩ := r3 q hq
          refine ⟨g, y1, fun j hj e t ht => ?_⟩
          rw [(eq j hj).1]
          rw [(eq j hj).2] at ht
          exact y2 j (by omega) e t ht
      obtain ⟨H1, c1, c2, c3, c4, c5⟩ := c_rows (h := H) (x2 := .int (nI (S 12 0))) (x4 := .int (nI (min (S 12 0) (cgN k)))) hS k7 ho rfl ⟨pl, tl, ck, nt, ag, (hf o (by omega)).trans hH1⟩ (hRow.fr (hf _ (by omega))) (fun p hp => (hP p hp).fr (by omega) (fun x a b => hf x (by omega))) q17 q22 x22' (min (S 12 0) (cgN k)) H (by omega) hr0 (fun _ _ => rfl) rfl rfl
      have Q17 := (c3 17 (by omega)).trans q17
      have Q22 := (c3 22 (by omega)).trans q22
      obtain ⟨⟨R, r1, r2⟩, r3⟩ := id c2
      obtain ⟨g, y1, y2⟩ := r3 0 (by decide)
      have hrb := rb_le hS k (S 12 0) (Nat.le_refl _)
      have eR : R 0 = nI (rb S k (S 12 0) (S 12 0)) := by
        have := r2 (S 12 0) (Nat.le_refl _)
        rw [Nat.sub_self] at this
        exact this
      have eW : ∀ t, t ≤ rb S k (S 12 0) (S 12 0) → g t = lN (Wo S k (S 12 0) t) := fun t ht => by
        have := y2 (S 12 0) (Nat.le_refl _) (by omega) t ht
        rw [Wb_Wo] at this
        exact this
      have eZ : ∀ t, rb S k (S 12 0) (S 12 0) < t → Wo S k (S 12 0) t = 0 := fun t ht => by
        rw [← Wb_Wo]
        exact Wb_zero S k (S 12 0) (S 12 0) t ht
      have hN1 : NoR H1 S (fun _ => k) := by
        obtain ⟨⟨g1, a1, b1⟩, ⟨g2, a2, b2⟩, ⟨g3, a3, b3⟩, ⟨g4, a4, b4⟩⟩ := hN
        exact ⟨⟨g1, (c3 _ (by omega)).trans a1, b1⟩, ⟨g2, (c3 _ (by omega)).trans a2, b2⟩, ⟨g3, (c3 _ (by omega)).trans a3, b3⟩, ⟨g4, (c3 _ (by omega)).trans a4, b4⟩⟩
      obtain ⟨H2, d1, d2, d3, d4, d5⟩ := c_note hS k7 Q17 Q22 x22' r1 eR (by omega) y1 eW eZ hN1
      obtain ⟨h', p1, p2⟩ := ih (k + 1) H2 (.int (nI (min (S 12 0) (cgN k)))) (.int (fI 0)) (by omega) (fun e => by omega) (fun _ => ⟨⟨R, (d3 31 (by omega)).trans r1, r2⟩, fun q hq => by
        obtain ⟨g, y1, y2⟩ := r3 q hq
        exact ⟨g, (d3 _ (by omega)).trans y1, y2⟩⟩) d2 ((d3 17 (by omega)).trans Q17) ((d3 22 (by omega)).trans Q22) (fun a ha => (d3 a (by omega)).trans ((c3 a (by omega)).trans (hf a ha))) (d4.trans (c4.trans s1)) (d5.trans (c5.trans s2))
      refine ⟨h', ?_, p2⟩
      rw [r_X5_weighOnce_73]
      simp only [r_X5_weighOnce_74, r_X5_weighOnce_75, r_X5_weighOnce_76, r_X5_weighOnce_77, r_X5_weighOnce_80, r_X5_weighOnce_81, r_X5_weighOnce_82, r_X5_weighOnce_83, r_X5_weighOnce_84, r_X5_weighOnce_85, r_X5_weighOnce_86, r_X5_weighOnce_89, r_X5_weighOnce_92, r_X5_weighOnce_94, r_X5_weighOnce_96, r_X5_weighOnce_97, r_X5_weighOnce_98, ↓reduceIte, Option.isSome_some, Option.getD_some, rL_v, rL_n, cH_s, List.cons_append, List.nil_append, cat_i, cat_r, cat_n, ofN, shl1 h7, q0, c_bitCount, cg_bc k k7, c_min (show S 12 0 < 2147483648 by omega) (show cgN k < 2147483648 by omega)]
      rw [show nI (min (S 12 0) (cgN k)) - nI 1 = fI (min (S 12 0) (cgN k)) from rfl, c1]
      simp only [r_X5_weighOnce_139, r_X5_weighOnce_140, r_X5_weighOnce_141, r_X5_weighOnce_144, r_X5_weighOnce_147, ↓reduceIte, Option.isSome_some, Option.getD_some, rL_v, rL_n, cH_s, List.cons_append, List.nil_append, cat_i, cat_r, cat_n, ofN, ro5 Q17, d1, nI_add]
      exact p1
  have hmin : min (S 12 0) 7 = S 12 0 := by omega
  generalize hA : hup h 17 (oLo 18 19 20 21 22 31 (nI 1)) = A
  have A17 : A.2.2 17 = some (oLo 18 19 20 21 22 31 (nI 1)) := by rw [← hA]; exact hup_get
  have Af : ∀ a, a ≠ 17 → A.2.2 a = h.2.2 a := fun a ha => by rw [← hA]; exact hup_ne ha
  generalize hB : hup A 18 (iA 421 (fun t => if t < 421 then nI 0 else f18 t)) = B
  have B17 : B.2.2 17 = some (oLo 18 19 20 21 22 31 (nI 1)) := by rw [← hB]; exact (hup_ne (by decide)).trans A17
  have B18 : B.2.2 18 = some (iA 421 (fun t => if t < 421 then nI 0 else f18 t)) := by rw [← hB]; exact hup_get
  have Bf : ∀ a, a ≠ 17 → a ≠ 18 → B.2.2 a = h.2.2 a := fun a h1 h2 => by rw [← hB, hup_ne h2]; exact Af a h1
  generalize hC : hup B 19 (iA 421 (fun t => if t < 421 then nI 0 else f19 t)) = C
  have C17 : C.2.2 17 = some (oLo 18 19 20 21 22 31 (nI 1)) := by rw [← hC]; exact (hup_ne (by decide)).trans B17
  have C18 : C.2.2 18 = some (iA 421 (fun t => if t < 421 then nI 0 else f18 t)) := by rw [← hC]; exact (hup_ne (by decide)).trans B18
  have C19 : C.2.2 19 = some (iA 421 (fun t => if t < 421 then nI 0 else f19 t)) := by rw [← hC]; exact hup_get
  have Cf : ∀ a, a < 17 ∨ 19 < a → C.2.2 a = h.2.2 a := fun a ha => by rw [← hC, hup_ne (by omega)]; exact Bf a (by omega) (by omega)
  generalize hD : hup C 20 (iA 421 (fun t => if t < 421 then -1 else f20 t)) = D
  have D17 : D.2.2 17 = some (oLo 18 19 20 21 22 31 (nI 1)) := by rw [← hD]; exact (hup_ne (by decide)).trans C17
  have D18 : D.2.2 18 = some (iA 421 (fun t => if t < 421 then nI 0 else f18 t)) := by rw [← hD]; exact (hup_ne (by decide)).trans C18
  have D19 : D.2.2 19 = some (iA 421 (fun t => if t < 421 then nI 0 else f19 t)) := by rw [← hD]; exact (hup_ne (by decide)).trans C19
  have D20 : D.2.2 20 = some (iA 421 (fun t => if t < 421 then -1 else f20 t)) := by rw [← hD]; exact hup_get
  have Df : ∀ a, a < 17 ∨ 20 < a → D.2.2 a = h.2.2 a := fun a ha => by rw [← hD, hup_ne (by omega)]; exact Cf a (by omega)
  generalize hE : hup D 21 (jA 421 (fun t => if t < 421 then lN 0 else f21 t)) = E
  have E17 : E.2.2 17 = some (oLo 18 19 20 21 22 31 (nI 1)) := by rw [← hE]; exact (hup_ne (by decide)).trans D17
  have E18 : E.2.2 18 = some (iA 421 (fun t => if t < 421 then nI 0 else f18 t)) := by rw [← hE]; exact (hup_ne (by decide)).trans D18
  have E19 : E.2.2 19 = some (iA 421 (fun t => if t < 421 then nI 0 else f19 t)) := by rw [← hE]; exact (hup_ne (by decide)).trans D19
  have E20 : E.2.2 20 = some (iA 421 (fun t => if t < 421 then -1 else f20 t)) := by rw [← hE]; exact (hup_ne (by decide)).trans D20
  have E21 : E.2.2 21 = some (jA 421 (fun t => if t < 421 then lN 0 else f21 t)) := by rw [← hE]; exact hup_get
  have Ef : ∀ a, a < 17 ∨ 21 < a → E.2.2 a = h.2.2 a := fun a ha => by rw [← hE, hup_ne (by omega)]; exact Df a (by omega)
  have E31 := (Ef 31 (by omega)).trans x31
  obtain ⟨gn, xn⟩ := xR (S 12 0) (by omega)
  generalize hG : hup E 31 (iA 8 (upd f31 (S 12 0) (nI 0))) = G
  have G17 : G.2.2 17 = some (oLo 18 19 20 21 22 31 (nI 1)) := by rw [← hG]; exact (hup_ne (by decide)).trans E17
  have G31 : G.2.2 31 = some (iA 8 (upd f31 (S 12 0) (nI 0))) := by rw [← hG]; exact hup_get
  have Gf : ∀ a, a ≠ 31 → G.2.2 a = E.2.2 a := fun a ha => by rw [← hG]; exact hup_ne ha
  have G22 : G.2.2 22 = some (rA 3 8 f22) := (Gf 22 (by decide)).trans ((Ef 22 (by omega)).trans x22)
  have Gn : G.2.2 (23 + S 12 0) = some (jA 421 gn) := (Gf _ (by omega)).trans ((Ef _ (by omega)).trans xn)
  have GH : G.2.2 o = _ := (Gf o (by omega)).trans ((Ef o (by omega)).trans hH1)
  obtain ⟨h', p1, p2⟩ := L (2 ^ S 12 0) 0 (hup G (23 + S 12 0) (jA 421 (vp_updL gn 0 (lN 1)))) .null .null (by omega) (fun _ => by
    refine ⟨⟨_, (hup_ne (by omega)).trans G31, fun k hk => ?_⟩, fun q hq => ?_⟩
    · have : k = 0 := by omega
      subst this
      rw [Nat.sub_zero, pk_us]; rfl
    · by_cases e : q = S 12 0
      · subst e
        refine ⟨_, hup_get, fun k hk e2 t ht => ?_⟩
        have : k = 0 := by omega
        subst this
        have ht0 : t = 0 := by simp only [rb] at ht; omega
        subst ht0
        rw [pk_uLs]; rfl
      · obtain ⟨g, y⟩ := xR q hq
        exact ⟨g, by rw [hup_ne (by omega), Gf _ (by omega), Ef _ (by omega)]; exact y, fun k hk e2 => by omega⟩) (fun e => absurd e (by decide)) ⟨⟨_, by rw [hup_ne (by omega), Gf _ (by omega)]; exact E18, fun t ht => by dsimp only; rw [if_pos (by omega)]; rfl⟩, ⟨_, by rw [hup_ne (by omega), Gf _ (by omega)]; exact E19, fun t ht => by dsimp only; rw [if_pos (by omega)]; rfl⟩, ⟨_, by rw [hup_ne (by omega), Gf _ (by omega)]; exact E20, fun t ht => by dsimp only; rw [if_pos (by omega)]; show (-1 : Int32) = fI 0; decide⟩, ⟨_, by rw [hup_ne (by omega), Gf _ (by omega)]; exact E21, fun t ht => by dsimp only; rw [if_pos (by omega)]; rfl⟩⟩ ((hup_ne (by omega)).trans G17) ((hup_ne (by omega)).trans G22) (fun a ha => by rw [hup_ne (by omega), Gf _ (by omega), Ef _ (by omega)]) (by rw [hup_1, ← hG, ← hE, ← hD, ← hC, ← hB, ← hA]; rfl) (by rw [hup_2, ← hG, ← hE, ← hD, ← hC, ← hB, ← hA]; rfl)
  refine ⟨h', ?_, p2⟩
  show Run M_X5_weighOnce 0 [.ref 17, .ref o, .null, .null, .null, .null] [] h = _
  have EH := (Ef o (by omega)).trans hH1
  simp only [r_X5_weighOnce_0, r_X5_weighOnce_1, r_X5_weighOnce_4, r_X5_weighOnce_7, r_X5_weighOnce_8, r_X5_weighOnce_9, r_X5_weighOnce_10_0, r_X5_weighOnce_10_1, ↓reduceIte, Option.isSome_some, Option.getD_some, rL_v, rL_n, cH_s, List.cons_append, List.nil_append, cat_i, cat_r, cat_n, ofN, g5_0 h17, p5_0 h17, g5_1 h17, p5_1 h17, g5_2 h17, p5_2 h17, g5_3 h17, p5_3 h17, g5_4 h17, p5_4 h17, g5_5 h17, p5_5 h17, g5_6 h17, p5_6 h17, ro5 h17, hA]
  simp only [r_X5_weighOnce_13, r_X5_weighOnce_14, r_X5_weighOnce_17, r_X5_weighOnce_18, ↓reduceIte, Option.isSome_some, Option.getD_some, rL_v, rL_n, cH_s, List.cons_append, List.nil_append, cat_i, cat_r, cat_n, ofN, g5_0 A17, g5_1 A17, g5_2 A17, g5_3 A17, g5_4 A17, g5_5 A17, g5_6 A17, ro5 A17, c_fillI ((Af 18 (by decide)).trans x18) (show 421 < 2147483648 by decide) (show 18 ≠ 0 by decide), hB]
  simp only [r_X5_weighOnce_21, r_X5_weighOnce_22, r_X5_weighOnce_25, r_X5_weighOnce_26, ↓reduceIte, Option.isSome_some, Option.getD_some, rL_v, rL_n, cH_s, List.cons_append, List.nil_append, cat_i, cat_r, cat_n, ofN, g5_0 B17, g5_1 B17, g5_2 B17, g5_3 B17, g5_4 B17, g5_5 B17, g5_6 B17, ro5 B17, c_fillI ((Bf 19 (by decide) (by decide)).trans x19) (show 421 < 2147483648 by decide) (show 19 ≠ 0 by decide), hC]
  simp only [r_X5_weighOnce_29, r_X5_weighOnce_30, r_X5_weighOnce_33, r_X5_weighOnce_34, ↓reduceIte, Option.isSome_some, Option.getD_some, rL_v, rL_n, cH_s, List.cons_append, List.nil_append, cat_i, cat_r, cat_n, ofN, g5_0 C17, g5_1 C17, g5_2 C17, g5_3 C17, g5_4 C17, g5_5 C17, g5_6 C17, ro5 C17, c_fillI ((Cf 20 (by omega)).trans x20) (show 421 < 2147483648 by decide) (show 20 ≠ 0 by decide), hD]
  simp only [r_X5_weighOnce_37, r_X5_weighOnce_38, r_X5_weighOnce_41, r_X5_weighOnce_42, ↓reduceIte, Option.isSome_some, Option.getD_some, rL_v, rL_n, cH_s, List.cons_append, List.nil_append, cat_i, cat_r, cat_n, ofN, g5_0 D17, g5_1 D17, g5_2 D17, g5_3 D17, g5_4 D17, g5_5 D17, g5_6 D17, ro5 D17, c_fillJ ((Df 21 (by omega)).trans x21) (show 421 < 2147483648 by decide) (show 21 ≠ 0 by decide), hE]
  simp only [r_X5_weighOnce_45, r_X5_weighOnce_46, r_X5_weighOnce_49, r_X5_weighOnce_51, r_X5_weighOnce_54, r_X5_weighOnce_55, r_X5_weighOnce_56, r_X5_weighOnce_59, r_X5_weighOnce_60, r_X5_weighOnce_61, ↓reduceIte, Option.isSome_some, Option.getD_some, rL_v, rL_n, cH_s, List.cons_append, List.nil_append, cat_i, cat_r, cat_n, ofN, g4_0 EH, g4_1 EH, g4_2 EH, g4_3 EH, g4_4 EH, g4_5 EH, g4_6 EH, ro4 EH, g5_0 E17, g5_1 E17, g5_2 E17, g5_3 E17, g5_4 E17, g5_5 E17, g5_6 E17, ro5 E17, c_min (show S 12 0 < 2147483648 by omega) (show 7 < 2147483648 by decide), hmin, pI_nI E31 (by decide) (by decide) (show S 12 0 < 8 by omega), hG]
  simp only [r_X5_weighOnce_62, r_X5_weighOnce_63, r_X5_weighOnce_66, r_X5_weighOnce_67, r_X5_weighOnce_68, r_X5_weighOnce_69, r_X5_weighOnce_70, r_X5_weighOnce_71, r_X5_weighOnce_72, ↓reduceIte, Option.isSome_some, Option.getD_some, rL_v, rL_n, cH_s, List.cons_append, List.nil_append, cat_i, cat_r, cat_n, ofN, g5_0 G17, g5_1 G17, g5_2 G17, g5_3 G17, g5_4 G17, g5_5 G17, g5_6 G17, ro5 G17, gR_nI G22 (Or.inl rfl) (by decide) (by decide) (x22' (S 12 0) (by omega)) (show S 12 0 < 8 by omega), pJ_nI Gn (by decide) (by omega) (show 0 < 421 by decide)]
  exact p1
