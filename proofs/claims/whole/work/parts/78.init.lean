/-! ===== what the constructors make ===== -/
theorem hnew_get {h : AH} {n : Nat} {c : AC} : (hnew h n c).2.2 h.1 = some c := by simp [hnew]
theorem hnew_ne {h : AH} {n x : Nat} {c : AC} (hx : x ≠ h.1) : (hnew h n c).2.2 x = h.2.2 x := by simp [hnew, hx]
theorem pF_raw {h : AH} {a ci k : Nat} {fs : List Value} {v : Value} (ha : h.2.2 a = some (oB ci fs)) (hk : k < fs.length) : pF h a ci k v = some (hup h a (oB ci (fs.set k v))) := by
  unfold pF; rw [ha]; dsimp only; rw [if_pos ⟨rfl, hk⟩]
theorem refO_raw {h : AH} {a ci : Nat} {fs : List Value} (ha : h.2.2 a = some (oB ci fs)) : refO h ci (some (.ref a)) = true := by
  unfold refO; dsimp only; rw [ha]; dsimp only; exact beq_self_eq_true _
/-- one thing more, kept in a field -/
theorem mk1 {h : AH} {a ci k n : Nat} {c : AC} {fs : List Value} (ha : h.2.2 a = some (oB ci fs)) (hk : k < fs.length) (hlt : a < h.1) :
    ∃ h', pF (hnew h n c) a ci k (.ref h.1) = some h' ∧ h'.2.2 a = some (oB ci (fs.set k (.ref h.1))) ∧ h'.2.2 h.1 = some c ∧ h'.1 = h.1 + 1 ∧ h'.2.1 = h.2.1 + n ∧ ∀ x, x ≠ a → x ≠ h.1 → h'.2.2 x = h.2.2 x := by
  have h1 : (hnew h n c).2.2 a = some (oB ci fs) := (hnew_ne (by omega)).trans ha
  exact ⟨_, pF_raw h1 hk, hup_get, (hup_ne (by omega)).trans hnew_get, rfl, rfl, fun x u1 u2 => (hup_ne u1).trans (hnew_ne u2)⟩
theorem i_X0 {h : AH} {a : Nat} (h1 : h.1 = a + 1) (ha : h.2.2 a = some (oB 0 [.int 0, .int 0, .int 0, .int 0, .int 0, .null, .null, .int 0, .int 0, .int 0, .int 0])) :
    ∃ h', Call M_X0_init h [.ref a] = some (h', none) ∧ h'.2.2 a = some (oAg 0 0 0 0 0 (a + 1) (a + 2) 0 0 0 0) ∧ h'.2.2 (a + 1) = some (iA 5 (fun _ => 0)) ∧ h'.2.2 (a + 2) = some (iA 5 (fun _ => 0)) ∧ h'.1 = a + 3 ∧ h'.2.1 = h.2.1 + 10 ∧ ∀ x, x < a → h'.2.2 x = h.2.2 x := by
  obtain ⟨G1, p1, a1, b1, c1, d1, f1⟩ := mk1 (k := 5) (n := 5) (c := iA 5 (fun _ => 0)) ha (by decide) (by omega)
  obtain ⟨G2, p2, a2, b2, c2, d2, f2⟩ := mk1 (k := 6) (n := 5) (c := iA 5 (fun _ => 0)) a1 (by simp) (by omega)
  rw [h1] at p1 a1 b1 c1 f1
  rw [c1] at p2 a2 b2 c2 f2
  refine ⟨G2, ?_, by rw [h1] at a2; exact a2, (f2 _ (by omega) (by omega)).trans b1, b2, c2, by rw [d2, d1], fun x hx => (f2 x (by omega) (by omega)).trans (f1 x (by omega) (by omega))⟩
  show Run M_X0_init 0 [.ref a] [] h = _
  simp only [r_X0_init_0, r_X0_init_1, r_X0_init_4, r_X0_init_5, r_X0_init_6, r_X0_init_8, r_X0_init_11, r_X0_init_12, r_X0_init_13, r_X0_init_15, r_X0_init_18, ↓reduceIte, Option.isSome_some, Option.getD_some, rL_v, rL_n, cH_s, List.cons_append, List.nil_append, cat_i, cat_r, cat_n, ofN, h1, p1, c1, p2]
theorem i_X6 {h : AH} {a : Nat} (h1 : h.1 = a + 1) (ha : h.2.2 a = some (oB 6 [.int 0, .int 0, .int 0, .int 0, .null])) :
    ∃ h', Call M_X6_init h [.ref a] = some (h', none) ∧ h'.2.2 a = some (oPa 0 0 0 0 (a + 1)) ∧ h'.2.2 (a + 1) = some (iA 4 (fun _ => 0)) ∧ h'.1 = a + 2 ∧ h'.2.1 = h.2.1 + 4 ∧ ∀ x, x < a → h'.2.2 x = h.2.2 x := by
  obtain ⟨G1, p1, a1, b1, c1, d1, f1⟩ := mk1 (k := 4) (n := 4) (c := iA 4 (fun _ => 0)) ha (by decide) (by omega)
  rw [h1] at p1 a1 b1 c1 f1
  refine ⟨G1, ?_, a1, b1, c1, d1, fun x hx => f1 x (by omega) (by omega)⟩
  show Run M_X6_init 0 [.ref a] [] h = _
  simp only [r_X6_init_0, r_X6_init_1, r_X6_init_4, r_X6_init_5, r_X6_init_6, r_X6_init_8, r_X6_init_11, ↓reduceIte, Option.isSome_some, Option.getD_some, rL_v, rL_n, cH_s, List.cons_append, List.nil_append, cat_i, cat_r, cat_n, ofN, h1, p1]
theorem i_X7 {h : AH} {a : Nat} (h1 : h.1 = a + 1) (ha : h.2.2 a = some (oB 7 [.null, .int 0, .int 0, .int 0, .int 0, .int 0, .int 0, .int 0])) :
    ∃ h', Call M_X7_init h [.ref a] = some (h', none) ∧ h'.2.2 a = some (oRd (a + 1) 0 (-1) 0 0 0 0 0) ∧ h'.2.2 (a + 1) = some (iA 250 (fun _ => 0)) ∧ h'.1 = a + 2 ∧ h'.2.1 = h.2.1 + 250 ∧ ∀ x, x < a → h'.2.2 x = h.2.2 x := by
  obtain ⟨G1, p1, a1, b1, c1, d1, f1⟩ := mk1 (k := 0) (n := 250) (c := iA 250 (fun _ => 0)) ha (by decide) (by omega)
  rw [h1] at p1 a1 b1 c1 f1
  have p2 := pF_raw (k := 2) (v := .int (-1)) a1 (by simp)
  refine ⟨_, ?_, hup_get, (hup_ne (by omega)).trans b1, c1, d1, fun x hx => (hup_ne (by omega)).trans (f1 x (by omega) (by omega))⟩
  show Run M_X7_init 0 [.ref a] [] h = _
  simp only [r_X7_init_0, r_X7_init_1, r_X7_init_4, r_X7_init_5, r_X7_init_8, r_X7_init_10, r_X7_init_13, r_X7_init_14, r_X7_init_15, r_X7_init_18, ↓reduceIte, Option.isSome_some, Option.getD_some, rL_v, rL_n, cH_s, List.cons_append, List.nil_append, cat_i, cat_r, cat_n, ofN, h1, p1, p2]
  rfl
theorem i_X3 {h : AH} {a : Nat} (h1 : h.1 = a + 1) (ha : h.2.2 a = some (oB 3 [.null, .null, .int 0])) :
    ∃ h', Call M_X3_init h [.ref a] = some (h', none) ∧ h'.2.2 a = some (oEn (a + 1) (a + 2) 0) ∧ h'.2.2 (a + 1) = some (iA 12 (fun _ => 0)) ∧ h'.2.2 (a + 2) = some (iA 12 (fun _ => 0)) ∧ h'.1 = a + 3 ∧ h'.2.1 = h.2.1 + 24 ∧ ∀ x, x < a → h'.2.2 x = h.2.2 x := by
  obtain ⟨G1, p1, a1, b1, c1, d1, f1⟩ := mk1 (k := 0) (n := 12) (c := iA 12 (fun _ => 0)) ha (by decide) (by omega)
  obtain ⟨G2, p2, a2, b2, c2, d2, f2⟩ := mk1 (k := 1) (n := 12) (c := iA 12 (fun _ => 0)) a1 (by simp) (by omega)
  rw [h1] at p1 a1 b1 c1 f1
  rw [c1] at p2 a2 b2 c2 f2
  refine ⟨G2, ?_, by rw [h1] at a2; exact a2, (f2 _ (by omega) (by omega)).trans b1, b2, c2, by rw [d2, d1], fun x hx => (f2 x (by omega) (by omega)).trans (f1 x (by omega) (by omega))⟩
  show Run M_X3_init 0 [.ref a] [] h = _
  simp only [r_X3_init_0, r_X3_init_1, r_X3_init_4, r_X3_init_5, r_X3_init_7, r_X3_init_9, r_X3_init_12, r_X3_init_13, r_X3_init_15, r_X3_init_17, r_X3_init_20, ↓reduceIte, Option.isSome_some, Option.getD_some, rL_v, rL_n, cH_s, List.cons_append, List.nil_append, cat_i, cat_r, cat_n, ofN, h1, p1, c1, p2]
theorem i_X1 {h : AH} {a : Nat} (h1 : h.1 = a + 1) (ha : h.2.2 a = some (oB 1 [.null, .null, .int 0])) :
    ∃ h', Call M_X1_init h [.ref a] = some (h', none) ∧ h'.2.2 a = some (oBk (a + 1) (a + 2) 0) ∧ h'.2.2 (a + 1) = some (iA 20 (fun _ => 0)) ∧ h'.2.2 (a + 2) = some (iA 20 (fun _ => 0)) ∧ h'.1 = a + 3 ∧ h'.2.1 = h.2.1 + 40 ∧ ∀ x, x < a → h'.2.2 x = h.2.2 x := by
  obtain ⟨G1, p1, a1, b1, c1, d1, f1⟩ := mk1 (k := 0) (n := 20) (c := iA 20 (fun _ => 0)) ha (by decide) (by omega)
  obtain ⟨G2, p2, a2, b2, c2, d2, f2⟩ := mk1 (k := 1) (n := 20) (c := iA 20 (fun _ => 0)) a1 (by simp) (by omega)
  rw [h1] at p1 a1 b1 c1 f1
  rw [c1] at p2 a2 b2 c2 f2
  refine ⟨G2, ?_, by rw [h1] at a2; exact a2, (f2 _ (by omega) (by omega)).trans b1, b2, c2, by rw [d2, d1], fun x hx => (f2 x (by omega) (by omega)).trans (f1 x (by omega) (by omega))⟩
  show Run M_X1_init 0 [.ref a] [] h = _
  simp only [r_X1_init_0, r_X1_init_1, r_X1_init_4, r_X1_init_5, r_X1_init_7, r_X1_init_9, r_X1_init_12, r_X1_init_13, r_X1_init_15, r_X1_init_17, r_X1_init_20, ↓reduceIte, Option.isSome_some, Option.getD_some, rL_v, rL_n, cH_s, List.cons_append, List.nil_append, cat_i, cat_r, cat_n, ofN, h1, p1, c1, p2]
/-- rows, kept in a field -/
theorem mkM {h : AH} {a ci k : Nat} {fs : List Value} (ha : h.2.2 a = some (oB ci fs)) (hk : k < fs.length) (hlt : a < h.1) :
    ∃ h', pF (hmul h 8 421) a ci k (.ref h.1) = some h' ∧ h'.2.2 a = some (oB ci (fs.set k (.ref h.1))) ∧ (∃ f, h'.2.2 h.1 = some (rA 3 8 f) ∧ ∀ q, q < 8 → f q = some (h.1 + 1 + q)) ∧ (∀ q, q < 8 → h'.2.2 (h.1 + 1 + q) = some (jA 421 (fun _ => 0))) ∧ h'.1 = h.1 + 9 ∧ h'.2.1 = h.2.1 + 3376 ∧ ∀ x, x ≠ a → x < h.1 → h'.2.2 x = h.2.2 x := by
  have h1 : (hmul h 8 421).2.2 a = some (oB ci fs) := by
    show (if a = h.1 then _ else if h.1 < a ∧ a < h.1 + 1 + 8 then _ else h.2.2 a) = _
    rw [if_neg (by omega), if_neg (by omega)]; exact ha
  refine ⟨_, pF_raw h1 hk, hup_get, ⟨fun i => if i < 8 then some (h.1 + 1 + i) else none, (hup_ne (by omega)).trans ?_, fun q hq => if_pos hq⟩, fun q hq => (hup_ne (by omega)).trans ?_, rfl, rfl, fun x u1 u2 => (hup_ne u1).trans ?_⟩
  · show (if h.1 = h.1 then _ else _) = _
    rw [if_pos rfl]
  · show (if h.1 + 1 + q = h.1 then _ else if h.1 < h.1 + 1 + q ∧ h.1 + 1 + q < h.1 + 1 + 8 then _ else _) = _
    rw [if_neg (by omega), if_pos (by omega)]
  · show (if x = h.1 then _ else if h.1 < x ∧ x < h.1 + 1 + 8 then _ else h.2.2 x) = _
    rw [if_neg (by omega), if_neg (by omega)]
theorem i_X2 {h : AH} {a : Nat} (h1 : h.1 = a + 1) (ha : h.2.2 a = some (oB 2 [.null, .null, .null, .null, .int 0])) :
    ∃ h', Call M_X2_init h [.ref a] = some (h', none) ∧ h'.2.2 a = some (oEo (a + 1) (a + 10) (a + 11) (a + 12) 0) ∧ (∃ f, h'.2.2 (a + 1) = some (rA 3 8 f) ∧ ∀ q, q < 8 → f q = some (a + 2 + q)) ∧ h'.2.2 (a + 2) = some (jA 421 (vp_updL (fun _ => 0) 0 (lN 1))) ∧ (∀ q, 0 < q → q < 8 → h'.2.2 (a + 2 + q) = some (jA 421 (fun _ => 0))) ∧ h'.2.2 (a + 10) = some (jA 8 (vp_updL (fun _ => 0) 0 (lN 1))) ∧ (∃ g, h'.2.2 (a + 11) = some (jA 421 g) ∧ ∀ t, t < 421 → g t = lN 1) ∧ h'.2.2 (a + 12) = some (jA 421 (fun _ => 0)) ∧ h'.1 = a + 13 ∧ h'.2.1 = h.2.1 + 4226 ∧ ∀ x, x < a → h'.2.2 x = h.2.2 x := by
  obtain ⟨G1, p1, a1, ⟨f, b1, b1'⟩, e1, c1, d1, f1⟩ := mkM (k := 0) ha (by decide) (by omega)
  obtain ⟨G2, p2, a2, b2, c2, d2, f2⟩ := mk1 (k := 1) (n := 8) (c := jA 8 (fun _ => 0)) a1 (by simp) (by omega)
  obtain ⟨G3, p3, a3, b3, c3, d3, f3⟩ := mk1 (k := 2) (n := 421) (c := jA 421 (fun _ => 0)) a2 (by simp) (by omega)
  obtain ⟨G4, p4, a4, b4, c4, d4, f4⟩ := mk1 (k := 3) (n := 421) (c := jA 421 (fun _ => 0)) a3 (by simp) (by omega)
  rw [h1] at p1 a1 b1 c1 f1 e1
  rw [c1] at p2 a2 b2 c2 f2
  rw [c2] at p3 a3 b3 c3 f3
  rw [c3] at p4 a4 b4 c4 f4
  have A0 : G4.2.2 a = some (oEo (a + 1) (a + 10) (a + 11) (a + 12) 0) := by rw [h1, c1, c2] at a4; exact a4
  have A1 : G4.2.2 (a + 1) = some (rA 3 8 f) := by rw [f4 _ (by omega) (by omega), f3 _ (by omega) (by omega), f2 _ (by omega) (by omega)]; exact b1
  have hf0 : f 0 = some (a + 2) := by rw [b1' 0 (by decide), h1]
  have A2 : ∀ q, q < 8 → G4.2.2 (a + 2 + q) = some (jA 421 (fun _ => 0)) := fun q hq => by
    rw [f4 _ (by omega) (by omega), f3 _ (by omega) (by omega), f2 _ (by omega) (by omega)]
    have := e1 q hq
    rw [show a + 1 + 1 + q = a + 2 + q by omega] at this
    exact this
  have A10 : G4.2.2 (a + 10) = some (jA 8 (fun _ => 0)) := by rw [f4 _ (by omega) (by omega), f3 _ (by omega) (by omega)]; exact b2
  have A11 : G4.2.2 (a + 11) = some (jA 421 (fun _ => 0)) := by rw [f4 _ (by omega) (by omega)]; exact b3
  have L : ∀ (k i : Nat) (H : AH) (g : Nat → Int64), i + k = 421 → H.2.2 a = some (oEo (a + 1) (a + 10) (a + 11) (a + 12) 0) → H.2.2 (a + 11) = some (jA 421 g) → (∀ t, t < i → g t = lN 1) →
      ∃ h', Run M_X2_init 61 [.ref a, .int (nI i)] [] H = some (h', none) ∧ (∃ g', h'.2.2 (a + 11) = some (jA 421 g') ∧ ∀ t, t < 421 → g' t = lN 1) ∧ h'.1 = H.1 ∧ h'.2.1 = H.2.1 ∧ ∀ x, x ≠ a + 11 → h'.2.2 x = H.2.2 x := by
    intro k
    induction k with
    | zero =>
      intro i H g hi hE hg hG
      have hi : i = 421 := by omega
      subst hi
      refine ⟨H, ?_, ⟨g, hg, hG⟩, rfl, rfl, fun _ _ => rfl⟩
      have q : nI 420 < nI 421 := by decide
      simp only [r_X2_init_61, r_X2_init_62, r_X2_init_65, r_X2_init_68, r_X2_init_69, r_X2_init_72, r_X2_init_73, r_X2_init_74, r_X2_init_75, r_X2_init_78, r_X2_init_81, ↓reduceIte, Option.isSome_some, Option.getD_some, rL_v, rL_n, cH_s, List.cons_append, List.nil_append, cat_i, cat_r, cat_n, ofN, q]
    | succ k ih =>
      intro i H g hi hE hg hG
      have q : ¬ nI 420 < nI i := by rw [nI_lt' (by omega) (by omega)]; omega
      have hi' : i < 421 := by omega
      rw [r_X2_init_61]
      simp only [r_X2_init_62, r_X2_init_65, r_X2_init_68, r_X2_init_69, r_X2_init_72, r_X2_init_73, r_X2_init_74, r_X2_init_75, r_X2_init_78, ↓reduceIte, Option.isSome_some, Option.getD_some, rL_v, rL_n, cH_s, List.cons_append, List.nil_append, cat_i, cat_r, cat_n, ofN, g2_0 hE, g2_1 hE, g2_2 hE, g2_3 hE, g2_4 hE, ro2 hE, q, pJ_nI hg (by decide) (show a + 11 ≠ 0 by omega) hi', nI_add]
      obtain ⟨h', r1, r2, r3, r4, r5⟩ := ih (i + 1) (hup H (a + 11) (jA 421 (vp_updL g i (lN 1)))) _ (by omega) (by rw [hup_ne (by omega)]; exact hE) hup_get (fun t ht => by
        by_cases e : t = i
        · subst e; simp [vp_updL]
        · simp only [vp_updL]; rw [if_neg e]; exact hG t (by omega))
      exact ⟨h', r1, r2, r3, r4, fun x hx => (r5 x hx).trans (hup_ne hx)⟩
  generalize hH5 : hup G4 (a + 2) (jA 421 (vp_updL (fun _ => 0) 0 (lN 1))) = H5
  have s5 : ∀ x, x ≠ a + 2 → H5.2.2 x = G4.2.2 x := fun x hx => by rw [← hH5]; exact hup_ne hx
  have B0 := (s5 a (by omega)).trans A0
  have B10 := (s5 (a + 10) (by omega)).trans A10
  generalize hH6 : hup H5 (a + 10) (jA 8 (vp_updL (fun _ => 0) 0 (lN 1))) = H6
  have s6 : ∀ x, x ≠ a + 10 → H6.2.2 x = H5.2.2 x := fun x hx => by rw [← hH6]; exact hup_ne hx
  have s : ∀ x, x ≠ a + 2 → x ≠ a + 10 → H6.2.2 x = G4.2.2 x := fun x u1 u2 => (s6 x u2).trans (s5 x u1)
  obtain ⟨h', r1, r2, r3, r4, r5⟩ := L 421 0 H6 _ (by omega) ((s6 a (by omega)).trans B0) ((s (a + 11) (by omega) (by omega)).trans A11) (fun t ht => absurd ht (Nat.not_lt_zero _))
  refine ⟨h', ?_, ?_, ⟨f, ?_, fun q hq => by rw [b1' q hq, h1]⟩, ?_, fun q h0 hq => ?_, ?_, r2, ?_, ?_, ?_, fun x hx => ?_⟩
  · show Run M_X2_init 0 [.ref a, .null] [] h = _
    simp only [r_X2_init_0, r_X2_init_1, r_X2_init_4, r_X2_init_5, r_X2_init_7, r_X2_init_10, r_X2_init_14, r_X2_init_17, r_X2_init_18, r_X2_init_20, r_X2_init_22, r_X2_init_25, r_X2_init_26, r_X2_init_29, r_X2_init_31, r_X2_init_34, r_X2_init_35, r_X2_init_38, r_X2_init_40, ↓reduceIte, Option.isSome_some, Option.getD_some, rL_v, rL_n, cH_s, List.cons_append, List.nil_append, cat_i, cat_r, cat_n, ofN, h1, p1, c1, p2, c2, p3, c3, p4]
    have A2' := A2 0 (by decide)
    simp only [r_X2_init_43, r_X2_init_44, r_X2_init_47, r_X2_init_48, r_X2_init_49, r_X2_init_50, r_X2_init_51, ↓reduceIte, Option.isSome_some, Option.getD_some, rL_v, rL_n, cH_s, List.cons_append, List.nil_append, cat_i, cat_r, cat_n, ofN, g2_0 A0, g2_1 A0, g2_2 A0, g2_3 A0, g2_4 A0, ro2 A0, gR_nI A1 (Or.inl rfl) (by decide) (show a + 1 ≠ 0 by omega) hf0 (show 0 < 8 by decide), pJ_nI A2' (by decide) (show a + 2 ≠ 0 by omega) (show 0 < 421 by decide), hH5]
    simp only [r_X2_init_52, r_X2_init_53, r_X2_init_56, r_X2_init_57, r_X2_init_58, r_X2_init_59, r_X2_init_60, ↓reduceIte, Option.isSome_some, Option.getD_some, rL_v, rL_n, cH_s, List.cons_append, List.nil_append, cat_i, cat_r, cat_n, ofN, g2_0 B0, g2_1 B0, g2_2 B0, g2_3 B0, g2_4 B0, ro2 B0, pJ_nI B10 (by decide) (show a + 10 ≠ 0 by omega) (show 0 < 8 by decide), hH6]
    exact r1
  · rw [r5 _ (by omega), s6 _ (by omega)]; exact B0
  · rw [r5 _ (by omega), s _ (by omega) (by omega)]; exact A1
  · rw [r5 _ (by omega), s6 _ (by omega), ← hH5]; exact hup_get
  · rw [r5 _ (by omega), s _ (by omega) (by omega)]; exact A2 q hq
  · rw [r5 _ (by omega), ← hH6]; exact hup_get
  · rw [r5 _ (by omega), s _ (by omega) (by omega)]; exact b4
  · rw [r3, ← hH6, hup_1, ← hH5, hup_1]; exact c4
  · rw [r4, ← hH6, hup_2, ← hH5, hup_2, d4, d3, d2, d1]
  · rw [r5 _ (by omega), s _ (by omega) (by omega), f4 _ (by omega) (by omega), f3 _ (by omega) (by omega), f2 _ (by omega) (by omega), f1 _ (by omega) (by omega)]
theorem i_X5 {h : AH} {a : Nat} (h1 : h.1 = a + 1) (ha : h.2.2 a = some (oB 5 [.null, .null, .null, .null, .null, .null, .int 0])) :
    ∃ h', Call M_X5_init h [.ref a] = some (h', none) ∧ h'.2.2 a = some (oLo (a + 1) (a + 2) (a + 3) (a + 4) (a + 5) (a + 14) 0) ∧ h'.2.2 (a + 1) = some (iA 421 (fun _ => 0)) ∧ h'.2.2 (a + 2) = some (iA 421 (fun _ => 0)) ∧ h'.2.2 (a + 3) = some (iA 421 (fun _ => 0)) ∧ h'.2.2 (a + 4) = some (jA 421 (fun _ => 0)) ∧ (∃ f, h'.2.2 (a + 5) = some (rA 3 8 f) ∧ ∀ q, q < 8 → f q = some (a + 6 + q)) ∧ (∀ q, q < 8 → h'.2.2 (a + 6 + q) = some (jA 421 (fun _ => 0))) ∧ h'.2.2 (a + 14) = some (iA 8 (fun _ => 0)) ∧ h'.1 = a + 15 ∧ h'.2.1 = h.2.1 + 5068 ∧ ∀ x, x < a → h'.2.2 x = h.2.2 x := by
  obtain ⟨G1, p1, a1, b1, c1, d1, f1⟩ := mk1 (k := 0) (n := 421) (c := iA 421 (fun _ => 0)) ha (by decide) (by omega)
  obtain ⟨G2, p2, a2, b2, c2, d2, f2⟩ := mk1 (k := 1) (n := 421) (c := iA 421 (fun _ => 0)) a1 (by simp) (by omega)
  obtain ⟨G3, p3, a3, b3, c3, d3, f3⟩ := mk1 (k := 2) (n := 421) (c := iA 421 (fun _ => 0)) a2 (by simp) (by omega)
  obtain ⟨G4, p4, a4, b4, c4, d4, f4⟩ := mk1 (k := 3) (n := 421) (c := jA 421 (fun _ => 0)) a3 (by simp) (by omega)
  obtain ⟨G5, p5, a5, ⟨f, b5, b5'⟩, e5, c5, d5, f5⟩ := mkM (k := 4) a4 (by simp) (by omega)
  obtain ⟨G6, p6, a6, b6, c6, d6, f6⟩ := mk1 (k := 5) (n := 8) (c := iA 8 (fun _ => 0)) a5 (by simp) (by omega)
  rw [h1] at p1 a1 b1 c1 f1
  rw [c1] at p2 a2 b2 c2 f2
  rw [c2] at p3 a3 b3 c3 f3
  rw [c3] at p4 a4 b4 c4 f4
  rw [c4] at p5 a5 b5 c5 f5 e5
  rw [c5] at p6 a6 b6 c6 f6
  refine ⟨G6, ?_, by rw [h1, c1, c2, c3, c4] at a6; exact a6, ?_, ?_, ?_, ?_, ⟨f, ?_, fun q hq => by rw [b5' q hq, c4]⟩, fun q hq => ?_, b6, c6, by rw [d6, d5, d4, d3, d2, d1], fun x hx => ?_⟩
  · show Run M_X5_init 0 [.ref a] [] h = _
    simp only [r_X5_init_0, r_X5_init_1, r_X5_init_4, r_X5_init_5, r_X5_init_8, r_X5_init_10, r_X5_init_13, r_X5_init_14, r_X5_init_17, r_X5_init_19, r_X5_init_22, r_X5_init_23, r_X5_init_26, r_X5_init_28, r_X5_init_31, r_X5_init_32, r_X5_init_35, r_X5_init_37, r_X5_init_40, r_X5_init_41, r_X5_init_43, r_X5_init_46, r_X5_init_50, r_X5_init_53, r_X5_init_54, r_X5_init_56, r_X5_init_58, r_X5_init_61, ↓reduceIte, Option.isSome_some, Option.getD_some, rL_v, rL_n, cH_s, List.cons_append, List.nil_append, cat_i, cat_r, cat_n, ofN, h1, p1, c1, p2, c2, p3, c3, p4, c4, p5, c5, p6]
  · rw [f6 _ (by omega) (by omega), f5 _ (by omega) (by omega), f4 _ (by omega) (by omega), f3 _ (by omega) (by omega), f2 _ (by omega) (by omega)]; exact b1
  · rw [f6 _ (by omega) (by omega), f5 _ (by omega) (by omega), f4 _ (by omega) (by omega), f3 _ (by omega) (by omega)]; exact b2
  · rw [f6 _ (by omega) (by omega), f5 _ (by omega) (by omega), f4 _ (by omega) (by omega)]; exact b3
  · rw [f6 _ (by omega) (by omega), f5 _ (by omega) (by omega)]; exact b4
  · rw [f6 _ (by omega) (by omega)]; exact b5
  · rw [f6 _ (by omega) (by omega)]
    have := e5 q hq
    rw [show a + 1 + 1 + 1 + 1 + 1 + 1 + q = a + 6 + q by omega] at this
    exact this
  · rw [f6 _ (by omega) (by omega), f5 _ (by omega) (by omega), f4 _ (by omega) (by omega), f3 _ (by omega) (by omega), f2 _ (by omega) (by omega), f1 _ (by omega) (by omega)]
