/-! ===== hall: the model reads a clause; bounds of what is said ===== -/
theorem m_readClause {h : AH} {T : Nat → Nat} {n a sg co : Nat} {S Q : SS} {at' pl tk v f : Int32} (hn : n ≤ 250) (hT : ∀ i, i < n → T i < 256) (ha : a < n) (hTa : T a ≠ 32) (hSn : S 12 3 = n) (hsg : sg ≤ 1) (hco : co ≤ 1) (hQ : HOk Q) (hQ1 : Q 12 1 ≤ 5) (hQ2 : Q 12 2 ≤ 5) (h98 : h.2.2 98 = some (iA 250 (fun i => nI (T i)))) (hm : h.2.2 88 = some (oMk (bS S (Q 12 0) (Q 12 1) (Q 12 2) sg co) at' pl tk v f (nI 0) (fI 0))) (k : MTk T n a at' pl tk v f) (hS : SaR h Q) :
    ∃ h', Call M_X9_readClause h [.ref 88] = some (h', none) ∧ ClM h h' T n S (Fcl T n a Q sg co) (acl T n a) (Qcl T n a Q) (scl T a sg) (ccl T a co) := by
  have sa : sk T n a = a := sk_here hTa
  have t := hT a ha
  have cc : ∀ c, c < 256 → (nI (T a) = nI c) = (T a = c) := fun c hc => nI_inj (by omega) (by omega)
  have k1 := cc 99 (by decide)
  have k2 := cc 105 (by decide)
  have k3 := cc 108 (by decide)
  have k4 := cc 112 (by decide)
  have k5 := cc 115 (by decide)
  have word : isW (T a) → ∀ X, Run M_X9_readClause 18 [.ref 88, .int (nI (T a))] [.int (nI (T a))] h = X → Call M_X9_readClause h [.ref 88] = X := by
    intro w X hX
    have hC : isC T n a (T a) := ⟨by rw [sa]; exact ha, by rw [sa]⟩
    have nd : ¬ (48 ≤ T a ∧ T a ≤ 57) := by unfold isW at w; omega
    obtain ⟨e1, e2, e3⟩ := k.a1 nd hC
    have e4 : tkN (T a) = 1 := (tkN_b (T a)).2.2.2.2.2.mpr w
    rw [e4] at e3
    subst e1 e2 e3
    show Run M_X9_readClause 0 [.ref 88, .null] [] h = _
    simp only [r_X9_readClause_0, r_X9_readClause_1, r_X9_readClause_4, r_X9_readClause_5, r_X9_readClause_8, r_X9_readClause_9, r_X9_readClause_12, r_X9_readClause_16, r_X9_readClause_17, ↓reduceIte, Option.isSome_some, Option.getD_some, rL_v, rL_n, cH_s, List.cons_append, List.nil_append, cat_i, cat_r, cat_n, ofN, g9_0 hm, g9_1 hm, g9_2 hm, g9_3 hm, g9_4 hm, g9_5 hm, g9_6 hm, g9_7 hm, g9_8 hm, g9_9 hm, g9_10 hm, g9_11 hm, g9_12 hm, g9_13 hm, g9_14 hm, g9_15 hm, g9_16 hm, g9_17 hm, g9_18 hm, g9_19 hm, g9_20 hm, g9_21 hm, g9_22 hm, g9_23 hm, g9_24 hm, g9_25 hm, g9_26 hm, g9_27 hm, g9_28 hm, g9_29 hm, g9_30 hm, g9_31 hm, g9_32 hm, g9_33 hm, g9_34 hm, g9_35 hm, g9_36 hm, g9_37 hm, g9_38 hm, g9_39 hm, ro9 hm]
    exact hX
  unfold Fcl acl Qcl scl ccl
  by_cases e1 : T a = 112
  · obtain ⟨h', p1, p2⟩ := m_readPart hn hT ha e1 hSn hQ h98 hm k hS
    rw [if_pos e1, if_pos e1, if_pos e1, if_neg (show ¬ T a = 115 by omega), if_neg (show ¬ T a = 99 by omega)]
    refine ⟨h', word (Or.inl e1) _ ?_, p2⟩
    rw [r_X9_readClause_18, if_neg (by rw [k1]; omega), if_neg (by rw [k2]; omega), if_neg (by rw [k3]; omega), if_pos (by rw [k4]; exact e1)]
    simp only [r_X9_readClause_68, r_X9_readClause_69, r_X9_readClause_72, r_X9_readClause_108, ↓reduceIte, Option.isSome_some, Option.getD_some, rL_v, rL_n, cH_s, List.cons_append, List.nil_append, cat_i, cat_r, cat_n, ofN, ro9 hm, p1]
  rw [if_neg e1, if_neg e1, if_neg e1]
  by_cases e2 : T a = 115
  · obtain ⟨h', p1, p2⟩ := m_readSign hn hT ha e2 hSn hsg hQ1 h98 hm k hS
    rw [if_pos e2, if_pos e2, if_pos e2, if_neg (show ¬ T a = 99 by omega), if_neg (show ¬ T a = 99 by omega)]
    refine ⟨h', word (Or.inr (Or.inl e2)) _ ?_, p2⟩
    rw [r_X9_readClause_18, if_neg (by rw [k1]; omega), if_neg (by rw [k2]; omega), if_neg (by rw [k3]; omega), if_neg (by rw [k4]; exact e1), if_pos (by rw [k5]; exact e2)]
    simp only [r_X9_readClause_75, r_X9_readClause_76, r_X9_readClause_79, r_X9_readClause_108, ↓reduceIte, Option.isSome_some, Option.getD_some, rL_v, rL_n, cH_s, List.cons_append, List.nil_append, cat_i, cat_r, cat_n, ofN, ro9 hm, p1]
  rw [if_neg e2, if_neg e2, if_neg e2]
  by_cases e3 : T a = 99
  · obtain ⟨h', p1, p2⟩ := m_readCosts hn hT ha e3 hSn hco hQ1 h98 hm k hS
    rw [if_pos e3, if_pos e3, if_pos e3, if_pos e3]
    refine ⟨h', word (Or.inr (Or.inr (Or.inl e3))) _ ?_, p2⟩
    rw [r_X9_readClause_18, if_pos (by rw [k1]; exact e3)]
    simp only [r_X9_readClause_82, r_X9_readClause_83, r_X9_readClause_86, r_X9_readClause_108, ↓reduceIte, Option.isSome_some, Option.getD_some, rL_v, rL_n, cH_s, List.cons_append, List.nil_append, cat_i, cat_r, cat_n, ofN, ro9 hm, p1]
  rw [if_neg e3, if_neg e3, if_neg e3, if_neg e3]
  by_cases e4 : T a = 108
  · obtain ⟨h', p1, p2⟩ := m_readPlayer hn hT ha e4 hSn hQ1 hQ1 h98 hm k hS
    rw [if_pos e4, if_pos e4]
    refine ⟨h', word (Or.inr (Or.inr (Or.inr (Or.inl e4)))) _ ?_, p2⟩
    rw [r_X9_readClause_18, if_neg (by rw [k1]; omega), if_neg (by rw [k2]; omega), if_pos (by rw [k3]; exact e4)]
    simp only [r_X9_readClause_89, r_X9_readClause_90, r_X9_readClause_93, r_X9_readClause_108, ↓reduceIte, Option.isSome_some, Option.getD_some, rL_v, rL_n, cH_s, List.cons_append, List.nil_append, cat_i, cat_r, cat_n, ofN, ro9 hm, p1]
  rw [if_neg e4, if_neg e4]
  by_cases e5 : T a = 105
  · obtain ⟨h', p1, p2⟩ := m_readTool hn hT ha e5 hSn hQ2 hQ1 h98 hm k hS
    rw [if_pos e5]
    refine ⟨h', word (Or.inr (Or.inr (Or.inr (Or.inr e5)))) _ ?_, p2⟩
    rw [r_X9_readClause_18, if_neg (by rw [k1]; omega), if_pos (by rw [k2]; exact e5)]
    simp only [r_X9_readClause_96, r_X9_readClause_97, r_X9_readClause_100, r_X9_readClause_108, ↓reduceIte, Option.isSome_some, Option.getD_some, rL_v, rL_n, cH_s, List.cons_append, List.nil_append, cat_i, cat_r, cat_n, ofN, ro9 hm, p1]
  rw [if_neg e5]
  have nw : ¬ isW (T a) := by unfold isW; omega
  have nt1 : ¬ tk = nI 1 := by
    rcases k.2 with ⟨q, -⟩ | ⟨q, e, -⟩ | ⟨q1, q2, e, -⟩
    · rw [sa] at q; exact absurd ha q
    · rw [e]; decide
    · have b := tkN_b (T (sk T n a))
      rw [e, nI_inj (by omega) (by decide)]
      rw [sa] at b ⊢
      exact fun z => nw (b.2.2.2.2.2.mp z)
  have epl := k.1
  rw [sa] at epl
  subst epl
  refine ⟨_, ?_, ClM.fail (F := (1, a + 1)) (np := Q 12 0) (npl := Q 12 1) (ntl := Q 12 2) (sg' := sg) (co' := co) (at' := at') (pl := nI a) (tk := tk) (v := v) (f := f) (show (1 : Nat) ≠ 0 by decide) hS.x⟩
  show Run M_X9_readClause 0 [.ref 88, .null] [] h = _
  simp only [r_X9_readClause_0, r_X9_readClause_1, r_X9_readClause_4, r_X9_readClause_5, r_X9_readClause_15, r_X9_readClause_16, r_X9_readClause_17, ↓reduceIte, Option.isSome_some, Option.getD_some, rL_v, rL_n, cH_s, List.cons_append, List.nil_append, cat_i, cat_r, cat_n, ofN, g9_0 hm, g9_1 hm, g9_2 hm, g9_3 hm, g9_4 hm, g9_5 hm, g9_6 hm, g9_7 hm, g9_8 hm, g9_9 hm, g9_10 hm, g9_11 hm, g9_12 hm, g9_13 hm, g9_14 hm, g9_15 hm, g9_16 hm, g9_17 hm, g9_18 hm, g9_19 hm, g9_20 hm, g9_21 hm, g9_22 hm, g9_23 hm, g9_24 hm, g9_25 hm, g9_26 hm, g9_27 hm, g9_28 hm, g9_29 hm, g9_30 hm, g9_31 hm, g9_32 hm, g9_33 hm, g9_34 hm, g9_35 hm, g9_36 hm, g9_37 hm, g9_38 hm, g9_39 hm, ro9 hm, nt1]
  rw [r_X9_readClause_18, if_neg (by decide), if_neg (by decide), if_neg (by decide), if_neg (by decide), if_neg (by decide)]
  simp only [r_X9_readClause_103, r_X9_readClause_104, r_X9_readClause_105, r_X9_readClause_108, ↓reduceIte, Option.isSome_some, Option.getD_some, rL_v, rL_n, cH_s, List.cons_append, List.nil_append, cat_i, cat_r, cat_n, ofN, ro9 hm, c_failsW hm]
def QOk (Q : SS) : Prop := HOk Q ∧ ToOk Q ∧ (Q 0 0 ≤ 20 ∧ Q 0 1 ≤ 20 ∧ Q 0 2 ≤ 20 ∧ Q 0 3 ≤ 8 ∧ Q 0 4 ≤ 8) ∧ (∀ p, p < Q 12 1 → Q 0 (5 + 2 * p) ≤ 30 ∧ Q 0 (5 + 2 * p + 1) ≤ 30) ∧ Q 0 15 = 0 ∧ Q 0 16 = 0 ∧ Q 0 17 = 0
theorem nf_0 {T : Nat → Nat} {n a lo hi : Nat} (h : (nf T n a lo hi).1 = 0) : lo ≤ vl T n a ∧ vl T n a ≤ hi := by
  unfold nf at h
  by_cases q0 : fg T n a = 0
  · rw [if_pos q0] at h; exact absurd h (show ¬ (1 : Nat) = 0 by decide)
  · rw [if_neg q0] at h
    by_cases q1 : badN T n a lo hi
    · rw [if_pos q1] at h; exact absurd h (show ¬ (2 : Nat) = 0 by decide)
    · exact Classical.byContradiction (fun z => q1 (Or.inr z))
theorem FL_0 {T : Nat → Nat} {n a : Nat} {F : Nat × Nat} : ∀ m, (FL T n a F m).1 = 0 → F.1 = 0 ∧ ∀ j, j < m → 1 ≤ vl T n (pL T n a j) ∧ vl T n (pL T n a j) ≤ 60
  | 0, h => ⟨h, fun j hj => by omega⟩
  | m + 1, h => by
    have y := oo_0 (F := FL T n a F m) (o := nf T n (pL T n a m) 1 60) h
    have ih := FL_0 m y.1
    refine ⟨ih.1, fun j hj => ?_⟩
    by_cases e : j = m
    · subst e; exact nf_0 y.2
    · exact ih.2 j (by omega)
theorem QOk.pt {T : Nat → Nat} {n a : Nat} {Q : SS} (h : QOk Q) (h7 : Q 12 0 < 7) (hF : (Fpt T n a).1 = 0) : QOk (Qpt T n a Q) := by
  obtain ⟨hH, hT, hA⟩ := h
  have y1 := (oo_0 (F := FL T n (p4 T n a) (F3p T n a) (cL T n (p4 T n a))) hF).1
  obtain ⟨y2, y3⟩ := FL_0 _ y1
  have y4 := oo_0 (F := oo (oo (nf T n (a + 1) 0 3) (nf T n (p2 T n a) 0 7)) (tf T n (vl T n (a + 1)) (p2 T n a))) (o := nf T n (p3 T n a) 0 11) y2
  have y5 := oo_0 (oo_0 y4.1).1
  have b1 := nf_0 y5.1
  have b2 := nf_0 y5.2
  have b3 := nf_0 y4.2
  have c := cL_p T n (p4 T n a)
  refine ⟨⟨by show Q 12 0 + 1 ≤ 7; omega, fun p hp => ?_⟩, hT, hA⟩
  have hp' : p < Q 12 0 + 1 := hp
  show va_up (Q 3) (Q 12 0) (vl T n (a + 1)) p ≤ 3 ∧ va_up (Q 4) (Q 12 0) (vl T n (p2 T n a)) p ≤ 7 ∧ va_up (Q 5) (Q 12 0) (vl T n (p3 T n a)) p ≤ 11 ∧ 1 ≤ va_up (Q 6) (Q 12 0) (cL T n (p4 T n a)) p ∧ va_up (Q 6) (Q 12 0) (cL T n (p4 T n a)) p ≤ 4 ∧ ∀ i, i < va_up (Q 6) (Q 12 0) (cL T n (p4 T n a)) p → 1 ≤ lnN T n (p4 T n a) (Q 12 0) (Q 7) (4 * p + i) ∧ lnN T n (p4 T n a) (Q 12 0) (Q 7) (4 * p + i) ≤ 60
  by_cases e : p = Q 12 0
  · subst e
    rw [va_up_self, va_up_self, va_up_self, va_up_self]
    refine ⟨b1.2, b2.2, b3.2, c.1, c.2.1, fun i hi => ?_⟩
    unfold lnN
    rw [if_pos (by omega), show 4 * Q 12 0 + i - 4 * Q 12 0 = i by omega]
    exact y3 i hi
  · rw [va_up_ne _ _ e, va_up_ne _ _ e, va_up_ne _ _ e, va_up_ne _ _ e]
    obtain ⟨k1, k2, k3, k4, k5, k6⟩ := hH.2 p (by omega)
    refine ⟨k1, k2, k3, k4, k5, fun i hi => ?_⟩
    unfold lnN
    rw [if_neg (by omega)]
    exact k6 i hi
theorem F2c_0 {T : Nat → Nat} {n a x y : Nat} (h : (F2c T n a x y).1 = 0) : vl T n (a + 1) ≤ x ∧ vl T n (p2 T n a) ≤ y := by
  have y1 := oo_0 (F := oo (nf T n (a + 1) 0 x) (nf T n (p2 T n a) 0 y)) (o := cf T n (p3 T n a)) h
  have y2 := oo_0 y1.1
  exact ⟨(nf_0 y2.1).2, (nf_0 y2.2).2⟩
theorem F3c_0 {T : Nat → Nat} {n a : Nat} (h : (F3c T n a).1 = 0) : vl T n (a + 1) ≤ 20 ∧ vl T n (p2 T n a) ≤ 20 ∧ vl T n (p3 T n a) ≤ 20 := by
  have y1 := oo_0 (F := oo (oo (nf T n (a + 1) 0 20) (nf T n (p2 T n a) 0 20)) (nf T n (p3 T n a) 0 20)) (o := cf T n (p4 T n a)) h
  have y2 := oo_0 y1.1
  have y3 := oo_0 y2.1
  exact ⟨(nf_0 y3.1).2, (nf_0 y3.2).2, (nf_0 y2.2).2⟩
theorem QOk.cl {T : Nat → Nat} {n a sg co : Nat} {Q : SS} (h : QOk Q) (hF : (Fcl T n a Q sg co).1 = 0) : QOk (Qcl T n a Q) := by
  obtain ⟨hH, ⟨t1, t2, t3⟩, ⟨a1, a2, a3, a4, a5⟩, hL, a6, a7, a8⟩ := id h
  have n3 : ∀ p, ¬ ((3, p) : Nat × Nat).1 = 0 := fun p => show ¬ (3 : Nat) = 0 by decide
  unfold Fcl at hF
  unfold Qcl
  by_cases e1 : T a = 112
  · rw [if_pos e1] at hF ⊢
    unfold Fp at hF
    by_cases q7 : 7 ≤ Q 12 0
    · rw [if_pos q7] at hF; exact absurd hF (n3 _)
    · rw [if_neg q7] at hF
      by_cases qt : 0 < Q 12 0 ∧ Q 3 (Q 12 0 - 1) = 3
      · rw [if_pos qt] at hF; exact absurd hF (show ¬ (4 : Nat) = 0 by decide)
      · rw [if_neg qt] at hF
        exact h.pt (by omega) hF
  rw [if_neg e1] at hF ⊢
  by_cases e2 : T a = 115
  · rw [if_pos e2] at hF ⊢
    by_cases q : sg = 1
    · rw [if_pos q] at hF; exact absurd hF (n3 _)
    · rw [if_neg q] at hF
      have b := F2c_0 hF
      refine ⟨hH, ⟨t1, t2, t3⟩, ⟨a1, a2, a3, b.1, b.2⟩, fun p hp => ?_, a6, a7, a8⟩
      show va_up (va_up (Q 0) 3 (vl T n (a + 1))) 4 (vl T n (p2 T n a)) (5 + 2 * p) ≤ 30 ∧ va_up (va_up (Q 0) 3 (vl T n (a + 1))) 4 (vl T n (p2 T n a)) (5 + 2 * p + 1) ≤ 30
      rw [va_up_ne _ _ (by omega), va_up_ne _ _ (by omega), va_up_ne _ _ (by omega), va_up_ne _ _ (by omega)]
      exact hL p hp
  rw [if_neg e2] at hF ⊢
  by_cases e3 : T a = 99
  · rw [if_pos e3] at hF ⊢
    by_cases q : co = 1
    · rw [if_pos q] at hF; exact absurd hF (n3 _)
    · rw [if_neg q] at hF
      have b := F3c_0 hF
      refine ⟨hH, ⟨t1, t2, t3⟩, ⟨b.1, b.2.1, b.2.2, a4, a5⟩, fun p hp => ?_, a6, a7, a8⟩
      show va_up (va_up (va_up (Q 0) 0 (vl T n (a + 1))) 1 (vl T n (p2 T n a))) 2 (vl T n (p3 T n a)) (5 + 2 * p) ≤ 30 ∧ va_up (va_up (va_up (Q 0) 0 (vl T n (a + 1))) 1 (vl T n (p2 T n a))) 2 (vl T n (p3 T n a)) (5 + 2 * p + 1) ≤ 30
      rw [va_up_ne _ _ (by omega), va_up_ne _ _ (by omega), va_up_ne _ _ (by omega), va_up_ne _ _ (by omega), va_up_ne _ _ (by omega), va_up_ne _ _ (by omega)]
      exact hL p hp
  rw [if_neg e3] at hF ⊢
  by_cases e4 : T a = 108
  · rw [if_pos e4] at hF ⊢
    by_cases q : 5 ≤ Q 12 1
    · rw [if_pos q] at hF; exact absurd hF (n3 _)
    · rw [if_neg q] at hF
      have b := F2c_0 hF
      have hg : ∀ x, va_up (va_up (Q 0) (5 + 2 * Q 12 1) (vl T n (a + 1))) (5 + 2 * Q 12 1 + 1) (vl T n (p2 T n a)) x = if x = 5 + 2 * Q 12 1 + 1 then vl T n (p2 T n a) else if x = 5 + 2 * Q 12 1 then vl T n (a + 1) else Q 0 x := fun x => rfl
      have ho : ∀ x, x < 5 ∨ 14 < x → va_up (va_up (Q 0) (5 + 2 * Q 12 1) (vl T n (a + 1))) (5 + 2 * Q 12 1 + 1) (vl T n (p2 T n a)) x = Q 0 x := fun x hx => by rw [hg, if_neg (by omega), if_neg (by omega)]
      refine ⟨hH, ⟨by show Q 12 1 + 1 ≤ 5; omega, t2, t3⟩, ⟨?_, ?_, ?_, ?_, ?_⟩, fun p hp => ?_, ?_, ?_, ?_⟩
      · exact Nat.le_trans (Nat.le_of_eq (ho 0 (by omega))) a1
      · exact Nat.le_trans (Nat.le_of_eq (ho 1 (by omega))) a2
      · exact Nat.le_trans (Nat.le_of_eq (ho 2 (by omega))) a3
      · exact Nat.le_trans (Nat.le_of_eq (ho 3 (by omega))) a4
      · exact Nat.le_trans (Nat.le_of_eq (ho 4 (by omega))) a5
      · have hp' : p < Q 12 1 + 1 := hp
        show va_up (va_up (Q 0) (5 + 2 * Q 12 1) (vl T n (a + 1))) (5 + 2 * Q 12 1 + 1) (vl T n (p2 T n a)) (5 + 2 * p) ≤ 30 ∧ va_up (va_up (Q 0) (5 + 2 * Q 12 1) (vl T n (a + 1))) (5 + 2 * Q 12 1 + 1) (vl T n (p2 T n a)) (5 + 2 * p + 1) ≤ 30
        rw [hg, hg]
        by_cases e : p = Q 12 1
        · subst e
          rw [if_neg (by omega), if_pos rfl, if_pos rfl]
          exact b
        · rw [if_neg (by omega), if_neg (by omega), if_neg (by omega), if_neg (by omega)]
          exact hL p (by omega)
      · exact (ho 15 (by omega)).trans a6
      · exact (ho 16 (by omega)).trans a7
      · exact (ho 17 (by omega)).trans a8
  rw [if_neg e4] at hF ⊢
  by_cases e5 : T a = 105
  · rw [if_pos e5] at hF
    by_cases q : 5 ≤ Q 12 2
    · rw [if_pos q] at hF; exact absurd hF (n3 _)
    · rw [if_neg q] at hF
      have b := F2c_0 hF
      refine ⟨hH, ⟨t1, by show Q 12 2 + 1 ≤ 5; omega, fun i hi => ?_⟩, ⟨a1, a2, a3, a4, a5⟩, hL, a6, a7, a8⟩
      have hi' : i < Q 12 2 + 1 := hi
      have hg : ∀ x, va_up (va_up (Q 8) (2 * Q 12 2) (vl T n (a + 1))) (2 * Q 12 2 + 1) (vl T n (p2 T n a)) x = if x = 2 * Q 12 2 + 1 then vl T n (p2 T n a) else if x = 2 * Q 12 2 then vl T n (a + 1) else Q 8 x := fun x => rfl
      show va_up (va_up (Q 8) (2 * Q 12 2) (vl T n (a + 1))) (2 * Q 12 2 + 1) (vl T n (p2 T n a)) (2 * i) ≤ 11 ∧ va_up (va_up (Q 8) (2 * Q 12 2) (vl T n (a + 1))) (2 * Q 12 2 + 1) (vl T n (p2 T n a)) (2 * i + 1) ≤ 99
      rw [hg, hg]
      by_cases e : i = Q 12 2
      · subst e
        rw [if_neg (by omega), if_pos rfl, if_pos rfl]
        exact b
      · rw [if_neg (by omega), if_neg (by omega), if_neg (by omega), if_neg (by omega)]
        exact t3 i (by omega)
  · rw [if_neg e5] at hF; exact absurd hF (show ¬ (1 : Nat) = 0 by decide)
