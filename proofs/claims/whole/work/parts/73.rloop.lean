/-! ===== hall: all clauses ===== -/
/-- what comes of the text from a on: the fault, what is said -/
def RO (T : Nat → Nat) (n : Nat) : Nat → Nat → SS → Nat → Nat → (Nat × Nat) × SS
  | 0, _, Q, _, _ => ((0, 0), Q)
  | f + 1, a, Q, sg, co => if a < n then (if (Fcl T n a Q sg co).1 = 0 then RO T n f (sk T n (acl T n a)) (Qcl T n a Q) (scl T a sg) (ccl T a co) else (Fcl T n a Q sg co, Q)) else ((0, 0), Q)
theorem scl_le {T : Nat → Nat} {a sg : Nat} (h : sg ≤ 1) : scl T a sg ≤ 1 := by unfold scl; split <;> omega
theorem ccl_le {T : Nat → Nat} {a co : Nat} (h : co ≤ 1) : ccl T a co ≤ 1 := by unfold ccl; split <;> omega
theorem RO_ok {T : Nat → Nat} {n : Nat} : ∀ f a Q sg co, a ≤ n → QOk Q → FOk n (RO T n f a Q sg co).1 ∧ ((RO T n f a Q sg co).1.1 = 0 → QOk (RO T n f a Q sg co).2)
  | 0, _, _, _, _, _, h => ⟨FOk.z, fun _ => h⟩
  | f + 1, a, Q, sg, co, ha, h => by
    simp only [RO]
    by_cases q : a < n
    · rw [if_pos q]
      by_cases z : (Fcl T n a Q sg co).1 = 0
      · rw [if_pos z]
        exact RO_ok f _ _ _ _ (sk_le (acl_le q).1) (h.cl z)
      · rw [if_neg z]
        exact ⟨FOk_Fcl q, fun e => absurd e z⟩
    · rw [if_neg q]
      exact ⟨FOk.z, fun _ => h⟩
/-- what the class's reading comes to -/
def ReC (h h' : AH) (n o : Nat) (R : (Nat × Nat) × SS) : Prop := (∃ na a' sg co, h'.2.2 2 = some (oRd 3 (nI n) (fI R.1.2) (nI R.1.1) a' na sg co)) ∧ HallX h' o ∧ (R.1.1 = 0 → HallR h' o R.2) ∧ (∀ x, x ≠ 2 → x < o ∨ o + 20 < x → h'.2.2 x = h.2.2 x) ∧ h'.1 = h.1 ∧ h'.2.1 = h.2.1
theorem c_loop {T : Nat → Nat} {n o : Nat} (hn : n ≤ 250) (hT : ∀ i, i < n → T i < 256) (ho : 31 < o) : ∀ (f a : Nat) (Q : SS) (sg co cl : Nat) (h : AH) (na : Int32), n ≤ a + f → a ≤ n → sk T n a = a → cl ≤ a → sg ≤ 1 → co ≤ 1 → QOk Q → h.2.2 3 = some (iA 250 (fun i => nI (T i))) → h.2.2 2 = some (oRd 3 (nI n) (fI 0) (nI 0) (nI a) na (nI sg) (nI co)) → HallR h o Q →
    ∃ h', Run M_X7_readInto 35 [.ref 2, .ref o, .int (nI cl)] [] h = some (h', some (.int (nI (RO T n f a Q sg co).1.1))) ∧ ReC h h' n o (RO T n f a Q sg co) := by
  intro f
  induction f with
  | zero =>
    intro a Q sg co cl h na hf ha hs hc hsg hco hQ h3 h2 hH
    have e : a = n := by omega
    subst e
    have L : nI a ≤ nI a := Int32.le_refl _
    refine ⟨h, ?_, ⟨na, _, _, _, h2⟩, hH.x, fun _ => hH, fun _ _ _ => rfl, rfl, rfl⟩
    simp only [r_X7_readInto_35, r_X7_readInto_36, r_X7_readInto_39, r_X7_readInto_42, r_X7_readInto_43, r_X7_readInto_46, r_X7_readInto_47, r_X7_readInto_50, r_X7_readInto_75, r_X7_readInto_76, r_X7_readInto_79, ↓reduceIte, Option.isSome_some, Option.getD_some, rL_v, rL_n, cH_s, List.cons_append, List.nil_append, cat_i, cat_r, cat_n, ofN, g7_0 h2, g7_1 h2, g7_2 h2, g7_3 h2, g7_4 h2, g7_5 h2, g7_6 h2, g7_7 h2, ro7 h2, L, ite_self, RO]
  | succ f ih =>
    intro a Q sg co cl h na hf ha hs hc hsg hco hQ h3 h2 hH
    simp only [RO]
    by_cases q : a < n
    · rw [if_pos q]
      have q1 : ¬ nI 250 ≤ nI cl := by rw [nI_le' (by decide) (by omega)]; omega
      have q2 : ¬ nI n ≤ nI a := by rw [nI_le' (by omega) (by omega)]; omega
      obtain ⟨h', p1, ⟨na', a', r2, ra, re⟩, rX, rR, rf, z1, z2⟩ := c_readClause hn hT q ho hsg hco hQ.1 hQ.2.1.1 hQ.2.1.2.1 h3 h2 hH
      have h3' : h'.2.2 3 = some (iA 250 (fun i => nI (T i))) := by rw [rf 3 (by decide) (by omega)]; exact h3
      have K := c_skip hn hT h3' ra r2
      have T1 : Run M_X7_readInto 35 [.ref 2, .ref o, .int (nI cl)] [] h = Run M_X7_readInto 35 [.ref 2, .ref o, .int (nI (cl + 1))] [] (hup h' 2 (oRd 3 (nI n) (fI (Fcl T n a Q sg co).2) (nI (Fcl T n a Q sg co).1) (nI (sk T n a')) na' (nI (scl T a sg)) (nI (ccl T a co)))) := by
        rw [r_X7_readInto_35]
        simp only [r_X7_readInto_36, r_X7_readInto_39, r_X7_readInto_42, r_X7_readInto_43, r_X7_readInto_46, r_X7_readInto_47, r_X7_readInto_50, r_X7_readInto_53, r_X7_readInto_54, r_X7_readInto_57, r_X7_readInto_60, r_X7_readInto_61, r_X7_readInto_62, r_X7_readInto_65, r_X7_readInto_66, r_X7_readInto_69, r_X7_readInto_72, ↓reduceIte, Option.isSome_some, Option.getD_some, rL_v, rL_n, cH_s, List.cons_append, List.nil_append, cat_i, cat_r, cat_n, ofN, g7_0 h2, g7_1 h2, g7_2 h2, g7_3 h2, g7_4 h2, g7_5 h2, g7_6 h2, g7_7 h2, ro7 h2, q1, q2, ro7 h2, p1, ro7 r2, K, nI_add]
      have fr : ∀ X x, x ≠ 2 → x < o ∨ o + 20 < x → (hup h' 2 X).2.2 x = h.2.2 x := fun X x u1 u2 => by rw [hup_ne u1]; exact rf x u1 u2
      by_cases z : (Fcl T n a Q sg co).1 = 0
      · rw [if_pos z]
        have eF := (FOk_Fcl (T := T) (Q := Q) (sg := sg) (co := co) q).2.1 z
        have ea := re z
        subst ea
        have al := acl_le (T := T) q
        have sg1 := sk_ge (T := T) al.1
        have h2n : (hup h' 2 (oRd 3 (nI n) (fI (Fcl T n a Q sg co).2) (nI (Fcl T n a Q sg co).1) (nI (sk T n (acl T n a))) na' (nI (scl T a sg)) (nI (ccl T a co)))).2.2 2 = some (oRd 3 (nI n) (fI 0) (nI 0) (nI (sk T n (acl T n a))) na' (nI (scl T a sg)) (nI (ccl T a co))) := by rw [hup_get, eF]
        obtain ⟨h'', s1, s2, s3, s4, s5, s6, s7⟩ := ih (sk T n (acl T n a)) (Qcl T n a Q) (scl T a sg) (ccl T a co) (cl + 1) _ na' (by omega) (sk_le al.1) (sk_sk al.1) (by omega) (scl_le hsg) (ccl_le hco) (hQ.cl z) ((hup_ne (by decide)).trans h3') h2n ((rR z).fr (hQ.cl z).1.1 (fun x _ _ => hup_ne (by omega)))
        refine ⟨h'', T1.trans s1, s2, s3, s4, fun x u1 u2 => by rw [s5 x u1 u2]; exact fr _ x u1 u2, s6.trans z1, s7.trans z2⟩
      · rw [if_neg z]
        have zz : (nI (Fcl T n a Q sg co).1 = nI 0) = ((Fcl T n a Q sg co).1 = 0) := nI_inj (by have := (FOk_Fcl (T := T) (Q := Q) (sg := sg) (co := co) q).1; omega) (by decide)
        refine ⟨_, ?_, ⟨na', nI (sk T n a'), nI (scl T a sg), nI (ccl T a co), hup_get⟩, rX.fr (fun x _ _ => hup_ne (by omega)), fun e => absurd e z, fr _, z1, z2⟩
        rw [T1, r_X7_readInto_35]
        simp only [r_X7_readInto_36, r_X7_readInto_39, r_X7_readInto_42, r_X7_readInto_43, r_X7_readInto_46, r_X7_readInto_47, r_X7_readInto_50, r_X7_readInto_53, r_X7_readInto_54, r_X7_readInto_57, r_X7_readInto_75, r_X7_readInto_76, r_X7_readInto_79, ↓reduceIte, Option.isSome_some, Option.getD_some, rL_v, rL_n, cH_s, List.cons_append, List.nil_append, cat_i, cat_r, cat_n, ofN, rou7, gu7_0, pu7_0, gu7_1, pu7_1, gu7_2, pu7_2, gu7_3, pu7_3, gu7_4, pu7_4, gu7_5, pu7_5, gu7_6, pu7_6, gu7_7, pu7_7, zz, z, ite_self]
    · rw [if_neg q]
      have e : a = n := by omega
      subst e
      have L : nI a ≤ nI a := Int32.le_refl _
      refine ⟨h, ?_, ⟨na, _, _, _, h2⟩, hH.x, fun _ => hH, fun _ _ _ => rfl, rfl, rfl⟩
      simp only [r_X7_readInto_35, r_X7_readInto_36, r_X7_readInto_39, r_X7_readInto_42, r_X7_readInto_43, r_X7_readInto_46, r_X7_readInto_47, r_X7_readInto_50, r_X7_readInto_75, r_X7_readInto_76, r_X7_readInto_79, ↓reduceIte, Option.isSome_some, Option.getD_some, rL_v, rL_n, cH_s, List.cons_append, List.nil_append, cat_i, cat_r, cat_n, ofN, g7_0 h2, g7_1 h2, g7_2 h2, g7_3 h2, g7_4 h2, g7_5 h2, g7_6 h2, g7_7 h2, ro7 h2, L, ite_self]
theorem MTk.sk {T : Nat → Nat} {n a : Nat} {at' pl tk v f : Int32} (ha : a ≤ n) (m : MTk T n a at' pl tk v f) : MTk T n (sk T n a) at' pl tk v f := by
  unfold MTk at m ⊢
  unfold nb vl fg at m ⊢
  rw [sk_sk ha]
  exact m
/-- what the model's reading comes to -/
def ReM (h h' : AH) (S : SS) (R : (Nat × Nat) × SS) : Prop := (∃ at' pl tk v f np npl ntl sg co, h'.2.2 88 = some (oMk (bS S np npl ntl sg co) at' pl tk v f (nI R.1.1) (fI R.1.2)) ∧ (R.1.1 = 0 → np = R.2 12 0 ∧ npl = R.2 12 1 ∧ ntl = R.2 12 2)) ∧ SaX h' ∧ (R.1.1 = 0 → SaR h' R.2) ∧ (∀ x, x ≠ 88 → x < 99 ∨ 106 < x → h'.2.2 x = h.2.2 x) ∧ h'.1 = h.1 ∧ h'.2.1 = h.2.1
theorem m_loop {T : Nat → Nat} {n : Nat} {S : SS} (hn : n ≤ 250) (hT : ∀ i, i < n → T i < 256) (hSn : S 12 3 = n) : ∀ (f a : Nat) (Q : SS) (sg co : Nat) (h : AH) (at' pl tk v f' : Int32), n ≤ a + f → a ≤ n → sk T n a = a → sg ≤ 1 → co ≤ 1 → QOk Q → h.2.2 98 = some (iA 250 (fun i => nI (T i))) → h.2.2 88 = some (oMk (bS S (Q 12 0) (Q 12 1) (Q 12 2) sg co) at' pl tk v f' (nI 0) (fI 0)) → MTk T n a at' pl tk v f' → SaR h Q →
    ∃ h', Run M_X9_hall 80 [.ref 88] [] h = Run M_X9_hall 101 [.ref 88] [] h' ∧ ReM h h' S (RO T n f a Q sg co) := by
  intro f
  induction f with
  | zero =>
    intro a Q sg co h at' pl tk v f' hf ha hs hsg hco hQ h98 hm k hS
    have w := c_isWell (F := (0, 0)) (by decide) hm
    rw [bI_t rfl] at w
    have t0 := k.t0
    have q : ¬ sk T n a < n := by rw [hs]; omega
    have qt : (¬ sk T n a < n) = True := eq_true q
    refine ⟨h, ?_, ⟨at', pl, tk, v, f', _, _, _, sg, co, hm, fun _ => ⟨rfl, rfl, rfl⟩⟩, hS.x, fun _ => hS, fun _ _ _ => rfl, rfl, rfl⟩
    simp only [r_X9_hall_80, r_X9_hall_81, r_X9_hall_84, r_X9_hall_87, r_X9_hall_88, r_X9_hall_91, ↓reduceIte, Option.isSome_some, Option.getD_some, rL_v, rL_n, cH_s, List.cons_append, List.nil_append, cat_i, cat_r, cat_n, ofN, g9_0 hm, g9_1 hm, g9_2 hm, g9_3 hm, g9_4 hm, g9_5 hm, g9_6 hm, g9_7 hm, g9_8 hm, g9_9 hm, g9_10 hm, g9_11 hm, g9_12 hm, g9_13 hm, g9_14 hm, g9_15 hm, g9_16 hm, g9_17 hm, g9_18 hm, g9_19 hm, g9_20 hm, g9_21 hm, g9_22 hm, g9_23 hm, g9_24 hm, g9_25 hm, g9_26 hm, g9_27 hm, g9_28 hm, g9_29 hm, g9_30 hm, g9_31 hm, g9_32 hm, g9_33 hm, g9_34 hm, g9_35 hm, g9_36 hm, g9_37 hm, g9_38 hm, g9_39 hm, ro9 hm, w, ne10, t0, qt]
  | succ f ih =>
    intro a Q sg co h at' pl tk v f' hf ha hs hsg hco hQ h98 hm k hS
    have w := c_isWell (F := (0, 0)) (by decide) hm
    rw [bI_t rfl] at w
    have t0 := k.t0
    simp only [RO]
    by_cases q : a < n
    · rw [if_pos q]
      have qt : (¬ sk T n a < n) = False := eq_false (fun z => z (by rw [hs]; exact q))
      have hTa : T a ≠ 32 := fun z => by
        have := sk_p (T := T) (n := n) (n - a) a (by omega)
        rw [hs] at this
        exact this.2.2 ⟨q, z⟩
      obtain ⟨h', p1, ⟨a2, pl2, tk2, v2, f2, np, npl, ntl, sg', co', r1, r2⟩, rX, rR, rf, z1, z2⟩ := m_readClause hn hT q hTa hSn hsg hco hQ.1 hQ.2.1.1 hQ.2.1.2.1 h98 hm k hS
      have T1 : Run M_X9_hall 80 [.ref 88] [] h = Run M_X9_hall 80 [.ref 88] [] h' := by
        rw [r_X9_hall_80]
        simp only [r_X9_hall_81, r_X9_hall_84, r_X9_hall_87, r_X9_hall_88, r_X9_hall_91, r_X9_hall_94, r_X9_hall_95, r_X9_hall_98, ↓reduceIte, Option.isSome_some, Option.getD_some, rL_v, rL_n, cH_s, List.cons_append, List.nil_append, cat_i, cat_r, cat_n, ofN, g9_0 hm, g9_1 hm, g9_2 hm, g9_3 hm, g9_4 hm, g9_5 hm, g9_6 hm, g9_7 hm, g9_8 hm, g9_9 hm, g9_10 hm, g9_11 hm, g9_12 hm, g9_13 hm, g9_14 hm, g9_15 hm, g9_16 hm, g9_17 hm, g9_18 hm, g9_19 hm, g9_20 hm, g9_21 hm, g9_22 hm, g9_23 hm, g9_24 hm, g9_25 hm, g9_26 hm, g9_27 hm, g9_28 hm, g9_29 hm, g9_30 hm, g9_31 hm, g9_32 hm, g9_33 hm, g9_34 hm, g9_35 hm, g9_36 hm, g9_37 hm, g9_38 hm, g9_39 hm, ro9 hm, w, ne10, t0, qt, p1]
      by_cases z : (Fcl T n a Q sg co).1 = 0
      · rw [if_pos z]
        have eF := (FOk_Fcl (T := T) (Q := Q) (sg := sg) (co := co) q).2.1 z
        obtain ⟨k2, e1, e2, e3, e4, e5⟩ := r2 z
        subst e1 e2 e3 e4 e5
        have al := acl_le (T := T) q
        have sg1 := sk_ge (T := T) al.1
        rw [eF] at r1
        obtain ⟨h'', s1, s2, s3, s4, s5, s6, s7⟩ := ih (sk T n (acl T n a)) (Qcl T n a Q) (scl T a sg) (ccl T a co) h' a2 pl2 tk2 v2 f2 (by omega) (sk_le al.1) (sk_sk al.1) (scl_le hsg) (ccl_le hco) (hQ.cl z) ((rf 98 (by decide) (by decide)).trans h98) r1 (k2.sk al.1) (rR z)
        refine ⟨h'', T1.trans s1, s2, s3, s4, fun x u1 u2 => by rw [s5 x u1 u2]; exact rf x u1 u2, s6.trans z1, s7.trans z2⟩
      · rw [if_neg z]
        have w2 := c_isWell (FOk_Fcl (T := T) (Q := Q) (sg := sg) (co := co) q).1 r1
        rw [bI_f z] at w2
        refine ⟨h', ?_, ⟨a2, pl2, tk2, v2, f2, np, npl, ntl, sg', co', r1, fun e => absurd e z⟩, rX, fun e => absurd e z, rf, z1, z2⟩
        rw [T1, r_X9_hall_80]
        simp only [r_X9_hall_81, r_X9_hall_84, ↓reduceIte, Option.isSome_some, Option.getD_some, rL_v, rL_n, cH_s, List.cons_append, List.nil_append, cat_i, cat_r, cat_n, ofN, ro9 r1, w2]
    · rw [if_neg q]
      have qt : (¬ sk T n a < n) = True := eq_true (by rw [hs]; exact q)
      refine ⟨h, ?_, ⟨at', pl, tk, v, f', _, _, _, sg, co, hm, fun _ => ⟨rfl, rfl, rfl⟩⟩, hS.x, fun _ => hS, fun _ _ _ => rfl, rfl, rfl⟩
      simp only [r_X9_hall_80, r_X9_hall_81, r_X9_hall_84, r_X9_hall_87, r_X9_hall_88, r_X9_hall_91, ↓reduceIte, Option.isSome_some, Option.getD_some, rL_v, rL_n, cH_s, List.cons_append, List.nil_append, cat_i, cat_r, cat_n, ofN, g9_0 hm, g9_1 hm, g9_2 hm, g9_3 hm, g9_4 hm, g9_5 hm, g9_6 hm, g9_7 hm, g9_8 hm, g9_9 hm, g9_10 hm, g9_11 hm, g9_12 hm, g9_13 hm, g9_14 hm, g9_15 hm, g9_16 hm, g9_17 hm, g9_18 hm, g9_19 hm, g9_20 hm, g9_21 hm, g9_22 hm, g9_23 hm, g9_24 hm, g9_25 hm, g9_26 hm, g9_27 hm, g9_28 hm, g9_29 hm, g9_30 hm, g9_31 hm, g9_32 hm, g9_33 hm, g9_34 hm, g9_35 hm, g9_36 hm, g9_37 hm, g9_38 hm, g9_39 hm, ro9 hm, w, ne10, t0, qt]
