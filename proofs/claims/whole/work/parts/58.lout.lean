/-! ===== out: LeftOut ===== -/
def zg (gt : Nat → Int64) (t u : Nat) : Int64 := if u < t then lN 0 else gt u
theorem zg_s (gt : Nat → Int64) (t : Nat) : vp_updL (zg gt t) t (lN 0) = zg gt (t + 1) := by
  funext u
  unfold vp_updL zg
  by_cases e : u = t
  · rw [if_pos e, if_pos (by omega)]
  · rw [if_neg e]
    by_cases h : u < t
    · rw [if_pos h, if_pos (by omega)]
    · rw [if_neg h, if_neg (by omega)]
theorem zg_0 (gt : Nat → Int64) : zg gt 0 = gt := by
  funext u; unfold zg; rw [if_neg (by omega)]
/-- how far, with one PART more -/
def rn (S : SS) (set p r : Nat) : Nat := if set.testBit p = true then r else r + mxL (lenP S p) (S 6 p)
theorem c_choose {h : AH} {S : SS} {o p r set : Nat} {fl : Int32} {fr : Nat → Option Nat} {R : Nat → Int32} {gf gt : Nat → Int64} {F : Nat → Nat} (hS : HOk S) (hp : p < S 12 0) (ho : 31 < o) (h17 : h.2.2 17 = some (oLo 18 19 20 21 22 31 fl)) (h22 : h.2.2 22 = some (rA 3 8 fr)) (hfr : ∀ q, q < 8 → fr q = some (23 + q)) (hP : PartR h o S p) (h31 : h.2.2 31 = some (iA 8 R)) (hR : R (p + 1) = nI r) (hr : r ≤ 360) (hgf : h.2.2 (23 + (p + 1)) = some (jA 421 gf)) (hF : ∀ t, t ≤ r → gf t = lN (F t)) (hz : ∀ t, r < t → F t = 0) (hgt : h.2.2 (23 + p) = some (jA 421 gt)) :
    ∃ h', Call M_X5_choose h [.ref 17, .ref (o + 7 + 2 * p), .int (nI p), .int (nI (set / 2 ^ p % 2))] = some (h', none) ∧ h'.2.2 31 = some (iA 8 (upd R p (nI (rn S set p r)))) ∧ (∃ g', h'.2.2 (23 + p) = some (jA 421 g') ∧ ∀ t, t ≤ rn S set p r → g' t = lN (Ao S set p F t)) ∧ (∀ a, a ≠ 31 → a ≠ 23 + p → h'.2.2 a = h.2.2 a) ∧ h'.1 = h.1 ∧ h'.2.1 = h.2.1 := by
  have h7 := hS.1
  obtain ⟨k1, k2, k3, k4, k5, k6⟩ := hS.2 p hp
  have m60 := mx60 hS hp
  obtain ⟨hp1, gl, hl, hgl⟩ := hP
  have rn4 : rn S set p r ≤ 420 := by unfold rn; split <;> omega
  have n10 : ¬ nI 1 = nI 0 := by decide
  have h17' : ∀ X, (hup h (23 + p) X).2.2 17 = _ := fun X => (hup_ne (by omega)).trans h17
  have h22' : ∀ X, (hup h (23 + p) X).2.2 22 = _ := fun X => (hup_ne (by omega)).trans h22
  have h31' : ∀ X, (hup h (23 + p) X).2.2 31 = _ := fun X => (hup_ne (by omega)).trans h31
  have hp1' : ∀ X, (hup h (23 + p) X).2.2 (o + 7 + 2 * p) = _ := fun X => (hup_ne (by omega)).trans hp1
  have hl' : ∀ X, (hup h (23 + p) X).2.2 (o + 8 + 2 * p) = _ := fun X => (hup_ne (by omega)).trans hl
  have hgf' : ∀ X, (hup h (23 + p) X).2.2 (23 + (p + 1)) = _ := fun X => (hup_ne (by omega)).trans hgf
  have gq := fun X => gR_nI (h22' X) (Or.inl rfl) (by decide) (by decide) (hfr p (by omega)) (show p < 8 by omega)
  have gq1 := fun X => gR_nI (h22' X) (Or.inl rfl) (by decide) (by decide) (hfr (p + 1) (by omega)) (show p + 1 < 8 by omega)
  have LZ : ∀ (k t : Nat) (b : Int32), t + k = rn S set p r + 1 → Run M_X5_choose 37 [.ref 17, .ref (o + 7 + 2 * p), .int (nI p), .int b, .int (nI r), .int (nI (rn S set p r)), .int (nI t)] [] (hup h (23 + p) (jA 421 (zg gt t))) = Run M_X5_choose 60 [.ref 17, .ref (o + 7 + 2 * p), .int (nI p), .int b, .int (nI r), .int (nI (rn S set p r)), .int (nI (rn S set p r + 1))] [] (hup h (23 + p) (jA 421 (zg gt (rn S set p r + 1)))) := by
    intro k
    induction k with
    | zero =>
      intro t b ht
      have e : t = rn S set p r + 1 := by omega
      subst e
      have q : nI (rn S set p r) < nI (rn S set p r + 1) := by rw [nI_lt' (by omega) (by omega)]; omega
      simp only [r_X5_choose_37, r_X5_choose_39, r_X5_choose_41, ↓reduceIte, Option.isSome_some, Option.getD_some, rL_v, rL_n, cH_s, List.cons_append, List.nil_append, cat_i, cat_r, cat_n, ofN, q]
    | succ k ih =>
      intro t b ht
      have q : ¬ nI (rn S set p r) < nI t := by rw [nI_lt' (by omega) (by omega)]; omega
      have I := ih (t + 1) b (by omega)
      rw [← zg_s] at I
      rw [r_X5_choose_37]
      simp only [r_X5_choose_39, r_X5_choose_41, r_X5_choose_44, r_X5_choose_45, r_X5_choose_48, r_X5_choose_49, r_X5_choose_50, r_X5_choose_52, r_X5_choose_53, r_X5_choose_54, r_X5_choose_57, ↓reduceIte, Option.isSome_some, Option.getD_some, rL_v, rL_n, cH_s, List.cons_append, List.nil_append, cat_i, cat_r, cat_n, ofN, q, g5_0 (h17' _), g5_1 (h17' _), g5_2 (h17' _), g5_3 (h17' _), g5_4 (h17' _), g5_5 (h17' _), g5_6 (h17' _), ro5 (h17' _), gq, pJ_nI (hup_get (h := h) (a := 23 + p) (c := jA 421 (zg gt t))) (by decide) (by omega) (show t < 421 by omega), hup_hup, nI_add]
      exact I
  obtain ⟨Fn, f1, f2⟩ := jrep gf F (r + 1) (fun t ht => hF t (by omega))
  obtain ⟨Gn, g1, g2⟩ := jrep (zg gt (rn S set p r + 1)) (fun _ => 0) (rn S set p r + 1) (fun t ht => by unfold zg; rw [if_pos ht])
  have hta : (hup h (23 + p) (jA 421 (zg gt (rn S set p r + 1)))).2.2 (23 + p) = some (jA 421 (fun t => lN (Gn t))) := by rw [hup_get, g1]
  have hfa : (hup h (23 + p) (jA 421 (zg gt (rn S set p r + 1)))).2.2 (23 + (p + 1)) = some (jA 421 (fun t => lN (Fn t))) := by rw [hgf', f1]
  have LO := c_addLeftOut (r := r) (hp1' (jA 421 (zg gt (rn S set p r + 1)))) (by omega) (by omega) hfa hta (by omega) (by omega) (by omega) (by omega)
  have LP := c_addPlayed (r := r) (f := lenP S p) (hp1' (jA 421 (zg gt (rn S set p r + 1)))) (hl' _) hgl k5 (fun i hi => by have := k6 i hi; show S 7 (4 * p + i) ≤ 420; omega) (by omega) hfa hta (by omega) (by omega) (by omega) (by omega)
  rw [hup_hup] at LO LP
  have CL := c_longest (f := lenP S p) hp1 hl hgl k5 (fun i hi => by have := k6 i hi; show S 7 (4 * p + i) < 2147483648; omega)
  by_cases tb : set.testBit p = true
  · have rnE : rn S set p r = r := by unfold rn; rw [if_pos tb]
    have I := LZ (rn S set p r + 1) 0 (nI 1) (by omega)
    rw [zg_0, hup_same hgt] at I
    rw [tb_1 tb]
    refine ⟨hup (hup h (23 + p) (jA 421 (fun u => lN (Gn u + if u ≤ r then Fn u * (S 4 p * S 6 p) else 0)))) 31 (iA 8 (upd R p (nI (rn S set p r)))), ?_, hup_get, ⟨_, (hup_ne (by omega)).trans hup_get, fun t ht => ?_⟩, fun a a1 a2 => by rw [hup_ne a1, hup_ne a2], rfl, rfl⟩
    · show Run M_X5_choose 0 [.ref 17, .ref (o + 7 + 2 * p), .int (nI p), .int (nI 1), .null, .null, .null] [] h = _
      simp only [r_X5_choose_0, r_X5_choose_1, r_X5_choose_4, r_X5_choose_5, r_X5_choose_6, r_X5_choose_7, r_X5_choose_8, r_X5_choose_10, r_X5_choose_13, r_X5_choose_14, r_X5_choose_17, r_X5_choose_19, r_X5_choose_29, r_X5_choose_32, r_X5_choose_34, r_X5_choose_35, ↓reduceIte, Option.isSome_some, Option.getD_some, rL_v, rL_n, cH_s, List.cons_append, List.nil_append, cat_i, cat_r, cat_n, ofN, g5_0 h17, g5_1 h17, g5_2 h17, g5_3 h17, g5_4 h17, g5_5 h17, g5_6 h17, ro5 h17, nI_add, gI_nI h31 (by decide) (show p + 1 < 8 by omega), hR, n10, c_min (show 420 < 2147483648 by decide) (show r < 2147483648 by omega), Nat.min_eq_right (show r ≤ 420 by omega)]
      rw [rnE] at I LO ⊢
      rw [I]
      simp only [r_X5_choose_60, r_X5_choose_61, r_X5_choose_64, r_X5_choose_65, r_X5_choose_66, r_X5_choose_69, r_X5_choose_70, r_X5_choose_71, r_X5_choose_72, r_X5_choose_73, r_X5_choose_74, r_X5_choose_77, r_X5_choose_78, r_X5_choose_79, r_X5_choose_81, r_X5_choose_84, r_X5_choose_107, r_X5_choose_108, r_X5_choose_111, r_X5_choose_112, r_X5_choose_114, r_X5_choose_115, ↓reduceIte, Option.isSome_some, Option.getD_some, rL_v, rL_n, cH_s, List.cons_append, List.nil_append, cat_i, cat_r, cat_n, ofN, n10, g5_0 (h17' _), g5_1 (h17' _), g5_2 (h17' _), g5_3 (h17' _), g5_4 (h17' _), g5_5 (h17' _), g5_6 (h17' _), ro5 (h17' _), nI_add, gq, gq1, ro6 (hp1' _), LO, pI_nI (h31' _) (by decide) (by decide) (show p < 8 by omega)]
    · rw [rnE] at ht g2
      rw [g2 t (by omega), if_pos ht, f2 t (by omega), Nat.zero_add]
      unfold Ao
      rw [if_pos tb]
  · have rnE : rn S set p r = r + mxL (lenP S p) (S 6 p) := by unfold rn; rw [if_neg tb]
    have I := LZ (rn S set p r + 1) 0 (nI 0) (by omega)
    rw [zg_0, hup_same hgt] at I
    rw [tb_0 tb]
    refine ⟨hup (hup h (23 + p) (jA 421 (fun u => lN (Gn u + sm (fun i => tm Fn (8 - S 4 p) r (lenP S p i) u) (S 6 p))))) 31 (iA 8 (upd R p (nI (rn S set p r)))), ?_, hup_get, ⟨_, (hup_ne (by omega)).trans hup_get, fun t ht => ?_⟩, fun a a1 a2 => by rw [hup_ne a1, hup_ne a2], rfl, rfl⟩
    · show Run M_X5_choose 0 [.ref 17, .ref (o + 7 + 2 * p), .int (nI p), .int (nI 0), .null, .null, .null] [] h = _
      simp only [r_X5_choose_0, r_X5_choose_1, r_X5_choose_4, r_X5_choose_5, r_X5_choose_6, r_X5_choose_7, r_X5_choose_8, r_X5_choose_10, r_X5_choose_13, r_X5_choose_14, r_X5_choose_22, r_X5_choose_24, r_X5_choose_25, r_X5_choose_28, r_X5_choose_29, r_X5_choose_32, r_X5_choose_34, r_X5_choose_35, ↓reduceIte, Option.isSome_some, Option.getD_some, rL_v, rL_n, cH_s, List.cons_append, List.nil_append, cat_i, cat_r, cat_n, ofN, g5_0 h17, g5_1 h17, g5_2 h17, g5_3 h17, g5_4 h17, g5_5 h17, g5_6 h17, ro5 h17, nI_add, gI_nI h31 (by decide) (show p + 1 < 8 by omega), hR, ro6 hp1, CL, c_min (show 420 < 2147483648 by decide) (show r + mxL (lenP S p) (S 6 p) < 2147483648 by omega), Nat.min_eq_right (show r + mxL (lenP S p) (S 6 p) ≤ 420 by omega)]
      rw [rnE] at I LP ⊢
      rw [I]
      simp only [r_X5_choose_60, r_X5_choose_61, r_X5_choose_87, r_X5_choose_88, r_X5_choose_89, r_X5_choose_92, r_X5_choose_93, r_X5_choose_94, r_X5_choose_95, r_X5_choose_96, r_X5_choose_97, r_X5_choose_100, r_X5_choose_101, r_X5_choose_102, r_X5_choose_104, r_X5_choose_107, r_X5_choose_108, r_X5_choose_111, r_X5_choose_112, r_X5_choose_114, r_X5_choose_115, ↓reduceIte, Option.isSome_some, Option.getD_some, rL_v, rL_n, cH_s, List.cons_append, List.nil_append, cat_i, cat_r, cat_n, ofN, g5_0 (h17' _), g5_1 (h17' _), g5_2 (h17' _), g5_3 (h17' _), g5_4 (h17' _), g5_5 (h17' _), g5_6 (h17' _), ro5 (h17' _), nI_add, gq, gq1, ro6 (hp1' _), LP, pI_nI (h31' _) (by decide) (by decide) (show p < 8 by omega)]
    · rw [rnE] at ht g2
      rw [g2 t (by omega), Nat.zero_add]
      unfold Ao
      rw [if_neg tb]
      congr 1
      apply sm_congr
      intro i hi
      unfold tm
      by_cases a : S 7 (4 * p + i) ≤ t
      · rw [if_pos a]
        by_cases b : t ≤ r + S 7 (4 * p + i)
        · rw [if_pos ⟨a, b, by omega⟩, f2 (t - lenP S p i) (show t - S 7 (4 * p + i) < r + 1 by omega)]
        · rw [if_neg (fun q => b q.2.1), hz _ (by omega), Nat.zero_mul]
      · rw [if_neg a, if_neg (fun q => a q.1)]
/-- what is noted, by the first k SETS -/
def NoR (h : AH) (S : SS) (J : Nat → Nat) : Prop := (∃ f, h.2.2 18 = some (iA 421 f) ∧ ∀ t, t ≤ 420 → f t = nI (ofo S t (J t)).1) ∧ (∃ f, h.2.2 19 = some (iA 421 f) ∧ ∀ t, t ≤ 420 → f t = nI (ofo S t (J t)).2.1) ∧ (∃ f, h.2.2 20 = some (iA 421 f) ∧ ∀ t, t ≤ 420 → f t = fI (ofo S t (J t)).2.2.1) ∧ ∃ f, h.2.2 21 = some (jA 421 f) ∧ ∀ t, t ≤ 420 → f t = lN (ofo S t (J t)).2.2.2
theorem NoR.cg {h : AH} {S : SS} {J J' : Nat → Nat} (hJ : ∀ t, t ≤ 420 → ofo S t (J' t) = ofo S t (J t)) (r : NoR h S J) : NoR h S J' := by
  obtain ⟨⟨f1, a1, b1⟩, ⟨f2, a2, b2⟩, ⟨f3, a3, b3⟩, ⟨f4, a4, b4⟩⟩ := r
  exact ⟨⟨f1, a1, fun t ht => by rw [hJ t ht]; exact b1 t ht⟩, ⟨f2, a2, fun t ht => by rw [hJ t ht]; exact b2 t ht⟩, ⟨f3, a3, fun t ht => by rw [hJ t ht]; exact b3 t ht⟩, ⟨f4, a4, fun t ht => by rw [hJ t ht]; exact b4 t ht⟩⟩
def Jt (k t u : Nat) : Nat := if u < t then k + 1 else k
theorem Jt_own (k t : Nat) : Jt k t t = k := if_neg (by omega)
theorem Jt_s (k t : Nat) : Jt k (t + 1) t = k + 1 := if_pos (by omega)
theorem Jt_ne {k t u : Nat} (h : u ≠ t) : Jt k (t + 1) u = Jt k t u := by
  unfold Jt
  by_cases a : u < t
  · rw [if_pos a, if_pos (by omega)]
  · rw [if_neg a, if_neg (by omega)]
/-- a place is noted -/
theorem NoR.up {h H : AH} {S : SS} {k t : Nat} {f1 f2 f3 : Nat → Int32} {f4 : Nat → Int64} (r : NoR h S (Jt k t)) (h1 : H.2.2 18 = some (iA 421 f1)) (h2 : H.2.2 19 = some (iA 421 f2)) (h3 : H.2.2 20 = some (iA 421 f3)) (h4 : H.2.2 21 = some (jA 421 f4)) (e1 : f1 t = nI (ofo S t (k + 1)).1) (e2 : f2 t = nI (ofo S t (k + 1)).2.1) (e3 : f3 t = fI (ofo S t (k + 1)).2.2.1) (e4 : f4 t = lN (ofo S t (k + 1)).2.2.2)
    (u1 : ∀ u, u ≤ 420 → u ≠ t → f1 u = nI (ofo S u (Jt k t u)).1) (u2 : ∀ u, u ≤ 420 → u ≠ t → f2 u = nI (ofo S u (Jt k t u)).2.1) (u3 : ∀ u, u ≤ 420 → u ≠ t → f3 u = fI (ofo S u (Jt k t u)).2.2.1) (u4 : ∀ u, u ≤ 420 → u ≠ t → f4 u = lN (ofo S u (Jt k t u)).2.2.2) : NoR H S (Jt k (t + 1)) := by
  refine ⟨⟨f1, h1, fun u hu => ?_⟩, ⟨f2, h2, fun u hu => ?_⟩, ⟨f3, h3, fun u hu => ?_⟩, ⟨f4, h4, fun u hu => ?_⟩⟩
  all_goals
    by_cases e : u = t
    · subst e; rw [Jt_s]; assumption
    · rw [Jt_ne e]
      first
      | exact u1 u hu e
      | exact u2 u hu e
      | exact u3 u hu e
      | exact u4 u hu e
set_option maxHeartbeats 2000000 in
theorem c_note {h : AH} {S : SS} {k r : Nat} {fl : Int32} {fr : Nat → Option Nat} {R : Nat → Int32} {g0 : Nat → Int64} (hS : HOk S) (hk : k < 128) (h17 : h.2.2 17 = some (oLo 18 19 20 21 22 31 fl)) (h22 : h.2.2 22 = some (rA 3 8 fr)) (hfr : ∀ q, q < 8 → fr q = some (23 + q)) (h31 : h.2.2 31 = some (iA 8 R)) (hR : R 0 = nI r) (hr : r ≤ 420) (h23 : h.2.2 23 = some (jA 421 g0)) (hg : ∀ t, t ≤ r → g0 t = lN (Wo S k (S 12 0) t)) (hz : ∀ t, r < t → Wo S k (S 12 0) t = 0) (hN : NoR h S (fun _ => k)) :
    ∃ h', Call M_X5_note h [.ref 17, .int (nI k)] = some (h', none) ∧ NoR h' S (fun _ => k + 1) ∧ (∀ a, a < 18 ∨ 21 < a → h'.2.2 a = h.2.2 a) ∧ h'.1 = h.1 ∧ h'.2.1 = h.2.1 := by
  have hC := Ch_lt hS (Nat.le_refl (S 12 0))
  have L : ∀ (m t : Nat) (H : AH) (x3 x4 : Value), t + m = r + 1 → NoR H S (Jt k t) → (∀ a, a < 18 ∨ 21 < a → H.2.2 a = h.2.2 a) → H.1 = h.1 → H.2.1 = h.2.1 →
      ∃ h', Run M_X5_note 2 [.ref 17, .int (nI k), .int (nI t), x3, x4] [] H = some (h', none) ∧ NoR h' S (Jt k (r + 1)) ∧ (∀ a, a < 18 ∨ 21 < a → h'.2.2 a = h.2.2 a) ∧ h'.1 = h.1 ∧ h'.2.1 = h.2.1 := by
    intro m
    induction m with
    | zero =>
      intro t H x3 x4 ht hn hf s1 s2
      have e : t = r + 1 := by omega
      subst e
      have q17 := (hf 17 (by omega)).trans h17
      have q31 := (hf 31 (by omega)).trans h31
      have q : nI r < nI (r + 1) := by rw [nI_lt' (by omega) (by omega)]; omega
      exact ⟨H, by simp only [r_X5_note_2, r_X5_note_3, r_X5_note_4, r_X5_note_7, r_X5_note_8, r_X5_note_9, r_X5_note_102, ↓reduceIte, Option.isSome_some, Option.getD_some, rL_v, rL_n, cH_s, List.cons_append, List.nil_append, cat_i, cat_r, cat_n, ofN, g5_0 q17, g5_1 q17, g5_2 q17, g5_3 q17, g5_4 q17, g5_5 q17, g5_6 q17, ro5 q17, gI_nI q31 (by decide) (show 0 < 8 by decide), hR, q], hn, hf, s1, s2⟩
    | succ m ih =>
      intro t H x3 x4 ht hn hf s1 s2
      have q17 := (hf 17 (by omega)).trans h17
      have q22 := (hf 22 (by omega)).trans h22
      have q23 := (hf 23 (by omega)).trans h23
      have q31 := (hf 31 (by omega)).trans h31
      have qa : ¬ nI r < nI t := by rw [nI_lt' (by omega) (by omega)]; omega
      have qb : ¬ nI 420 < nI t := by rw [nI_lt' (by omega) (by omega)]; omega
      have wl := Wo_le hS k (S 12 0) (Nat.le_refl _) t
      have ol := ofo_w hS t k
      have ob := ofo_b S t k
      obtain ⟨⟨f1, a1, b1⟩, ⟨f2, a2, b2⟩, ⟨f3, a3, b3⟩, ⟨f4, a4, b4⟩⟩ := id hn
      have t4 : t ≤ 420 := by omega
      have v1 := b1 t t4
      have v2 := b2 t t4
      have v3 := b3 t t4
      have v4 := b4 t t4
      rw [Jt_own] at v1 v2 v3 v4
      have ti : t < 421 := by omega
      have lw0 : lN (Wo S k (S 12 0) t) ≤ lN 0 ↔ Wo S k (S 12 0) t ≤ 0 := by rw [lN_le' (by omega) (by decide)]
      have head : ∀ X, Run M_X5_note 34 [.ref 17, .int (nI k), .int (nI t), .long (lN (Wo S k (S 12 0) t)), .null] [] H = X → 0 < Wo S k (S 12 0) t → Run M_X5_note 2 [.ref 17, .int (nI k), .int (nI t), x3, x4] [] H = X := by
        intro X hX hw
        have w : ¬ Wo S k (S 12 0) t ≤ 0 := by omega
        rw [r_X5_note_2]
        simp only [r_X5_note_3, r_X5_note_4, r_X5_note_7, r_X5_note_8, r_X5_note_9, r_X5_note_12, r_X5_note_13, r_X5_note_16, r_X5_note_19, r_X5_note_20, r_X5_note_23, r_X5_note_24, r_X5_note_25, r_X5_note_26, r_X5_note_27, r_X5_note_28, r_X5_note_29, r_X5_note_30, r_X5_note_31, ↓reduceIte, Option.isSome_some, Option.getD_some, rL_v, rL_n, cH_s, List.cons_append, List.nil_append, cat_i, cat_r, cat_n, ofN, g5_0 q17, g5_1 q17, g5_2 q17, g5_3 q17, g5_4 q17, g5_5 q17, g5_6 q17, ro5 q17, gI_nI q31 (by decide) (show 0 < 8 by decide), hR, qa, qb, gR_nI q22 (Or.inl rfl) (by decide) (by decide) (hfr 0 (by decide)) (show 0 < 8 by decide), Nat.add_zero, gJ_nI q23 (by decide) (by decide) ti, hg t (by omega), cmp_le, lw0, w]
        exact hX
      by_cases w : Wo S k (S 12 0) t ≤ 0
      · have e : ofo S t (k + 1) = ofo S t k := by simp only [ofo]; rw [if_neg (by omega)]
        have hn' : NoR H S (Jt k (t + 1)) := hn.up a1 a2 a3 a4 (by rw [v1, e]) (by rw [v2, e]) (by rw [v3, e]) (by rw [v4, e]) (fun u hu _ => b1 u hu) (fun u hu _ => b2 u hu) (fun u hu _ => b3 u hu) (fun u hu _ => b4 u hu)
        obtain ⟨h', p1, p2⟩ := ih (t + 1) H (.long (lN (Wo S k (S 12 0) t))) .null (by omega) hn' hf s1 s2
        refine ⟨h', ?_, p2⟩
        rw [← p1, r_X5_note_2]
        simp only [r_X5_note_3, r_X5_note_4, r_X5_note_7, r_X5_note_8, r_X5_note_9, r_X5_note_12, r_X5_note_13, r_X5_note_16, r_X5_note_19, r_X5_note_20, r_X5_note_23, r_X5_note_24, r_X5_note_25, r_X5_note_26, r_X5_note_27, r_X5_note_28, r_X5_note_29, r_X5_note_30, r_X5_note_31, r_X5_note_96, r_X5_note_99, ↓reduceIte, Option.isSome_some, Option.getD_some, rL_v, rL_n, cH_s, List.cons_append, List.nil_append, cat_i, cat_r, cat_n, ofN, g5_0 q17, g5_1 q17, g5_2 q17, g5_3 q17, g5_4 q17, g5_5 q17, g5_6 q17, ro5 q17, gI_nI q31 (by decide) (show 0 < 8 by decide), hR, qa, qb, gR_nI q22 (Or.inl rfl) (by decide) (by decide) (hfr 0 (by decide)) (show 0 < 8 by decide), Nat.add_zero, gJ_nI q23 (by decide) (by decide) ti, hg t (by omega), cmp_le, lw0, w, nI_add]
      · have wp : 0 < Wo S k (S 12 0) t := by omega
        have E : ofo S t (k + 1) = ((ofo S t k).1 + 1, if (ofo S t k).1 = 0 then k else (ofo S t k).2.1 &&& k, if (ofo S t k).2.2.2 < Wo S k (S 12 0) t then k + 1 else (ofo S t k).2.2.1, if (ofo S t k).2.2.2 < Wo S k (S 12 0) t then Wo S k (S 12 0) t else (ofo S t k).2.2.2) := by
          simp only [ofo]; rw [if_pos wp]
        have cz : (nI (ofo S t k).1 = nI 0) = ((ofo S t k).1 = 0) := nI_inj (by omega) (by decide)
        generalize hv : (if (ofo S t k).1 = 0 then k else (ofo S t k).2.1 &&& k) = v at *
        generalize hH1 : hup H 19 (iA 421 (upd f2 t (nI v))) = H1
        have q17' : H1.2.2 17 = some (oLo 18 19 20 21 22 31 fl) := by rw [← hH1]; exact (hup_ne (by decide)).trans q17
        have A1 : H1.2.2 18 = some (iA 421 f1) := by rw [← hH1]; exact (hup_ne (by decide)).trans a1
        have A2 : H1.2.2 19 = some (iA 421 (upd f2 t (nI v))) := by rw [← hH1]; exact hup_get
        have A3 : H1.2.2 20 = some (iA 421 f3) := by rw [← hH1]; exact (hup_ne (by decide)).trans a3
        have A4 : H1.2.2 21 = some (jA 421 f4) := by rw [← hH1]; exact (hup_ne (by decide)).trans a4
        have T1 : Run M_X5_note 34 [.ref 17, .int (nI k), .int (nI t), .long (lN (Wo S k (S 12 0) t)), .null] [] H = Run M_X5_note 61 [.ref 17, .int (nI k), .int (nI t), .long (lN (Wo S k (S 12 0) t)), .null] [] H1 := by
          by_cases z : (ofo S t k).1 = 0
          · rw [if_pos z] at hv
            have hH1' : hup H 19 (iA 421 (upd f2 t (nI k))) = H1 := by rw [← hH1, ← hv]
            simp only [r_X5_note_34, r_X5_note_35, r_X5_note_38, r_X5_note_39, r_X5_note_40, r_X5_note_43, r_X5_note_44, r_X5_note_45, r_X5_note_48, r_X5_note_49, r_X5_note_60, ↓reduceIte, Option.isSome_some, Option.getD_some, rL_v, rL_n, cH_s, List.cons_append, List.nil_append, cat_i, cat_r, cat_n, ofN, g5_0 q17, g5_1 q17, g5_2 q17, g5_3 q17, g5_4 q17, g5_5 q17, g5_6 q17, ro5 q17, gI_nI a1 (by decide) ti, v1, cz, z, pI_nI a2 (by decide) (by decide) ti, hH1']
          · rw [if_neg z] at hv
            simp only [r_X5_note_34, r_X5_note_35, r_X5_note_38, r_X5_note_39, r_X5_note_40, r_X5_note_43, r_X5_note_44, r_X5_note_45, r_X5_note_52, r_X5_note_53, r_X5_note_56, r_X5_note_57, r_X5_note_58, r_X5_note_59, r_X5_note_60, ↓reduceIte, Option.isSome_some, Option.getD_some, rL_v, rL_n, cH_s, List.cons_append, List.nil_append, cat_i, cat_r, cat_n, ofN, g5_0 q17, g5_1 q17, g5_2 q17, g5_3 q17, g5_4 q17, g5_5 q17, g5_6 q17, ro5 q17, gI_nI a1 (by decide) ti, v1, cz, z, gI_nI a2 (by decide) ti, v2, nI_and, pI_nI a2 (by decide) (by decide) ti, hv, hH1]
        generalize hH2 : hup H1 18 (iA 421 (upd f1 t (nI ((ofo S t k).1 + 1)))) = H2
        have q17'' : H2.2.2 17 = some (oLo 18 19 20 21 22 31 fl) := by rw [← hH2]; exact (hup_ne (by decide)).trans q17'
        have B1 : H2.2.2 18 = some (iA 421 (upd f1 t (nI ((ofo S t k).1 + 1)))) := by rw [← hH2]; exact hup_get
        have B2 : H2.2.2 19 = some (iA 421 (upd f2 t (nI v))) := by rw [← hH2]; exact (hup_ne (by decide)).trans A2
        have B3 : H2.2.2 20 = some (iA 421 f3) := by rw [← hH2]; exact (hup_ne (by decide)).trans A3
        have B4 : H2.2.2 21 = some (jA 421 f4) := by rw [← hH2]; exact (hup_ne (by decide)).trans A4
        have T2 : Run M_X5_note 61 [.ref 17, .int (nI k), .int (nI t), .long (lN (Wo S k (S 12 0) t)), .null] [] H1 = Run M_X5_note 71 [.ref 17, .int (nI k), .int (nI t), .long (lN (Wo S k (S 12 0) t)), .null] [] H2 := by
          simp only [r_X5_note_61, r_X5_note_62, r_X5_note_65, r_X5_note_66, r_X5_note_67, r_X5_note_68, r_X5_note_69, r_X5_note_70, ↓reduceIte, Option.isSome_some, Option.getD_some, rL_v, rL_n, cH_s, List.cons_append, List.nil_append, cat_i, cat_r, cat_n, ofN, g5_0 q17', g5_1 q17', g5_2 q17', g5_3 q17', g5_4 q17', g5_5 q17', g5_6 q17', ro5 q17', gI_nI A1 (by decide) ti, v1, nI_add, pI_nI A1 (by decide) (by decide) ti, hH2]
        have fr2 : ∀ a, a < 18 ∨ 21 < a → H2.2.2 a = h.2.2 a := fun a ha => by
          rw [← hH2, hup_ne (by omega), ← hH1, hup_ne (by omega)]; exact hf a ha
        have z1 : H2.1 = h.1 := by rw [← hH2, ← hH1]; exact s1
        have z2 : H2.2.1 = h.2.1 := by rw [← hH2, ← hH1]; exact s2
        have cg : lN (Wo S k (S 12 0) t) ≤ lN (ofo S t k).2.2.2 ↔ Wo S k (S 12 0) t ≤ (ofo S t k).2.2.2 := by rw [lN_le' (by omega) (by omega)]
        by_cases g : (ofo S t k).2.2.2 < Wo S k (S 12 0) t
        · rw [if_pos g, if_pos g] at E
          have gn : ¬ Wo S k (S 12 0) t ≤ (ofo S t k).2.2.2 := by omega
          have B3' : (hup H2 21 (jA 421 (vp_updL f4 t (lN (Wo S k (S 12 0) t))))).2.2 20 = _ := (hup_ne (by decide)).trans B3
          have q17a : (hup H2 21 (jA 421 (vp_updL f4 t (lN (Wo S k (S 12 0) t))))).2.2 17 = _ := (hup_ne (by decide)).trans q17''
          have T3 : Run M_X5_note 71 [.ref 17, .int (nI k), .int (nI t), .long (lN (Wo S k (S 12 0) t)), .null] [] H2 = Run M_X5_note 2 [.ref 17, .int (nI k), .int (nI (t + 1)), .long (lN (Wo S k (S 12 0) t)), .null] [] (hup (hup H2 21 (jA 421 (vp_updL f4 t (lN (Wo S k (S 12 0) t))))) 20 (iA 421 (upd f3 t (nI k)))) := by
            simp only [r_X5_note_71, r_X5_note_72, r_X5_note_73, r_X5_note_76, r_X5_note_77, r_X5_note_78, r_X5_note_79, r_X5_note_82, r_X5_note_83, r_X5_note_86, r_X5_note_87, r_X5_note_88, r_X5_note_89, r_X5_note_90, r_X5_note_93, r_X5_note_94, r_X5_note_95, r_X5_note_96, r_X5_note_99, ↓reduceIte, Option.isSome_some, Option.getD_some, rL_v, rL_n, cH_s, List.cons_append, List.nil_append, cat_i, cat_r, cat_n, ofN, g5_0 q17'', g5_1 q17'', g5_2 q17'', g5_3 q17'', g5_4 q17'', g5_5 q17'', g5_6 q17'', ro5 q17'', gJ_nI B4 (by decide) (by decide) ti, v4, cmp_le, cg, gn, pJ_nI B4 (by decide) (by decide) ti, g5_0 q17a, g5_1 q17a, g5_2 q17a, g5_3 q17a, g5_4 q17a, g5_5 q17a, g5_6 q17a, ro5 q17a, pI_nI B3' (by decide) (by decide) ti, nI_add]
          have hn' : NoR (hup (hup H2 21 (jA 421 (vp_updL f4 t (lN (Wo S k (S 12 0) t))))) 20 (iA 421 (upd f3 t (nI k)))) S (Jt k (t + 1)) := hn.up ((hup_ne (by decide)).trans ((hup_ne (by decide)).trans B1)) ((hup_ne (by decide)).trans ((hup_ne (by decide)).trans B2)) hup_get ((hup_ne (by decide)).trans hup_get) (by rw [pk_us, E]) (by rw [pk_us, E]) (by rw [pk_us, E, fI_s]) (by rw [pk_uLs, E]) (fun u hu e => by rw [pk_un e]; exact b1 u hu) (fun u hu e => by rw [pk_un e]; exact b2 u hu) (fun u hu e => by rw [pk_un e]; exact b3 u hu) (fun u hu e => by rw [pk_uLn e]; exact b4 u hu)
          obtain ⟨h', p1, p2⟩ := ih (t + 1) _ (.long (lN (Wo S k (S 12 0) t))) .null (by omega) hn' (fun a ha => by rw [hup_ne (by omega), hup_ne (by omega)]; exact fr2 a ha) z1 z2
          exact ⟨h', head _ (T1.trans (T2.trans (T3.trans p1))) wp, p2⟩
        · rw [if_neg g, if_neg g] at E
          have gn : Wo S k (S 12 0) t ≤ (ofo S t k).2.2.2 := by omega
          have T3 : Run M_X5_note 71 [.ref 17, .int (nI k), .int (nI t), .long (lN (Wo S k (S 12 0) t)), .null] [] H2 = Run M_X5_note 2 [.ref 17, .int (nI k), .int (nI (t + 1)), .long (lN (Wo S k (S 12 0) t)), .null] [] H2 := by
            simp only [r_X5_note_71, r_X5_note_72, r_X5_note_73, r_X5_note_76, r_X5_note_77, r_X5_note_78, r_X5_note_79, r_X5_note_96, r_X5_note_99, ↓reduceIte, Option.isSome_some, Option.getD_some, rL_v, rL_n, cH_s, List.cons_append, List.nil_append, cat_i, cat_r, cat_n, ofN, g5_0 q17'', g5_1 q17'', g5_2 q17'', g5_3 q17'', g5_4 q17'', g5_5 q17'', g5_6 q17'', ro5 q17'', gJ_nI B4 (by decide) (by decide) ti, v4, cmp_le, cg, gn, nI_add]
          have hn' : NoR H2 S (Jt k (t + 1)) := hn.up B1 B2 B3 B4 (by rw [pk_us, E]) (by rw [pk_us, E]) (by rw [v3, E]) (by rw [v4, E]) (fun u hu e => by rw [pk_un e]; exact b1 u hu) (fun u hu e => by rw [pk_un e]; exact b2 u hu) (fun u hu e => b3 u hu) (fun u hu e => b4 u hu)
          obtain ⟨h', p1, p2⟩ := ih (t + 1) _ (.long (lN (Wo S k (S 12 0) t))) .null (by omega) hn' fr2 z1 z2
          exact ⟨h', head _ (T1.trans (T2.trans (T3.trans p1))) wp, p2⟩
  obtain ⟨h', p1, p2, p3⟩ := L (r + 1) 0 h .null .null (by omega) (hN.cg (fun t _ => by rw [show Jt k 0 t = k from if_neg (by omega)])) (fun _ _ => rfl) rfl rfl
  refine ⟨h', ?_, p2.cg (fun t _ => ?_), p3⟩
  · show Run M_X5_note 0 [.ref 17, .int (nI k), .null, .null, .null] [] h = _
    simp only [r_X5_note_0, r_X5_note_1, ↓reduceIte, Option.isSome_some, Option.getD_some, rL_v, rL_n, cH_s, List.cons_append, List.nil_append, cat_i, cat_r, cat_n, ofN]
    exact p1
  · unfold Jt
    by_cases a : t < r + 1
    · rw [if_pos a]
    · rw [if_neg a]
      simp only [ofo]
      rw [hz t (by omega), if_neg (by omega)]
