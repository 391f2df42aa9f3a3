/-! ===== starts, isIt ===== -/
theorem WS.tr {h H K : AH} (a : WS h H) (b : WS H K) : WS h K := ⟨fun x h1 h2 => (b.1 x h1 h2).trans (a.1 x h1 h2), b.2.1.trans a.2.1, b.2.2.trans a.2.2⟩
theorem WS.rf {h : AH} : WS h h := ⟨fun _ _ _ => rfl, rfl, rfl⟩
theorem Wt_le {S : SS} (hS : HOk S) {p t : Nat} (hp : p ≤ S 12 0) (ht : t ≤ 420) : Wt S p t ≤ Ch S p := by
  have h1 := Wt_sum hS p hp
  have h2 : sm (Wt S p) (t + 1) = sm (Wt S p) t + Wt S p t := rfl
  have h3 : sm (Wt S p) (t + 1) ≤ sm (Wt S p) 421 := sm_le (by omega)
  omega
theorem op_starts {S : SS} (hI : Inv S) (u x y : Int32) : OpV M_X8_starts M_X9_starts [.int u, .int x, .int y] S := by
  have hS := hI.1
  have hn := hS.1
  by_cases hu : nI 0 ≤ u ∧ u ≤ nI (S 12 0) - nI 1
  · by_cases hx : nI 0 ≤ x ∧ x ≤ nI 420
    · by_cases hy : nI 0 ≤ y ∧ y ≤ nI 1
      · obtain ⟨p, hp, rfl⟩ := rngP (by omega) hu
        obtain ⟨t, ht, rfl⟩ := rng (by decide) hx
        obtain ⟨q, hq, rfl⟩ := rng (by decide) hy
        obtain ⟨k1, k2, k3, k4, k5, k6⟩ := hS.2 p hp
        have hy2 := low01 hq
        have p1 := Ch_pos hS p (by omega)
        have p2 := Ch_lt hS (p := p) (by omega)
        have p3 := Wt_le hS (p := p) (by omega) ht
        have p4 : Wt S p t * (8 - S 4 p) ≤ 34359738368 * 8 := Nat.mul_le_mul (by omega) (by omega)
        have e1 : (nI (8 - S 4 p)).toInt64 = lN (8 - S 4 p) := nI_l (by omega)
        refine ⟨.long (lN (low (Wt S p t * (8 - S 4 p)) (Ch S p * 8) q)), S, hI, fun h ⟨o, hr⟩ => ⟨h, ?_, ⟨o, hr⟩, frC.rf⟩, fun h hr => ?_⟩
        · obtain ⟨h0, h1, -, ⟨hH, ⟨fr, hr1, hr2⟩, -, -, -, -, hP⟩, -, hE, -⟩ := hr
          obtain ⟨hp1, gl, hl, hgl⟩ := hP p hp
          have hE1 := hE.1
          show Run M_X8_starts 0 [.ref 1, .int (nI p), .int (nI t), .int (nI q), .null, .null] [] h = _
          simp only [r_X8_starts_0, r_X8_starts_1, r_X8_starts_4, r_X8_starts_5, r_X8_starts_8, r_X8_starts_11, r_X8_starts_14, r_X8_starts_15, r_X8_starts_16, r_X8_starts_19, r_X8_starts_22, r_X8_starts_23, r_X8_starts_26, r_X8_starts_29, r_X8_starts_32, r_X8_starts_33, r_X8_starts_34, r_X8_starts_37, r_X8_starts_38, r_X8_starts_39, r_X8_starts_42, r_X8_starts_43, r_X8_starts_46, r_X8_starts_49, r_X8_starts_50, r_X8_starts_51, r_X8_starts_54, r_X8_starts_55, r_X8_starts_56, r_X8_starts_58, r_X8_starts_60, r_X8_starts_61, r_X8_starts_64, r_X8_starts_65, r_X8_starts_68, r_X8_starts_71, r_X8_starts_72, r_X8_starts_73, r_X8_starts_76, ↓reduceIte, Option.isSome_some, Option.getD_some, rL_v, rL_n, cH_s, List.cons_append, List.nil_append, cat_i, cat_r, cat_n, ofN, g8_0 h1, g8_1 h1, g8_2 h1, g8_3 h1, g8_4 h1, g8_5 h1, g8_6 h1, g8_7 h1, g8_8 h1, ro8 h1, g4_0 hH, g4_1 hH, g4_2 hH, g4_3 hH, g4_4 hH, g4_5 hH, g4_6 hH, ro4 hH, ro2 hE1, ro6 hp1, c_hasPart hH, c_isTenth, c_isSide, ite_bI, hu, hx, and_self, hy2, c_beginning hE hS (show p ≤ S 12 0 by omega) ht, gR_nI hr1 (Or.inr (Or.inl rfl)) (by decide) (by omega) (hr2 p (by omega)) (show p < 7 by omega), c_playedOf8 hp1 (show S 4 p ≤ 8 by omega), e1, lN_mul, c_allAhead hE hS (show p ≤ S 12 0 by omega), c_inLowest (h := h) (a := Wt S p t * (8 - S 4 p)) (b := Ch S p * 8) (show _ < _ by omega) (by omega) (by omega) (show q < 2 by omega)]
        · obtain ⟨h', cf, hw, hWA, hb⟩ := c_findWeights hS hr (show p ≤ S 12 0 by omega)
          have hr' := hr.ws hw hWA.ex hb
          obtain ⟨⟨_, _, _, _, _, _, _, _, _, _, _, hm⟩, -⟩ := id hr
          obtain ⟨⟨_, _, _, _, _, _, _, _, _, _, _, hm'⟩, hA', -⟩ := id hr'
          obtain ⟨gw, w1, w2⟩ := hWA
          have cw := c_whole hS hr' (Nat.zero_le p) (show p ≤ S 12 0 by omega)
          rw [Nat.sub_zero, Wh_Ch] at cw
          refine ⟨h', ?_, hr', hw.frM⟩
          show Run M_X9_starts 0 [.ref 88, .int (nI p), .int (nI t), .int (nI q)] [] h = _
          simp only [r_X9_starts_0, r_X9_starts_1, r_X9_starts_2, r_X9_starts_5, r_X9_starts_8, r_X9_starts_11, r_X9_starts_12, r_X9_starts_13, r_X9_starts_16, r_X9_starts_19, r_X9_starts_20, r_X9_starts_21, r_X9_starts_22, r_X9_starts_25, r_X9_starts_28, r_X9_starts_31, r_X9_starts_32, r_X9_starts_33, r_X9_starts_34, r_X9_starts_37, r_X9_starts_38, r_X9_starts_41, r_X9_starts_42, r_X9_starts_43, r_X9_starts_45, r_X9_starts_46, r_X9_starts_49, r_X9_starts_50, r_X9_starts_51, r_X9_starts_52, r_X9_starts_53, r_X9_starts_54, r_X9_starts_55, r_X9_starts_56, r_X9_starts_57, r_X9_starts_60, r_X9_starts_63, r_X9_starts_64, r_X9_starts_65, r_X9_starts_68, ↓reduceIte, Option.isSome_some, Option.getD_some, rL_v, rL_n, cH_s, List.cons_append, List.nil_append, cat_i, cat_r, cat_n, ofN, g9_0 hm, g9_1 hm, g9_2 hm, g9_3 hm, g9_4 hm, g9_5 hm, g9_6 hm, g9_7 hm, g9_8 hm, g9_9 hm, g9_10 hm, g9_11 hm, g9_12 hm, g9_13 hm, g9_14 hm, g9_15 hm, g9_16 hm, g9_17 hm, g9_18 hm, g9_19 hm, g9_20 hm, g9_21 hm, g9_22 hm, g9_23 hm, g9_24 hm, g9_25 hm, g9_26 hm, g9_27 hm, g9_28 hm, g9_29 hm, g9_30 hm, g9_31 hm, g9_32 hm, g9_33 hm, g9_34 hm, g9_35 hm, g9_36 hm, g9_37 hm, g9_38 hm, g9_39 hm, ro9 hm, g9_0 hm', g9_1 hm', g9_2 hm', g9_3 hm', g9_4 hm', g9_5 hm', g9_6 hm', g9_7 hm', g9_8 hm', g9_9 hm', g9_10 hm', g9_11 hm', g9_12 hm', g9_13 hm', g9_14 hm', g9_15 hm', g9_16 hm', g9_17 hm', g9_18 hm', g9_19 hm', g9_20 hm', g9_21 hm', g9_22 hm', g9_23 hm', g9_24 hm', g9_25 hm', g9_26 hm', g9_27 hm', g9_28 hm', g9_29 hm', g9_30 hm', g9_31 hm', g9_32 hm', g9_33 hm', g9_34 hm', g9_35 hm', g9_36 hm', g9_37 hm', g9_38 hm', g9_39 hm', ro9 hm', c_isPart hm, c_mTenth, c_in, ite_bI, hu, hx, hy, and_self, cf, gJ_nI w1 (by decide) (by decide) (show t < 421 by omega), w2 t (by omega), gI_nI (hA' 93 _ rfl) (by decide) (show p < 7 by omega), nI_s (show S 4 p ≤ 8 by omega), e1, lN_mul, cw, c_share (h := h') (a := Wt S p t * (8 - S 4 p)) (b := Ch S p * 8) (show _ < _ by omega) (by omega) (by omega) (show q < 2 by omega)]
      · have hy2 : ¬ (y = nI 0 ∨ y = nI 1) := fun e => hy (in01.mpr e)
        refine OpV.read (r := .long (-1000000002)) hI (fun h hr => ?_) (fun h hr => ?_)
        · obtain ⟨o, h0, h1, -, ⟨hH, -⟩, -⟩ := hr
          show Run M_X8_starts 0 [.ref 1, .int u, .int x, .int y, .null, .null] [] h = _
          simp only [r_X8_starts_0, r_X8_starts_1, r_X8_starts_4, r_X8_starts_5, r_X8_starts_8, r_X8_starts_11, r_X8_starts_14, r_X8_starts_15, r_X8_starts_16, r_X8_starts_19, r_X8_starts_22, r_X8_starts_23, r_X8_starts_26, r_X8_starts_29, r_X8_starts_32, ↓reduceIte, Option.isSome_some, Option.getD_some, rL_v, rL_n, cH_s, List.cons_append, List.nil_append, cat_i, cat_r, cat_n, ofN, g8_0 h1, g8_1 h1, g8_2 h1, g8_3 h1, g8_4 h1, g8_5 h1, g8_6 h1, g8_7 h1, g8_8 h1, ro8 h1, ro4 hH, c_hasPart hH, c_isTenth, c_isSide, ite_bI, hu, hx, and_self, hy2]
        · obtain ⟨⟨_, _, _, _, _, _, _, _, _, _, _, hm⟩, hA, -⟩ := hr
          show Run M_X9_starts 0 [.ref 88, .int u, .int x, .int y] [] h = _
          simp only [r_X9_starts_0, r_X9_starts_1, r_X9_starts_2, r_X9_starts_5, r_X9_starts_8, r_X9_starts_11, r_X9_starts_12, r_X9_starts_13, r_X9_starts_16, r_X9_starts_19, r_X9_starts_20, r_X9_starts_21, r_X9_starts_22, r_X9_starts_25, r_X9_starts_28, r_X9_starts_31, ↓reduceIte, Option.isSome_some, Option.getD_some, rL_v, rL_n, cH_s, List.cons_append, List.nil_append, cat_i, cat_r, cat_n, ofN, ro9 hm, c_isPart hm, c_mTenth, c_in, ite_bI, hu, hx, hy, and_self]
    · refine OpV.read (r := .long (-1000000002)) hI (fun h hr => ?_) (fun h hr => ?_)
      · obtain ⟨o, h0, h1, -, ⟨hH, -⟩, -⟩ := hr
        show Run M_X8_starts 0 [.ref 1, .int u, .int x, .int y, .null, .null] [] h = _
        simp only [r_X8_starts_0, r_X8_starts_1, r_X8_starts_4, r_X8_starts_5, r_X8_starts_8, r_X8_starts_11, r_X8_starts_14, r_X8_starts_15, r_X8_starts_16, r_X8_starts_19, r_X8_starts_22, r_X8_starts_23, r_X8_starts_26, r_X8_starts_29, r_X8_starts_32, ↓reduceIte, Option.isSome_some, Option.getD_some, rL_v, rL_n, cH_s, List.cons_append, List.nil_append, cat_i, cat_r, cat_n, ofN, g8_0 h1, g8_1 h1, g8_2 h1, g8_3 h1, g8_4 h1, g8_5 h1, g8_6 h1, g8_7 h1, g8_8 h1, ro8 h1, ro4 hH, c_hasPart hH, c_isTenth, c_isSide, ite_bI, hu, hx, and_self]
      · obtain ⟨⟨_, _, _, _, _, _, _, _, _, _, _, hm⟩, hA, -⟩ := hr
        show Run M_X9_starts 0 [.ref 88, .int u, .int x, .int y] [] h = _
        simp only [r_X9_starts_0, r_X9_starts_1, r_X9_starts_2, r_X9_starts_5, r_X9_starts_8, r_X9_starts_11, r_X9_starts_12, r_X9_starts_13, r_X9_starts_16, r_X9_starts_19, r_X9_starts_20, r_X9_starts_21, r_X9_starts_22, r_X9_starts_25, r_X9_starts_28, r_X9_starts_31, ↓reduceIte, Option.isSome_some, Option.getD_some, rL_v, rL_n, cH_s, List.cons_append, List.nil_append, cat_i, cat_r, cat_n, ofN, ro9 hm, c_isPart hm, c_mTenth, c_in, ite_bI, hu, hx, and_self]
  · refine OpV.read (r := .long (-1000000001)) hI (fun h hr => ?_) (fun h hr => ?_)
    · obtain ⟨o, h0, h1, -, ⟨hH, -⟩, -⟩ := hr
      show Run M_X8_starts 0 [.ref 1, .int u, .int x, .int y, .null, .null] [] h = _
      simp only [r_X8_starts_0, r_X8_starts_1, r_X8_starts_4, r_X8_starts_5, r_X8_starts_8, r_X8_starts_11, r_X8_starts_14, ↓reduceIte, Option.isSome_some, Option.getD_some, rL_v, rL_n, cH_s, List.cons_append, List.nil_append, cat_i, cat_r, cat_n, ofN, g8_0 h1, g8_1 h1, g8_2 h1, g8_3 h1, g8_4 h1, g8_5 h1, g8_6 h1, g8_7 h1, g8_8 h1, ro8 h1, ro4 hH, c_hasPart hH, ite_bI, hu]
    · obtain ⟨⟨_, _, _, _, _, _, _, _, _, _, _, hm⟩, hA, -⟩ := hr
      show Run M_X9_starts 0 [.ref 88, .int u, .int x, .int y] [] h = _
      simp only [r_X9_starts_0, r_X9_starts_1, r_X9_starts_2, r_X9_starts_5, r_X9_starts_8, r_X9_starts_11, ↓reduceIte, Option.isSome_some, Option.getD_some, rL_v, rL_n, cH_s, List.cons_append, List.nil_append, cat_i, cat_r, cat_n, ofN, ro9 hm, c_isPart hm, ite_bI, hu]
/-! isIt -/
def tmI (S : SS) (t x p : Nat) : Nat := Wt S p t * (8 - S 4 p) * moreL (lenP S p) x (S 6 p) * Wh S (p + 1) (S 12 0 - (p + 1))
abbrev gS (S : SS) (t x so : Nat) (k : Nat) : Nat := sm (fun p => if S 3 p = so then tmI S t x p else 0) k
def sh (S : SS) (so sw : Nat) : Nat := if sw = 2 then 8 else if sw = 1 then S 0 (6 - so) else 8 - S 0 (6 - so)
theorem moreL_le (f : Nat → Nat) (x : Nat) : ∀ c, moreL f x c ≤ c
  | 0 => Nat.le_refl _
  | c + 1 => by
    have := moreL_le f x c
    show moreL f x c + (if x < f c then 1 else 0) ≤ c + 1
    split <;> omega
theorem tmI_le {S : SS} (hS : HOk S) {t x p : Nat} (hp : p < S 12 0) (ht : t ≤ 420) : tmI S t x p ≤ 34359738368 := by
  have h1 := Wt_le hS (p := p) (by omega) ht
  have h2 := moreL_le (lenP S p) x (S 6 p)
  have h3 := Ch_Wh S (p + 1) (S 12 0 - (p + 1))
  rw [show p + 1 + (S 12 0 - (p + 1)) = S 12 0 by omega] at h3
  have h4 := Ch_lt hS (p := S 12 0) (Nat.le_refl _)
  have h5 : Wt S p t * (8 - S 4 p) * moreL (lenP S p) x (S 6 p) ≤ Ch S p * 8 * S 6 p := Nat.mul_le_mul (Nat.mul_le_mul h1 (by omega)) h2
  have h6 : Ch S (p + 1) = Ch S p * 8 * S 6 p := by
    show Ch S p * (8 * S 6 p) = _
    rw [Nat.mul_assoc]
  have h7 : tmI S t x p ≤ Ch S p * 8 * S 6 p * Wh S (p + 1) (S 12 0 - (p + 1)) := Nat.mul_le_mul_right _ h5
  rw [← h6, ← h3] at h7
  exact Nat.le_trans h7 h4
theorem gS_le {S : SS} {t x so B : Nat} (hB : ∀ p, p < S 12 0 → tmI S t x p ≤ B) : ∀ k, k ≤ S 12 0 → gS S t x so k ≤ k * B
  | 0, _ => Nat.zero_le _
  | k + 1, hk => by
    have h1 := gS_le (so := so) hB k (by omega)
    have h2 := hB k (by omega)
    show gS S t x so k + (if S 3 k = so then tmI S t x k else 0) ≤ _
    rw [Nat.succ_mul]
    refine Nat.add_le_add h1 ?_
    split
    · exact h2
    · exact Nat.zero_le _
theorem c_showing {h : AH} {a st le : Nat} {S : SS} {f0 f1 f2 f7 f8 f9 f10 : Int32} (ha : h.2.2 a = some (oAg f0 f1 f2 (nI (S 0 3)) (nI (S 0 4)) st le f7 f8 f9 f10)) (hA : S 0 3 ≤ 8) (hB : S 0 4 ≤ 8) {so sw : Nat} (hs : so = 2 ∨ so = 3) (hw : sw ≤ 2) : Call M_X0_showing h [.ref a, .int (nI so), .int (nI sw)] = some (h, some (.int (nI (sh S so sw)))) := by
  show Run M_X0_showing 0 [.ref a, .int (nI so), .int (nI sw), .null] [] h = _
  unfold sh
  have e1 : ¬ nI 0 = nI 2 := by decide
  have e2 : ¬ nI 1 = nI 2 := by decide
  have e3 : ¬ nI 2 = nI 3 := by decide
  have e4 : ¬ nI 0 = nI 1 := by decide
  have n1 : ¬ (0 : Nat) = 2 := by decide
  have n2 : ¬ (1 : Nat) = 2 := by decide
  have n3 : ¬ (0 : Nat) = 1 := by decide
  have n4 : 6 - 2 = 4 := rfl
  have n5 : 6 - 3 = 3 := rfl
  rcases hs with rfl | rfl <;> rcases (show sw = 0 ∨ sw = 1 ∨ sw = 2 by omega) with rfl | rfl | rfl <;> simp only [r_X0_showing_0, r_X0_showing_1, r_X0_showing_2, r_X0_showing_5, r_X0_showing_7, r_X0_showing_8, r_X0_showing_9, r_X0_showing_10, r_X0_showing_13, r_X0_showing_14, r_X0_showing_17, r_X0_showing_20, r_X0_showing_21, r_X0_showing_24, r_X0_showing_25, r_X0_showing_26, r_X0_showing_27, r_X0_showing_30, r_X0_showing_31, r_X0_showing_34, r_X0_showing_36, r_X0_showing_37, r_X0_showing_38, ↓reduceIte, Option.isSome_some, Option.getD_some, rL_v, rL_n, cH_s, List.cons_append, List.nil_append, cat_i, cat_r, cat_n, ofN, g0_0 ha, g0_1 ha, g0_2 ha, g0_3 ha, g0_4 ha, g0_5 ha, g0_6 ha, g0_7 ha, g0_8 ha, g0_9 ha, g0_10 ha, ro0 ha, e1, e2, e3, e4, n1, n2, n3, n4, n5, nI_s hA, nI_s hB]
theorem c_goingOn {h : AH} {S : SS} {o : Nat} (hI : Inv S) (hr : RepCo h S o) {so t x : Nat} (hs : so = 2 ∨ so = 3) (ht : t ≤ 420) (hx : x ≤ 60) : Call M_X8_goingOn h [.ref 1, .int (nI so), .int (nI t), .int (nI x)] = some (h, some (.long (lN (gS S t x so (S 12 0))))) := by
  have hS := hI.1
  have hn := hS.1
  obtain ⟨h0, h1, -, ⟨hH, ⟨fr, hr1, hr2⟩, -, -, -, -, hP⟩, -, hE, -⟩ := hr
  have hE1 := hE.1
  have L : ∀ k i X Y Z, i + k = S 12 0 → Run M_X8_goingOn 6 [.ref 1, .int (nI so), .int (nI t), .int (nI x), .long (lN (gS S t x so i)), .null, .int (nI i), X, Y, Z] [] h = some (h, some (.long (lN (gS S t x so (S 12 0))))) := by
    intro k
    induction k with
    | zero =>
      intro i X Y Z hi
      have e : i = S 12 0 := by omega
      subst e
      simp only [r_X8_goingOn_0, r_X8_goingOn_1, r_X8_goingOn_3, r_X8_goingOn_4, r_X8_goingOn_6, r_X8_goingOn_8, r_X8_goingOn_9, r_X8_goingOn_12, r_X8_goingOn_15, r_X8_goingOn_18, r_X8_goingOn_19, r_X8_goingOn_22, r_X8_goingOn_25, r_X8_goingOn_27, r_X8_goingOn_28, r_X8_goingOn_30, r_X8_goingOn_32, r_X8_goingOn_35, r_X8_goingOn_36, r_X8_goingOn_39, r_X8_goingOn_40, r_X8_goingOn_43, r_X8_goingOn_45, r_X8_goingOn_46, r_X8_goingOn_49, r_X8_goingOn_51, r_X8_goingOn_54, r_X8_goingOn_55, r_X8_goingOn_56, r_X8_goingOn_58, r_X8_goingOn_60, r_X8_goingOn_62, r_X8_goingOn_64, r_X8_goingOn_65, r_X8_goingOn_68, r_X8_goingOn_69, r_X8_goingOn_70, r_X8_goingOn_71, r_X8_goingOn_74, r_X8_goingOn_76, r_X8_goingOn_79, r_X8_goingOn_80, r_X8_goingOn_81, r_X8_goingOn_83, r_X8_goingOn_86, r_X8_goingOn_89, r_X8_goingOn_91, ↓reduceIte, Option.isSome_some, Option.getD_some, rL_v, rL_n, cH_s, List.cons_append, List.nil_append, cat_i, cat_r, cat_n, ofN, g8_0 h1, g8_1 h1, g8_2 h1, g8_3 h1, g8_4 h1, g8_5 h1, g8_6 h1, g8_7 h1, g8_8 h1, ro8 h1, g4_0 hH, g4_1 hH, g4_2 hH, g4_3 hH, g4_4 hH, g4_5 hH, g4_6 hH, ro4 hH, Int32.le_refl]
    | succ k ih =>
      intro i X Y Z hi
      have hi2 : i < S 12 0 := by omega
      obtain ⟨k1, k2, k3, k4, k5, k6⟩ := hS.2 i hi2
      obtain ⟨hp1, gl, hl, hgl⟩ := hP i hi2
      have q : ¬ nI (S 12 0) ≤ nI i := by rw [nI_le' (by omega) (by omega)]; omega
      have I := fun X Y Z => ih (i + 1) X Y Z (by omega)
      rw [show gS S t x so (i + 1) = gS S t x so i + (if S 3 i = so then tmI S t x i else 0) from rfl] at I
      rw [r_X8_goingOn_6]
      by_cases h2 : S 3 i = so
      · rw [if_pos h2] at I
        have e1 : (nI (8 - S 4 i)).toInt64 = lN (8 - S 4 i) := nI_l (by omega)
        have hm := moreL_le (lenP S i) x (S 6 i)
        have e2 : (nI (moreL (lenP S i) x (S 6 i))).toInt64 = lN (moreL (lenP S i) x (S 6 i)) := nI_l (by omega)
        have cb := c_allBehind hE hS (p := i) hi2
        have h3 := Ch_Wh S (i + 1) (S 12 0 - (i + 1))
        rw [show i + 1 + (S 12 0 - (i + 1)) = S 12 0 by omega] at h3
        rw [En_all hS, h3, Nat.mul_div_cancel_left _ (Ch_pos hS (i + 1) (by omega))] at cb
        simp only [r_X8_goingOn_8, r_X8_goingOn_9, r_X8_goingOn_12, r_X8_goingOn_15, r_X8_goingOn_18, r_X8_goingOn_19, r_X8_goingOn_22, r_X8_goingOn_25, r_X8_goingOn_27, r_X8_goingOn_28, r_X8_goingOn_30, r_X8_goingOn_32, r_X8_goingOn_35, r_X8_goingOn_36, r_X8_goingOn_39, r_X8_goingOn_40, r_X8_goingOn_43, r_X8_goingOn_45, r_X8_goingOn_46, r_X8_goingOn_49, r_X8_goingOn_51, r_X8_goingOn_54, r_X8_goingOn_55, r_X8_goingOn_56, r_X8_goingOn_58, r_X8_goingOn_60, r_X8_goingOn_62, r_X8_goingOn_64, r_X8_goingOn_65, r_X8_goingOn_68, r_X8_goingOn_69, r_X8_goingOn_70, r_X8_goingOn_71, r_X8_goingOn_74, r_X8_goingOn_76, r_X8_goingOn_79, r_X8_goingOn_80, r_X8_goingOn_81, r_X8_goingOn_83, r_X8_goingOn_86, ↓reduceIte, Option.isSome_some, Option.getD_some, rL_v, rL_n, cH_s, List.cons_append, List.nil_append, cat_i, cat_r, cat_n, ofN, g8_0 h1, g8_1 h1, g8_2 h1, g8_3 h1, g8_4 h1, g8_5 h1, g8_6 h1, g8_7 h1, g8_8 h1, ro8 h1, g4_0 hH, g4_1 hH, g4_2 hH, g4_3 hH, g4_4 hH, g4_5 hH, g4_6 hH, ro4 hH, g6_0 hp1, g6_1 hp1, g6_2 hp1, g6_3 hp1, g6_4 hp1, ro6 hp1, ro2 hE1, q, gR_nI hr1 (Or.inr (Or.inl rfl)) (by decide) (by omega) (hr2 i (by omega)) (show i < 7 by omega), h2, c_beginning hE hS (show i ≤ S 12 0 by omega) ht, c_playedOf8 hp1 (show S 4 i ≤ 8 by omega), e1, lN_mul, c_longerThan (x := x) hp1 hl hgl k5 (fun j hj => by have := k6 j hj; show S 7 (4 * i + j) < _; omega) (show x < 2147483648 by omega), e2, cb, lN_add, nI_add]
        exact I _ _ _
      · rw [if_neg h2, Nat.add_zero] at I
        simp only [r_X8_goingOn_8, r_X8_goingOn_9, r_X8_goingOn_12, r_X8_goingOn_15, r_X8_goingOn_18, r_X8_goingOn_19, r_X8_goingOn_22, r_X8_goingOn_25, r_X8_goingOn_27, r_X8_goingOn_28, r_X8_goingOn_30, r_X8_goingOn_32, r_X8_goingOn_35, r_X8_goingOn_36, r_X8_goingOn_39, r_X8_goingOn_40, r_X8_goingOn_43, r_X8_goingOn_45, r_X8_goingOn_46, r_X8_goingOn_49, r_X8_goingOn_51, r_X8_goingOn_54, r_X8_goingOn_55, r_X8_goingOn_56, r_X8_goingOn_58, r_X8_goingOn_60, r_X8_goingOn_62, r_X8_goingOn_64, r_X8_goingOn_65, r_X8_goingOn_68, r_X8_goingOn_69, r_X8_goingOn_70, r_X8_goingOn_71, r_X8_goingOn_74, r_X8_goingOn_76, r_X8_goingOn_79, r_X8_goingOn_80, r_X8_goingOn_81, r_X8_goingOn_83, r_X8_goingOn_86, ↓reduceIte, Option.isSome_some, Option.getD_some, rL_v, rL_n, cH_s, List.cons_append, List.nil_append, cat_i, cat_r, cat_n, ofN, g8_0 h1, g8_1 h1, g8_2 h1, g8_3 h1, g8_4 h1, g8_5 h1, g8_6 h1, g8_7 h1, g8_8 h1, ro8 h1, g4_0 hH, g4_1 hH, g4_2 hH, g4_3 hH, g4_4 hH, g4_5 hH, g4_6 hH, ro4 hH, g6_0 hp1, g6_1 hp1, g6_2 hp1, g6_3 hp1, g6_4 hp1, ro6 hp1, ro2 hE1, q, gR_nI hr1 (Or.inr (Or.inl rfl)) (by decide) (by omega) (hr2 i (by omega)) (show i < 7 by omega), nI_inj (show S 3 i < 2147483648 by omega) (show so < 2147483648 by omega), h2, nI_add]
        exact I _ _ _
  show Run M_X8_goingOn 0 [.ref 1, .int (nI so), .int (nI t), .int (nI x), .null, .null, .null, .null, .null, .null] [] h = _
  simp only [r_X8_goingOn_0, r_X8_goingOn_1, r_X8_goingOn_3, r_X8_goingOn_4, ↓reduceIte, Option.isSome_some, Option.getD_some, rL_v, rL_n, cH_s, List.cons_append, List.nil_append, cat_i, cat_r, cat_n, ofN]
  exact L (S 12 0) 0 _ _ _ (by omega)
theorem c_longer {h : AH} {S : SS} (hI : Inv S) (hr : RepM h S) {p x : Nat} (hp : p < S 12 0) (hx : x ≤ 60) : Call M_X9_longer h [.ref 88, .int (nI p), .int (nI x)] = some (h, some (.long (lN (moreL (lenP S p) x (S 6 p))))) := by
  have hS := hI.1
  have hn := hS.1
  obtain ⟨k1, k2, k3, k4, k5, k6⟩ := hS.2 p hp
  obtain ⟨⟨_, _, _, _, _, _, _, _, _, _, _, hm⟩, hA, -⟩ := id hr
  have L : ∀ k i, i + k = S 6 p → Run M_X9_longer 5 [.ref 88, .int (nI p), .int (nI x), .long (lN (moreL (lenP S p) x i)), .null, .int (nI i)] [] h = some (h, some (.long (lN (moreL (lenP S p) x (S 6 p))))) := by
    intro k
    induction k with
    | zero =>
      intro i hi
      have e : i = S 6 p := by omega
      subst e
      simp only [r_X9_longer_0, r_X9_longer_1, r_X9_longer_2, r_X9_longer_3, r_X9_longer_5, r_X9_longer_7, r_X9_longer_8, r_X9_longer_11, r_X9_longer_12, r_X9_longer_13, r_X9_longer_16, r_X9_longer_17, r_X9_longer_18, r_X9_longer_21, r_X9_longer_22, r_X9_longer_23, r_X9_longer_24, r_X9_longer_26, r_X9_longer_27, r_X9_longer_28, r_X9_longer_29, r_X9_longer_32, r_X9_longer_33, r_X9_longer_36, r_X9_longer_37, r_X9_longer_38, r_X9_longer_39, r_X9_longer_42, r_X9_longer_45, r_X9_longer_46, ↓reduceIte, Option.isSome_some, Option.getD_some, rL_v, rL_n, cH_s, List.cons_append, List.nil_append, cat_i, cat_r, cat_n, ofN, g9_0 hm, g9_1 hm, g9_2 hm, g9_3 hm, g9_4 hm, g9_5 hm, g9_6 hm, g9_7 hm, g9_8 hm, g9_9 hm, g9_10 hm, g9_11 hm, g9_12 hm, g9_13 hm, g9_14 hm, g9_15 hm, g9_16 hm, g9_17 hm, g9_18 hm, g9_19 hm, g9_20 hm, g9_21 hm, g9_22 hm, g9_23 hm, g9_24 hm, g9_25 hm, g9_26 hm, g9_27 hm, g9_28 hm, g9_29 hm, g9_30 hm, g9_31 hm, g9_32 hm, g9_33 hm, g9_34 hm, g9_35 hm, g9_36 hm, g9_37 hm, g9_38 hm, g9_39 hm, ro9 hm, gI_nI (hA 95 _ rfl) (by decide) (show p < 7 by omega), Int32.le_refl]
    | succ k ih =>
      intro i hi
      have q : ¬ nI (S 6 p) ≤ nI i := by rw [nI_le' (by omega) (by omega)]; omega
      have h6 := k6 i (by omega)
      have I := ih (i + 1) (by omega)
      rw [show moreL (lenP S p) x (i + 1) = moreL (lenP S p) x i + (if x < S 7 (4 * p + i) then 1 else 0) from rfl] at I
      rw [r_X9_longer_5]
      by_cases h2 : x < S 7 (4 * p + i)
      · rw [if_pos h2] at I
        have q2 : ¬ S 7 (4 * p + i) ≤ x := by omega
        simp only [r_X9_longer_7, r_X9_longer_8, r_X9_longer_11, r_X9_longer_12, r_X9_longer_13, r_X9_longer_16, r_X9_longer_17, r_X9_longer_18, r_X9_longer_21, r_X9_longer_22, r_X9_longer_23, r_X9_longer_24, r_X9_longer_26, r_X9_longer_27, r_X9_longer_28, r_X9_longer_29, r_X9_longer_32, r_X9_longer_33, r_X9_longer_36, r_X9_longer_37, r_X9_longer_38, r_X9_longer_39, r_X9_longer_42, ↓reduceIte, Option.isSome_some, Option.getD_some, rL_v, rL_n, cH_s, List.cons_append, List.nil_append, cat_i, cat_r, cat_n, ofN, g9_0 hm, g9_1 hm, g9_2 hm, g9_3 hm, g9_4 hm, g9_5 hm, g9_6 hm, g9_7 hm, g9_8 hm, g9_9 hm, g9_10 hm, g9_11 hm, g9_12 hm, g9_13 hm, g9_14 hm, g9_15 hm, g9_16 hm, g9_17 hm, g9_18 hm, g9_19 hm, g9_20 hm, g9_21 hm, g9_22 hm, g9_23 hm, g9_24 hm, g9_25 hm, g9_26 hm, g9_27 hm, g9_28 hm, g9_29 hm, g9_30 hm, g9_31 hm, g9_32 hm, g9_33 hm, g9_34 hm, g9_35 hm, g9_36 hm, g9_37 hm, g9_38 hm, g9_39 hm, ro9 hm, gI_nI (hA 95 _ rfl) (by decide) (show p < 7 by omega), q, nI_m, nI_add, gI_nI (hA 96 _ rfl) (by decide) (show 4 * p + i < 28 by omega), nI_le' (show S 7 (4 * p + i) < 2147483648 by omega) (show x < 2147483648 by omega), q2, lN_add]
        exact I
      · rw [if_neg h2] at I
        have q2 : S 7 (4 * p + i) ≤ x := by omega
        simp only [r_X9_longer_7, r_X9_longer_8, r_X9_longer_11, r_X9_longer_12, r_X9_longer_13, r_X9_longer_16, r_X9_longer_17, r_X9_longer_18, r_X9_longer_21, r_X9_longer_22, r_X9_longer_23, r_X9_longer_24, r_X9_longer_26, r_X9_longer_27, r_X9_longer_28, r_X9_longer_29, r_X9_longer_32, r_X9_longer_33, r_X9_longer_36, r_X9_longer_37, r_X9_longer_38, r_X9_longer_39, r_X9_longer_42, ↓reduceIte, Option.isSome_some, Option.getD_some, rL_v, rL_n, cH_s, List.cons_append, List.nil_append, cat_i, cat_r, cat_n, ofN, g9_0 hm, g9_1 hm, g9_2 hm, g9_3 hm, g9_4 hm, g9_5 hm, g9_6 hm, g9_7 hm, g9_8 hm, g9_9 hm, g9_10 hm, g9_11 hm, g9_12 hm, g9_13 hm, g9_14 hm, g9_15 hm, g9_16 hm, g9_17 hm, g9_18 hm, g9_19 hm, g9_20 hm, g9_21 hm, g9_22 hm, g9_23 hm, g9_24 hm, g9_25 hm, g9_26 hm, g9_27 hm, g9_28 hm, g9_29 hm, g9_30 hm, g9_31 hm, g9_32 hm, g9_33 hm, g9_34 hm, g9_35 hm, g9_36 hm, g9_37 hm, g9_38 hm, g9_39 hm, ro9 hm, gI_nI (hA 95 _ rfl) (by decide) (show p < 7 by omega), q, nI_m, nI_add, gI_nI (hA 96 _ rfl) (by decide) (show 4 * p + i < 28 by omega), nI_le' (show S 7 (4 * p + i) < 2147483648 by omega) (show x < 2147483648 by omega), q2, lN_add]
        exact I
  show Run M_X9_longer 0 [.ref 88, .int (nI p), .int (nI x), .null, .null, .null] [] h = _
  simp only [r_X9_longer_0, r_X9_longer_1, r_X9_longer_2, r_X9_longer_3, ↓reduceIte, Option.isSome_some, Option.getD_some, rL_v, rL_n, cH_s, List.cons_append, List.nil_append, cat_i, cat_r, cat_n, ofN]
  exact L (S 6 p) 0 (by omega)
abbrev iT (S : SS) (t x w k : Nat) : Nat := gS S t x 3 k * sh S 3 w
abbrev iA' (S : SS) (t x w k : Nat) : Nat := gS S t x 3 k * sh S 3 w + gS S t x 2 k * sh S 2 w
theorem op_isIt {S : SS} (hI : Inv S) (x z w y : Int32) : OpV M_X8_isIt M_X9_isIt [.int x, .int z, .int w, .int y] S := by
  have hS := hI.1
  have hn := hS.1
  obtain ⟨a1, a2, a3, a4, a5⟩ := hI.2.2.1.1
  by_cases hx : nI 0 ≤ x ∧ x ≤ nI 420
  · by_cases hz : nI 0 ≤ z ∧ z ≤ nI 60
    · by_cases hw : nI 0 ≤ w ∧ w ≤ nI 2
      · by_cases hy : nI 0 ≤ y ∧ y ≤ nI 1
        · obtain ⟨t, ht, rfl⟩ := rng (by decide) hx
          obtain ⟨d, hd, rfl⟩ := rng (by decide) hz
          obtain ⟨v, hv, rfl⟩ := rng (by decide) hw
          obtain ⟨q, hq, rfl⟩ := rng (by decide) hy
          have hy2 := low01 hq
          have s3 : sh S 3 v ≤ 8 := by unfold sh; split; omega; split; exact a4; omega
          have s2 : sh S 2 v ≤ 8 := by unfold sh; split; omega; split; exact a5; omega
          have g3 := gS_le (t := t) (x := d) (so := 3) (fun p hp => tmI_le hS hp ht) (S 12 0) (Nat.le_refl _)
          have g2 := gS_le (t := t) (x := d) (so := 2) (fun p hp => tmI_le hS hp ht) (S 12 0) (Nat.le_refl _)
          have g4 : S 12 0 * 34359738368 ≤ 7 * 34359738368 := Nat.mul_le_mul_right _ hn
          have m3 : iT S t d v (S 12 0) ≤ 7 * 34359738368 * 8 := Nat.mul_le_mul (Nat.le_trans g3 g4) s3
          have m2 : gS S t d 2 (S 12 0) * sh S 2 v ≤ 7 * 34359738368 * 8 := Nat.mul_le_mul (Nat.le_trans g2 g4) s2
          have mA : iA' S t d v (S 12 0) ≤ 7 * 34359738368 * 8 + 7 * 34359738368 * 8 := Nat.add_le_add m3 m2
          have e3 : (nI (sh S 3 v)).toInt64 = lN (sh S 3 v) := nI_l (by omega)
          have e2 : (nI (sh S 2 v)).toInt64 = lN (sh S 2 v) := nI_l (by omega)
          have z0 : (lN (iA' S t d v (S 12 0)) = lN 0) = (iA' S t d v (S 12 0) = 0) := lN_inj (by omega) (by decide)
          refine ⟨.long (if iA' S t d v (S 12 0) = 0 then (-1000000003) else lN (low (iT S t d v (S 12 0)) (iA' S t d v (S 12 0)) q)), S, hI, fun h ⟨o, hr⟩ => ⟨h, ?_, ⟨o, hr⟩, frC.rf⟩, fun h hr => ?_⟩
          · have c3 := c_goingOn hI hr (so := 3) (Or.inr rfl) ht hd
            have c2 := c_goingOn hI hr (so := 2) (Or.inl rfl) ht hd
            obtain ⟨h0, h1, -, ⟨hH, -, -, -, hA, -⟩, -, hE, -⟩ := hr
            have hA1 := hA.1
            show Run M_X8_isIt 0 [.ref 1, .int (nI t), .int (nI d), .int (nI v), .int (nI q), .null, .null, .null, .null, .null, .null] [] h = _
            simp only [r_X8_isIt_0, r_X8_isIt_1, r_X8_isIt_4, r_X8_isIt_7, r_X8_isIt_8, r_X8_isIt_9, r_X8_isIt_11, r_X8_isIt_14, r_X8_isIt_17, r_X8_isIt_18, r_X8_isIt_19, r_X8_isIt_20, r_X8_isIt_23, r_X8_isIt_26, r_X8_isIt_28, r_X8_isIt_31, r_X8_isIt_34, r_X8_isIt_37, r_X8_isIt_38, r_X8_isIt_39, r_X8_isIt_40, r_X8_isIt_41, r_X8_isIt_42, r_X8_isIt_45, r_X8_isIt_46, r_X8_isIt_49, r_X8_isIt_52, r_X8_isIt_53, r_X8_isIt_54, r_X8_isIt_57, r_X8_isIt_58, r_X8_isIt_59, r_X8_isIt_61, r_X8_isIt_62, r_X8_isIt_63, r_X8_isIt_64, r_X8_isIt_65, r_X8_isIt_68, r_X8_isIt_69, r_X8_isIt_72, r_X8_isIt_75, r_X8_isIt_76, r_X8_isIt_77, r_X8_isIt_80, r_X8_isIt_81, r_X8_isIt_82, r_X8_isIt_84, r_X8_isIt_86, r_X8_isIt_88, r_X8_isIt_89, r_X8_isIt_91, r_X8_isIt_93, r_X8_isIt_94, r_X8_isIt_95, r_X8_isIt_98, r_X8_isIt_101, r_X8_isIt_104, r_X8_isIt_106, r_X8_isIt_108, r_X8_isIt_110, r_X8_isIt_113, ↓reduceIte, Option.isSome_some, Option.getD_some, rL_v, rL_n, cH_s, List.cons_append, List.nil_append, cat_i, cat_r, cat_n, ofN, g8_0 h1, g8_1 h1, g8_2 h1, g8_3 h1, g8_4 h1, g8_5 h1, g8_6 h1, g8_7 h1, g8_8 h1, ro8 h1, g4_0 hH, g4_1 hH, g4_2 hH, g4_3 hH, g4_4 hH, g4_5 hH, g4_6 hH, ro4 hH, ro0 hA1, c_isTenth, c_within, c_isSide, ite_bI, hx, hz, hw, hy2, and_self, c3, c2, c_showing hA1 a4 a5 (so := 3) (Or.inr rfl) hv, c_showing hA1 a4 a5 (so := 2) (Or.inl rfl) hv, e3, e2, lN_mul, lN_add, cmp_eq, z0]
            by_cases h5 : iA' S t d v (S 12 0) = 0
            · rw [if_pos h5, if_pos h5]
            · rw [if_neg h5, if_neg h5, c_inLowest (h := h) (a := iT S t d v (S 12 0)) (b := iA' S t d v (S 12 0)) (by omega) (by omega) (by omega) (show q < 2 by omega)]
              simp only [r_X8_isIt_113, ↓reduceIte, Option.isSome_some, Option.getD_some, rL_v, rL_n, cH_s, List.cons_append, List.nil_append, cat_i, cat_r, cat_n, ofN]
          · have L : ∀ k i H X10 X11 X12 X13, i + k = S 12 0 → RepM H S → WS h H → ∃ h', Run M_X9_isIt 49 [.ref 88, .int (nI t), .int (nI d), .int (nI v), .int (nI q), .long (lN (iT S t d v i)), .null, .long (lN (iA' S t d v i)), .null, .int (nI i), X10, X11, X12, X13] [] H = some (h', some (.long (if iA' S t d v (S 12 0) = 0 then (-1000000003) else lN (low (iT S t d v (S 12 0)) (iA' S t d v (S 12 0)) q)))) ∧ RepM h' S ∧ WS h h' := by
              intro k
              induction k with
              | zero =>
                intro i H X10 X11 X12 X13 hi hR hW
                have e : i = S 12 0 := by omega
                subst e
                obtain ⟨⟨_, _, _, _, _, _, _, _, _, _, _, hm⟩, hA, -⟩ := id hR
                refine ⟨H, ?_, hR, hW⟩
                simp only [r_X9_isIt_49, r_X9_isIt_51, r_X9_isIt_52, r_X9_isIt_55, r_X9_isIt_210, r_X9_isIt_212, r_X9_isIt_213, r_X9_isIt_214, r_X9_isIt_217, r_X9_isIt_220, r_X9_isIt_223, r_X9_isIt_225, r_X9_isIt_227, r_X9_isIt_229, r_X9_isIt_232, ↓reduceIte, Option.isSome_some, Option.getD_some, rL_v, rL_n, cH_s, List.cons_append, List.nil_append, cat_i, cat_r, cat_n, ofN, g9_0 hm, g9_1 hm, g9_2 hm, g9_3 hm, g9_4 hm, g9_5 hm, g9_6 hm, g9_7 hm, g9_8 hm, g9_9 hm, g9_10 hm, g9_11 hm, g9_12 hm, g9_13 hm, g9_14 hm, g9_15 hm, g9_16 hm, g9_17 hm, g9_18 hm, g9_19 hm, g9_20 hm, g9_21 hm, g9_22 hm, g9_23 hm, g9_24 hm, g9_25 hm, g9_26 hm, g9_27 hm, g9_28 hm, g9_29 hm, g9_30 hm, g9_31 hm, g9_32 hm, g9_33 hm, g9_34 hm, g9_35 hm, g9_36 hm, g9_37 hm, g9_38 hm, g9_39 hm, ro9 hm, Int32.le_refl, cmp_eq, z0]
                by_cases h5 : iA' S t d v (S 12 0) = 0
                · rw [if_pos h5, if_pos h5]
                · rw [if_neg h5, if_neg h5, c_share (h := H) (a := iT S t d v (S 12 0)) (b := iA' S t d v (S 12 0)) (by omega) (by omega) (by omega) (show q < 2 by omega)]
                  simp only [r_X9_isIt_232, ↓reduceIte, Option.isSome_some, Option.getD_some, rL_v, rL_n, cH_s, List.cons_append, List.nil_append, cat_i, cat_r, cat_n, ofN]
              | succ k ih =>
                intro i H X10 X11 X12 X13 hi hR hW
                have hi2 : i < S 12 0 := by omega
                obtain ⟨k1, k2, k3, k4, k5, k6⟩ := hS.2 i hi2
                obtain ⟨⟨_, _, _, _, _, _, _, _, _, _, _, hm⟩, hA, -⟩ := id hR
                have q0 : ¬ nI (S 12 0) ≤ nI i := by rw [nI_le' (by omega) (by omega)]; omega
                have e1 : (nI (8 - S 4 i)).toInt64 = lN (8 - S 4 i) := nI_l (by omega)
                rw [r_X9_isIt_49]
                by_cases h2 : S 3 i ≤ 1
                · have i1 : iT S t d v (i + 1) = iT S t d v i := by
                    show (gS S t d 3 i + (if S 3 i = 3 then tmI S t d i else 0)) * _ = _
                    rw [if_neg (by omega)]; rfl
                  have i2 : iA' S t d v (i + 1) = iA' S t d v i := by
                    show (gS S t d 3 i + (if S 3 i = 3 then tmI S t d i else 0)) * _ + (gS S t d 2 i + (if S 3 i = 2 then tmI S t d i else 0)) * _ = _
                    rw [if_neg (by omega), if_neg (by omega)]; rfl
                  have I := ih (i + 1) H X10 X11 X12 X13 (by omega) hR hW
                  rw [i1, i2] at I
                  simp only [r_X9_isIt_51, r_X9_isIt_52, r_X9_isIt_55, r_X9_isIt_58, r_X9_isIt_59, r_X9_isIt_62, r_X9_isIt_64, r_X9_isIt_65, r_X9_isIt_66, r_X9_isIt_204, r_X9_isIt_207, ↓reduceIte, Option.isSome_some, Option.getD_some, rL_v, rL_n, cH_s, List.cons_append, List.nil_append, cat_i, cat_r, cat_n, ofN, g9_0 hm, g9_1 hm, g9_2 hm, g9_3 hm, g9_4 hm, g9_5 hm, g9_6 hm, g9_7 hm, g9_8 hm, g9_9 hm, g9_10 hm, g9_11 hm, g9_12 hm, g9_13 hm, g9_14 hm, g9_15 hm, g9_16 hm, g9_17 hm, g9_18 hm, g9_19 hm, g9_20 hm, g9_21 hm, g9_22 hm, g9_23 hm, g9_24 hm, g9_25 hm, g9_26 hm, g9_27 hm, g9_28 hm, g9_29 hm, g9_30 hm, g9_31 hm, g9_32 hm, g9_33 hm, g9_34 hm, g9_35 hm, g9_36 hm, g9_37 hm, g9_38 hm, g9_39 hm, ro9 hm, q0, gI_nI (hA 92 _ rfl) (by decide) (show i < 7 by omega), nI_le' (show S 3 i < 2147483648 by omega) (show 1 < 2147483648 by decide), h2, nI_add]
                  exact I
                · obtain ⟨h', cf, hw', hWA, hb⟩ := c_findWeights hS hR (show i ≤ S 12 0 by omega)
                  have hR' := hR.ws hw' hWA.ex hb
                  obtain ⟨⟨_, _, _, _, _, _, _, _, _, _, _, hm'⟩, hA', -⟩ := id hR'
                  obtain ⟨gw, w1, w2⟩ := hWA
                  have cl := c_longer hI hR' hi2 hd
                  have cw := c_whole hS hR' (show i + 1 ≤ S 12 0 by omega) (Nat.le_refl _)
                  have I := fun X10 X11 X12 X13 => ih (i + 1) h' X10 X11 X12 X13 (by omega) hR' (hW.tr hw')
                  rcases (show S 3 i = 2 ∨ S 3 i = 3 by omega) with h3 | h3
                  · have i1 : iT S t d v (i + 1) = iT S t d v i + 0 := by
                      show (gS S t d 3 i + (if S 3 i = 3 then tmI S t d i else 0)) * _ = _
                      rw [if_neg (by omega)]; rfl
                    have i2 : iA' S t d v (i + 1) = iA' S t d v i + Wt S i t * moreL (lenP S i) d (S 6 i) * (8 - S 4 i) * sh S 2 v * Wh S (i + 1) (S 12 0 - (i + 1)) := by
                      show (gS S t d 3 i + (if S 3 i = 3 then tmI S t d i else 0)) * _ + (gS S t d 2 i + (if S 3 i = 2 then tmI S t d i else 0)) * _ = _
                      rw [if_neg (by omega), if_pos h3, Nat.add_mul (gS S t d 2 i), Nat.add_zero, ← Nat.add_assoc]
                      congr 1
                      unfold tmI
                      simp only [Nat.mul_assoc, Nat.mul_comm, Nat.mul_left_comm]
                    rw [i1, i2] at I
                    have f1 : ¬ nI 2 ≤ nI 1 := by decide
                    have f2 : ¬ nI 2 = nI 3 := by decide
                    have f3 : ¬ nI 0 = nI 2 := by decide
                    have f4 : ¬ nI 1 = nI 2 := by decide
                    have f5 : ¬ nI 0 = nI 1 := by decide
                    have n1 : ¬ (0 : Nat) = 2 := by decide
                    have n2 : ¬ (1 : Nat) = 2 := by decide
                    have n3 : ¬ (0 : Nat) = 1 := by decide
                    unfold sh at I e2
                    simp only [show 6 - 2 = 4 from rfl] at I e2
                    rcases (show v = 0 ∨ v = 1 ∨ v = 2 by omega) with rfl | rfl | rfl <;> simp only [n1, n2, n3, if_true, if_false] at I e2 <;> simp only [r_X9_isIt_51, r_X9_isIt_52, r_X9_isIt_55, r_X9_isIt_58, r_X9_isIt_59, r_X9_isIt_62, r_X9_isIt_64, r_X9_isIt_65, r_X9_isIt_66, r_X9_isIt_69, r_X9_isIt_70, r_X9_isIt_73, r_X9_isIt_75, r_X9_isIt_76, r_X9_isIt_77, r_X9_isIt_80, r_X9_isIt_81, r_X9_isIt_84, r_X9_isIt_85, r_X9_isIt_86, r_X9_isIt_89, r_X9_isIt_90, r_X9_isIt_93, r_X9_isIt_94, r_X9_isIt_95, r_X9_isIt_97, r_X9_isIt_98, r_X9_isIt_99, r_X9_isIt_102, r_X9_isIt_104, r_X9_isIt_107, r_X9_isIt_108, r_X9_isIt_109, r_X9_isIt_112, r_X9_isIt_114, r_X9_isIt_117, r_X9_isIt_119, r_X9_isIt_121, r_X9_isIt_122, r_X9_isIt_124, r_X9_isIt_125, r_X9_isIt_127, r_X9_isIt_130, r_X9_isIt_131, r_X9_isIt_134, r_X9_isIt_135, r_X9_isIt_136, r_X9_isIt_137, r_X9_isIt_139, r_X9_isIt_140, r_X9_isIt_143, r_X9_isIt_144, r_X9_isIt_146, r_X9_isIt_147, r_X9_isIt_150, r_X9_isIt_152, r_X9_isIt_153, r_X9_isIt_154, r_X9_isIt_155, r_X9_isIt_156, r_X9_isIt_158, r_X9_isIt_159, r_X9_isIt_160, r_X9_isIt_161, r_X9_isIt_163, r_X9_isIt_164, r_X9_isIt_165, r_X9_isIt_166, r_X9_isIt_169, r_X9_isIt_172, r_X9_isIt_173, r_X9_isIt_175, r_X9_isIt_177, r_X9_isIt_178, r_X9_isIt_181, r_X9_isIt_183, r_X9_isIt_184, r_X9_isIt_185, r_X9_isIt_188, r_X9_isIt_190, r_X9_isIt_193, r_X9_isIt_194, r_X9_isIt_195, r_X9_isIt_197, r_X9_isIt_199, r_X9_isIt_201, r_X9_isIt_202, r_X9_isIt_204, r_X9_isIt_207, ↓reduceIte, Option.isSome_some, Option.getD_some, rL_v, rL_n, cH_s, List.cons_append, List.nil_append, cat_i, cat_r, cat_n, ofN, g9_0 hm, g9_1 hm, g9_2 hm, g9_3 hm, g9_4 hm, g9_5 hm, g9_6 hm, g9_7 hm, g9_8 hm, g9_9 hm, g9_10 hm, g9_11 hm, g9_12 hm, g9_13 hm, g9_14 hm, g9_15 hm, g9_16 hm, g9_17 hm, g9_18 hm, g9_19 hm, g9_20 hm, g9_21 hm, g9_22 hm, g9_23 hm, g9_24 hm, g9_25 hm, g9_26 hm, g9_27 hm, g9_28 hm, g9_29 hm, g9_30 hm, g9_31 hm, g9_32 hm, g9_33 hm, g9_34 hm, g9_35 hm, g9_36 hm, g9_37 hm, g9_38 hm, g9_39 hm, ro9 hm, g9_0 hm', g9_1 hm', g9_2 hm', g9_3 hm', g9_4 hm', g9_5 hm', g9_6 hm', g9_7 hm', g9_8 hm', g9_9 hm', g9_10 hm', g9_11 hm', g9_12 hm', g9_13 hm', g9_14 hm', g9_15 hm', g9_16 hm', g9_17 hm', g9_18 hm', g9_19 hm', g9_20 hm', g9_21 hm', g9_22 hm', g9_23 hm', g9_24 hm', g9_25 hm', g9_26 hm', g9_27 hm', g9_28 hm', g9_29 hm', g9_30 hm', g9_31 hm', g9_32 hm', g9_33 hm', g9_34 hm', g9_35 hm', g9_36 hm', g9_37 hm', g9_38 hm', g9_39 hm', ro9 hm', q0, gI_nI (hA 92 _ rfl) (by decide) (show i < 7 by omega), gI_nI (hA 89 _ rfl) (by decide) (show 4 < 19 by decide), gI_nI (hA' 92 _ rfl) (by decide) (show i < 7 by omega), gI_nI (hA' 93 _ rfl) (by decide) (show i < 7 by omega), h3, f1, f2, f3, f4, f5, cf, gJ_nI w1 (by decide) (by decide) (show t < 421 by omega), w2 t (by omega), cl, nI_s (show S 4 i ≤ 8 by omega), nI_s a5, nI_s a4, e1, e2, cw, nI_add, lN_mul, lN_add] <;> exact I _ _ _ _
                  · have i1 : iT S t d v (i + 1) = iT S t d v i + Wt S i t * moreL (lenP S i) d (S 6 i) * (8 - S 4 i) * sh S 3 v * Wh S (i + 1) (S 12 0 - (i + 1)) := by
                      show (gS S t d 3 i + (if S 3 i = 3 then tmI S t d i else 0)) * _ = _
                      rw [if_pos h3, Nat.add_mul]
                      congr 1
                      unfold tmI
                      simp only [Nat.mul_assoc, Nat.mul_comm, Nat.mul_left_comm]
                    have i2 : iA' S t d v (i + 1) = iA' S t d v i + Wt S i t * moreL (lenP S i) d (S 6 i) * (8 - S 4 i) * sh S 3 v * Wh S (i + 1) (S 12 0 - (i + 1)) := by
                      show (gS S t d 3 (i + 1)) * _ + (gS S t d 2 i + (if S 3 i = 2 then tmI S t d i else 0)) * _ = _
                      rw [if_neg (by omega)]
                      show iT S t d v (i + 1) + gS S t d 2 i * sh S 2 v = iT S t d v i + gS S t d 2 i * sh S 2 v + _
                      rw [i1]
                      omega
                    rw [i1, i2] at I
                    have f1 : ¬ nI 3 ≤ nI 1 := by decide
                    have f3 : ¬ nI 0 = nI 2 := by decide
                    have f4 : ¬ nI 1 = nI 2 := by decide
                    have f5 : ¬ nI 0 = nI 1 := by decide
                    have n1 : ¬ (0 : Nat) = 2 := by decide
                    have n2 : ¬ (1 : Nat) = 2 := by decide
                    have n3 : ¬ (0 : Nat) = 1 := by decide
                    unfold sh at I e3
                    simp only [show 6 - 3 = 3 from rfl] at I e3
                    rcases (show v = 0 ∨ v = 1 ∨ v = 2 by omega) with rfl | rfl | rfl <;> simp only [n1, n2, n3, if_true, if_false] at I e3 <;> simp only [r_X9_isIt_51, r_X9_isIt_52, r_X9_isIt_55, r_X9_isIt_58, r_X9_isIt_59, r_X9_isIt_62, r_X9_isIt_64, r_X9_isIt_65, r_X9_isIt_66, r_X9_isIt_69, r_X9_isIt_70, r_X9_isIt_73, r_X9_isIt_75, r_X9_isIt_76, r_X9_isIt_77, r_X9_isIt_80, r_X9_isIt_81, r_X9_isIt_84, r_X9_isIt_85, r_X9_isIt_86, r_X9_isIt_89, r_X9_isIt_90, r_X9_isIt_93, r_X9_isIt_94, r_X9_isIt_95, r_X9_isIt_97, r_X9_isIt_98, r_X9_isIt_99, r_X9_isIt_102, r_X9_isIt_104, r_X9_isIt_107, r_X9_isIt_108, r_X9_isIt_109, r_X9_isIt_112, r_X9_isIt_114, r_X9_isIt_117, r_X9_isIt_119, r_X9_isIt_121, r_X9_isIt_122, r_X9_isIt_124, r_X9_isIt_125, r_X9_isIt_127, r_X9_isIt_130, r_X9_isIt_131, r_X9_isIt_134, r_X9_isIt_135, r_X9_isIt_136, r_X9_isIt_137, r_X9_isIt_139, r_X9_isIt_140, r_X9_isIt_143, r_X9_isIt_144, r_X9_isIt_146, r_X9_isIt_147, r_X9_isIt_150, r_X9_isIt_152, r_X9_isIt_153, r_X9_isIt_154, r_X9_isIt_155, r_X9_isIt_156, r_X9_isIt_158, r_X9_isIt_159, r_X9_isIt_160, r_X9_isIt_161, r_X9_isIt_163, r_X9_isIt_164, r_X9_isIt_165, r_X9_isIt_166, r_X9_isIt_169, r_X9_isIt_172, r_X9_isIt_173, r_X9_isIt_175, r_X9_isIt_177, r_X9_isIt_178, r_X9_isIt_181, r_X9_isIt_183, r_X9_isIt_184, r_X9_isIt_185, r_X9_isIt_188, r_X9_isIt_190, r_X9_isIt_193, r_X9_isIt_194, r_X9_isIt_195, r_X9_isIt_197, r_X9_isIt_199, r_X9_isIt_201, r_X9_isIt_202, r_X9_isIt_204, r_X9_isIt_207, ↓reduceIte, Option.isSome_some, Option.getD_some, rL_v, rL_n, cH_s, List.cons_append, List.nil_append, cat_i, cat_r, cat_n, ofN, g9_0 hm, g9_1 hm, g9_2 hm, g9_3 hm, g9_4 hm, g9_5 hm, g9_6 hm, g9_7 hm, g9_8 hm, g9_9 hm, g9_10 hm, g9_11 hm, g9_12 hm, g9_13 hm, g9_14 hm, g9_15 hm, g9_16 hm, g9_17 hm, g9_18 hm, g9_19 hm, g9_20 hm, g9_21 hm, g9_22 hm, g9_23 hm, g9_24 hm, g9_25 hm, g9_26 hm, g9_27 hm, g9_28 hm, g9_29 hm, g9_30 hm, g9_31 hm, g9_32 hm, g9_33 hm, g9_34 hm, g9_35 hm, g9_36 hm, g9_37 hm, g9_38 hm, g9_39 hm, ro9 hm, g9_0 hm', g9_1 hm', g9_2 hm', g9_3 hm', g9_4 hm', g9_5 hm', g9_6 hm', g9_7 hm', g9_8 hm', g9_9 hm', g9_10 hm', g9_11 hm', g9_12 hm', g9_13 hm', g9_14 hm', g9_15 hm', g9_16 hm', g9_17 hm', g9_18 hm', g9_19 hm', g9_20 hm', g9_21 hm', g9_22 hm', g9_23 hm', g9_24 hm', g9_25 hm', g9_26 hm', g9_27 hm', g9_28 hm', g9_29 hm', g9_30 hm', g9_31 hm', g9_32 hm', g9_33 hm', g9_34 hm', g9_35 hm', g9_36 hm', g9_37 hm', g9_38 hm', g9_39 hm', ro9 hm', q0, gI_nI (hA 92 _ rfl) (by decide) (show i < 7 by omega), gI_nI (hA 89 _ rfl) (by decide) (show 3 < 19 by decide), gI_nI (hA' 92 _ rfl) (by decide) (show i < 7 by omega), gI_nI (hA' 93 _ rfl) (by decide) (show i < 7 by omega), h3, f1, f3, f4, f5, cf, gJ_nI w1 (by decide) (by decide) (show t < 421 by omega), w2 t (by omega), cl, nI_s (show S 4 i ≤ 8 by omega), nI_s a5, nI_s a4, e1, e3, cw, nI_add, lN_mul, lN_add] <;> exact I _ _ _ _
            have s0 : iT S t d v 0 = 0 := by show 0 * _ = 0; rw [Nat.zero_mul]
            have s1 : iA' S t d v 0 = 0 := by show 0 * _ + 0 * _ = 0; rw [Nat.zero_mul, Nat.zero_mul]
            have L0 := L (S 12 0) 0 h .null .null .null .null (by omega) hr WS.rf
            rw [s0, s1] at L0
            obtain ⟨h', c, r', w'⟩ := L0
            refine ⟨h', ?_, r', w'.frM⟩
            show Run M_X9_isIt 0 [.ref 88, .int (nI t), .int (nI d), .int (nI v), .int (nI q), .null, .null, .null, .null, .null, .null, .null, .null, .null] [] h = _
            simp only [r_X9_isIt_0, r_X9_isIt_1, r_X9_isIt_4, r_X9_isIt_7, r_X9_isIt_8, r_X9_isIt_9, r_X9_isIt_11, r_X9_isIt_14, r_X9_isIt_17, r_X9_isIt_18, r_X9_isIt_19, r_X9_isIt_20, r_X9_isIt_23, r_X9_isIt_26, r_X9_isIt_28, r_X9_isIt_29, r_X9_isIt_30, r_X9_isIt_33, r_X9_isIt_36, r_X9_isIt_39, r_X9_isIt_40, r_X9_isIt_41, r_X9_isIt_43, r_X9_isIt_44, r_X9_isIt_46, r_X9_isIt_47, ↓reduceIte, Option.isSome_some, Option.getD_some, rL_v, rL_n, cH_s, List.cons_append, List.nil_append, cat_i, cat_r, cat_n, ofN, c_mTenth, c_in, ite_bI, hx, hz, hw, hy, and_self]
            exact c
        · have hy2 : ¬ (y = nI 0 ∨ y = nI 1) := fun e => hy (in01.mpr e)
          refine OpV.read (r := .long (-1000000002)) hI (fun h hr => ?_) (fun h hr => ?_)
          · show Run M_X8_isIt 0 [.ref 1, .int x, .int z, .int w, .int y, .null, .null, .null, .null, .null, .null] [] h = _
            simp only [r_X8_isIt_0, r_X8_isIt_1, r_X8_isIt_4, r_X8_isIt_7, r_X8_isIt_8, r_X8_isIt_9, r_X8_isIt_11, r_X8_isIt_14, r_X8_isIt_17, r_X8_isIt_18, r_X8_isIt_19, r_X8_isIt_20, r_X8_isIt_23, r_X8_isIt_26, r_X8_isIt_28, r_X8_isIt_31, r_X8_isIt_34, r_X8_isIt_37, ↓reduceIte, Option.isSome_some, Option.getD_some, rL_v, rL_n, cH_s, List.cons_append, List.nil_append, cat_i, cat_r, cat_n, ofN, c_isTenth, c_within, c_isSide, ite_bI, hx, hz, hw, and_self, hy2]
          · show Run M_X9_isIt 0 [.ref 88, .int x, .int z, .int w, .int y, .null, .null, .null, .null, .null, .null, .null, .null, .null] [] h = _
            simp only [r_X9_isIt_0, r_X9_isIt_1, r_X9_isIt_4, r_X9_isIt_7, r_X9_isIt_8, r_X9_isIt_9, r_X9_isIt_11, r_X9_isIt_14, r_X9_isIt_17, r_X9_isIt_18, r_X9_isIt_19, r_X9_isIt_20, r_X9_isIt_23, r_X9_isIt_26, r_X9_isIt_28, r_X9_isIt_29, r_X9_isIt_30, r_X9_isIt_33, r_X9_isIt_36, r_X9_isIt_39, ↓reduceIte, Option.isSome_some, Option.getD_some, rL_v, rL_n, cH_s, List.cons_append, List.nil_append, cat_i, cat_r, cat_n, ofN, c_mTenth, c_in, ite_bI, hx, hz, hw, hy, and_self]
      · refine OpV.read (r := .long (-1000000002)) hI (fun h hr => ?_) (fun h hr => ?_)
        · show Run M_X8_isIt 0 [.ref 1, .int x, .int z, .int w, .int y, .null, .null, .null, .null, .null, .null] [] h = _
          simp only [r_X8_isIt_0, r_X8_isIt_1, r_X8_isIt_4, r_X8_isIt_7, r_X8_isIt_8, r_X8_isIt_9, r_X8_isIt_11, r_X8_isIt_14, r_X8_isIt_17, r_X8_isIt_18, r_X8_isIt_19, r_X8_isIt_20, r_X8_isIt_23, r_X8_isIt_26, r_X8_isIt_28, r_X8_isIt_31, r_X8_isIt_34, r_X8_isIt_37, ↓reduceIte, Option.isSome_some, Option.getD_some, rL_v, rL_n, cH_s, List.cons_append, List.nil_append, cat_i, cat_r, cat_n, ofN, c_isTenth, c_within, ite_bI, hx, hz, hw, and_self]
        · show Run M_X9_isIt 0 [.ref 88, .int x, .int z, .int w, .int y, .null, .null, .null, .null, .null, .null, .null, .null, .null] [] h = _
          simp only [r_X9_isIt_0, r_X9_isIt_1, r_X9_isIt_4, r_X9_isIt_7, r_X9_isIt_8, r_X9_isIt_9, r_X9_isIt_11, r_X9_isIt_14, r_X9_isIt_17, r_X9_isIt_18, r_X9_isIt_19, r_X9_isIt_20, r_X9_isIt_23, r_X9_isIt_26, r_X9_isIt_28, r_X9_isIt_29, r_X9_isIt_30, r_X9_isIt_33, r_X9_isIt_36, r_X9_isIt_39, ↓reduceIte, Option.isSome_some, Option.getD_some, rL_v, rL_n, cH_s, List.cons_append, List.nil_append, cat_i, cat_r, cat_n, ofN, c_mTenth, c_in, ite_bI, hx, hz, hw, and_self]
    · refine OpV.read (r := .long (-1000000002)) hI (fun h hr => ?_) (fun h hr => ?_)
      · show Run M_X8_isIt 0 [.ref 1, .int x, .int z, .int w, .int y, .null, .null, .null, .null, .null, .null] [] h = _
        simp only [r_X8_isIt_0, r_X8_isIt_1, r_X8_isIt_4, r_X8_isIt_7, r_X8_isIt_8, r_X8_isIt_9, r_X8_isIt_11, r_X8_isIt_14, r_X8_isIt_17, r_X8_isIt_18, r_X8_isIt_19, r_X8_isIt_20, r_X8_isIt_23, r_X8_isIt_26, r_X8_isIt_28, r_X8_isIt_31, r_X8_isIt_34, r_X8_isIt_37, ↓reduceIte, Option.isSome_some, Option.getD_some, rL_v, rL_n, cH_s, List.cons_append, List.nil_append, cat_i, cat_r, cat_n, ofN, c_isTenth, c_within, ite_bI, hx, hz, and_self]
      · show Run M_X9_isIt 0 [.ref 88, .int x, .int z, .int w, .int y, .null, .null, .null, .null, .null, .null, .null, .null, .null] [] h = _
        simp only [r_X9_isIt_0, r_X9_isIt_1, r_X9_isIt_4, r_X9_isIt_7, r_X9_isIt_8, r_X9_isIt_9, r_X9_isIt_11, r_X9_isIt_14, r_X9_isIt_17, r_X9_isIt_18, r_X9_isIt_19, r_X9_isIt_20, r_X9_isIt_23, r_X9_isIt_26, r_X9_isIt_28, r_X9_isIt_29, r_X9_isIt_30, r_X9_isIt_33, r_X9_isIt_36, r_X9_isIt_39, ↓reduceIte, Option.isSome_some, Option.getD_some, rL_v, rL_n, cH_s, List.cons_append, List.nil_append, cat_i, cat_r, cat_n, ofN, c_mTenth, c_in, ite_bI, hx, hz, and_self]
  · refine OpV.read (r := .long (-1000000002)) hI (fun h hr => ?_) (fun h hr => ?_)
    · show Run M_X8_isIt 0 [.ref 1, .int x, .int z, .int w, .int y, .null, .null, .null, .null, .null, .null] [] h = _
      simp only [r_X8_isIt_0, r_X8_isIt_1, r_X8_isIt_4, r_X8_isIt_7, r_X8_isIt_8, r_X8_isIt_9, r_X8_isIt_11, r_X8_isIt_14, r_X8_isIt_17, r_X8_isIt_18, r_X8_isIt_19, r_X8_isIt_20, r_X8_isIt_23, r_X8_isIt_26, r_X8_isIt_28, r_X8_isIt_31, r_X8_isIt_34, r_X8_isIt_37, ↓reduceIte, Option.isSome_some, Option.getD_some, rL_v, rL_n, cH_s, List.cons_append, List.nil_append, cat_i, cat_r, cat_n, ofN, c_isTenth, ite_bI, hx]
    · show Run M_X9_isIt 0 [.ref 88, .int x, .int z, .int w, .int y, .null, .null, .null, .null, .null, .null, .null, .null, .null] [] h = _
      simp only [r_X9_isIt_0, r_X9_isIt_1, r_X9_isIt_4, r_X9_isIt_7, r_X9_isIt_8, r_X9_isIt_9, r_X9_isIt_11, r_X9_isIt_14, r_X9_isIt_17, r_X9_isIt_18, r_X9_isIt_19, r_X9_isIt_20, r_X9_isIt_23, r_X9_isIt_26, r_X9_isIt_28, r_X9_isIt_29, r_X9_isIt_30, r_X9_isIt_33, r_X9_isIt_36, r_X9_isIt_39, ↓reduceIte, Option.isSome_some, Option.getD_some, rL_v, rL_n, cH_s, List.cons_append, List.nil_append, cat_i, cat_r, cat_n, ofN, c_mTenth, ite_bI, hx]
