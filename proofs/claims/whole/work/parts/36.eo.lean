/-! ===== lowest terms ===== -/
theorem cmp_lt {x y : Int64} : (lg_cmp x y < nI 0) = (x < y) := propext (lg_cmp_lt x y)
theorem cmp_le {x y : Int64} : (lg_cmp x y ≤ nI 0) = (x ≤ y) := propext (lg_cmp_le x y)
theorem cmp_gt {x y : Int64} : (nI 0 < lg_cmp x y) = (y < x) := propext (lg_cmp_gt x y)
theorem cmp_ge {x y : Int64} : (nI 0 ≤ lg_cmp x y) = (y ≤ x) := propext (lg_cmp_ge x y)
theorem cmp_eq {x y : Int64} : (lg_cmp x y = nI 0) = (x = y) := propext (lg_cmp_eq x y)
theorem lN_lt' {a b : Nat} (ha : a < 9223372036854775808) (hb : b < 9223372036854775808) : (lN a < lN b) = (a < b) := propext (pk_lLT ha hb)
theorem lN_le' {a b : Nat} (ha : a < 9223372036854775808) (hb : b < 9223372036854775808) : (lN a ≤ lN b) = (a ≤ b) := propext (pk_lLE ha hb)
theorem lN_inj {a b : Nat} (ha : a < 9223372036854775808) (hb : b < 9223372036854775808) : (lN a = lN b) = (a = b) := propext (pk_lEQ ha hb)
theorem lN_rem {a b : Nat} (ha : a < 9223372036854775808) (h0 : 0 < b) (hb : b < 9223372036854775808) : lN a - lN a / lN b * lN b = lN (a % b) := pk_lRem ha h0 hb
theorem lN_div {a b : Nat} (ha : a < 9223372036854775808) (h0 : 0 < b) (hb : b < 9223372036854775808) : lN a / lN b = lN (a / b) := pk_lDiv ha h0 hb
/-- part q of a over b in lowest terms -/
def low (a b q : Nat) : Nat := (if q = 0 then a else b) / Nat.gcd b a
theorem c_commonDivisor {h : AH} {a b : Nat} (ha : a < 9223372036854775808) (hb : b < 9223372036854775808) : Call M_X8_commonDivisor h [.long (lN a), .long (lN b)] = some (h, some (.long (lN (Nat.gcd b a)))) := by
  show Run M_X8_commonDivisor 0 [.long (lN a), .null, .long (lN b), .null, .null, .null, .null, .null, .null, .null, .null] [] h = _
  have E : ∀ (a b s : Nat) (x9 x10 : Value) (u v : Int64), a < 9223372036854775808 → b = 0 → s < 200 → Run M_X8_commonDivisor 9 [.long u, .null, .long v, .null, .long (lN a), .null, .long (lN b), .null, .int (nI s), x9, x10] [] h = some (h, some (.long (lN (Nat.gcd b a)))) := by
    intro a b s x9 x10 u v ha hb hs
    subst hb
    have q : ¬ nI 200 ≤ nI s := by rw [nI_le' (by omega) (by omega)]; omega
    simp only [r_X8_commonDivisor_0, r_X8_commonDivisor_1, r_X8_commonDivisor_3, r_X8_commonDivisor_4, r_X8_commonDivisor_6, r_X8_commonDivisor_7, r_X8_commonDivisor_9, r_X8_commonDivisor_11, r_X8_commonDivisor_14, r_X8_commonDivisor_17, r_X8_commonDivisor_19, r_X8_commonDivisor_20, r_X8_commonDivisor_21, r_X8_commonDivisor_24, r_X8_commonDivisor_26, r_X8_commonDivisor_28, r_X8_commonDivisor_29, r_X8_commonDivisor_31, r_X8_commonDivisor_33, r_X8_commonDivisor_35, r_X8_commonDivisor_37, r_X8_commonDivisor_39, r_X8_commonDivisor_42, r_X8_commonDivisor_45, r_X8_commonDivisor_47, ↓reduceIte, Option.isSome_some, Option.getD_some, rL_v, rL_n, cH_s, List.cons_append, List.nil_append, cat_i, cat_r, cat_n, ofN, q, cmp_eq, Nat.gcd_zero_left]
  have T : ∀ (a b s : Nat) (x9 x10 : Value) (u v : Int64), a < 9223372036854775808 → b < 9223372036854775808 → 0 < b → s < 200 → Run M_X8_commonDivisor 9 [.long u, .null, .long v, .null, .long (lN a), .null, .long (lN b), .null, .int (nI s), x9, x10] [] h = Run M_X8_commonDivisor 9 [.long u, .null, .long v, .null, .long (lN b), .null, .long (lN (a % b)), .null, .int (nI (s + 1)), .long (lN (a % b)), .null] [] h := by
    intro a b s x9 x10 u v ha hb h0 hs
    have q : ¬ nI 200 ≤ nI s := by rw [nI_le' (by omega) (by omega)]; omega
    have q2 : ¬ lN b = lN 0 := by rw [lN_inj hb (by decide)]; omega
    rw [r_X8_commonDivisor_9]
    simp only [r_X8_commonDivisor_11, r_X8_commonDivisor_14, r_X8_commonDivisor_17, r_X8_commonDivisor_19, r_X8_commonDivisor_20, r_X8_commonDivisor_21, r_X8_commonDivisor_24, r_X8_commonDivisor_26, r_X8_commonDivisor_28, r_X8_commonDivisor_29, r_X8_commonDivisor_31, r_X8_commonDivisor_33, r_X8_commonDivisor_35, r_X8_commonDivisor_37, r_X8_commonDivisor_39, r_X8_commonDivisor_42, ↓reduceIte, Option.isSome_some, Option.getD_some, rL_v, rL_n, cH_s, List.cons_append, List.nil_append, cat_i, cat_r, cat_n, ofN, q, cmp_eq, q2]
    rw [r_X8_commonDivisor_28 q2]
    simp only [r_X8_commonDivisor_29, r_X8_commonDivisor_31, r_X8_commonDivisor_33, r_X8_commonDivisor_35, r_X8_commonDivisor_37, r_X8_commonDivisor_39, r_X8_commonDivisor_42, ↓reduceIte, Option.isSome_some, Option.getD_some, rL_v, rL_n, cH_s, List.cons_append, List.nil_append, cat_i, cat_r, cat_n, ofN, lN_rem ha h0 hb, nI_add]
  have L : ∀ (n a b s : Nat) (x9 x10 : Value) (u v : Int64), b < 2 ^ n → s + 2 * n + 1 ≤ 200 → a < 9223372036854775808 → b < 9223372036854775808 → Run M_X8_commonDivisor 9 [.long u, .null, .long v, .null, .long (lN a), .null, .long (lN b), .null, .int (nI s), x9, x10] [] h = some (h, some (.long (lN (Nat.gcd b a)))) := by
    intro n
    induction n with
    | zero => intro a b s x9 x10 u v h1 h2 h3 h4; exact E a b s x9 x10 u v h3 (by omega) (by omega)
    | succ n ih =>
      intro a b s x9 x10 u v h1 h2 h3 h4
      by_cases hb0 : b = 0
      · exact E a b s x9 x10 u v h3 hb0 (by omega)
      · have hr : a % b < b := Nat.mod_lt _ (by omega)
        rw [T a b s x9 x10 u v h3 h4 (by omega) (by omega), Nat.gcd_rec b a]
        by_cases hr0 : a % b = 0
        · exact E b (a % b) (s + 1) _ _ u v h4 hr0 (by omega)
        · rw [T b (a % b) (s + 1) _ _ u v h4 (by omega) (by omega) (by omega), Nat.gcd_rec (a % b) b]
          have hlt : b % (a % b) < a % b := Nat.mod_lt _ (by omega)
          refine ih (a % b) (b % (a % b)) (s + 2) _ _ u v ?_ (by omega) (by omega) (by omega)
          have hp : 2 ^ (n + 1) = 2 * 2 ^ n := by rw [Nat.pow_succ]; omega
          by_cases hh : 2 * (a % b) ≤ b
          · omega
          · have : b % (a % b) = b - a % b := by rw [Nat.mod_eq_sub_mod (by omega), Nat.mod_eq_of_lt (by omega)]
            omega
  simp only [r_X8_commonDivisor_0, r_X8_commonDivisor_1, r_X8_commonDivisor_3, r_X8_commonDivisor_4, r_X8_commonDivisor_6, r_X8_commonDivisor_7, ↓reduceIte, Option.isSome_some, Option.getD_some, rL_v, rL_n, cH_s, List.cons_append, List.nil_append, cat_i, cat_r, cat_n, ofN]
  exact L 63 a b 0 _ _ _ _ (by omega) (by decide) ha hb
theorem c_inLowest {h : AH} {a b q : Nat} (ha : a < 9223372036854775808) (hb : b < 9223372036854775808) (h0 : 0 < b) (hq : q < 2) : Call M_X8_inLowest h [.long (lN a), .long (lN b), .int (nI q)] = some (h, some (.long (lN (low a b q)))) := by
  show Run M_X8_inLowest 0 [.long (lN a), .null, .long (lN b), .null, .int (nI q), .null, .null] [] h = _
  have g0 : 0 < Nat.gcd b a := Nat.gcd_pos_of_pos_left _ h0
  have g1 : Nat.gcd b a ≤ b := Nat.gcd_le_left _ h0
  have q2 : ¬ lN (Nat.gcd b a) = lN 0 := by rw [lN_inj (by omega) (by decide)]; omega
  have q3 : (nI q = nI 0) = (q = 0) := nI_inj (by omega) (by decide)
  simp only [r_X8_inLowest_0, r_X8_inLowest_1, r_X8_inLowest_2, r_X8_inLowest_5, r_X8_inLowest_7, r_X8_inLowest_9, r_X8_inLowest_10, r_X8_inLowest_11, r_X8_inLowest_14, r_X8_inLowest_16, r_X8_inLowest_17, r_X8_inLowest_18, r_X8_inLowest_20, r_X8_inLowest_23, r_X8_inLowest_24, r_X8_inLowest_27, r_X8_inLowest_28, ↓reduceIte, Option.isSome_some, Option.getD_some, rL_v, rL_n, cH_s, List.cons_append, List.nil_append, cat_i, cat_r, cat_n, ofN, c_commonDivisor ha hb, cmp_eq, q2, q3]
  unfold low
  by_cases h1 : q = 0
  · rw [if_pos h1, if_pos h1, r_X8_inLowest_30 q2, r_X8_inLowest_31, lN_div ha g0 (by omega)]
  · rw [if_neg h1, if_neg h1, r_X8_inLowest_30 q2, r_X8_inLowest_31, lN_div hb g0 (by omega)]
theorem c_share {h : AH} {a b q : Nat} (ha : a < 9223372036854775808) (hb : b < 9223372036854775808) (h0 : 0 < b) (hq : q < 2) : Call M_X9_share h [.long (lN a), .long (lN b), .int (nI q)] = some (h, some (.long (lN (low a b q)))) := by
  show Run M_X9_share 0 [.long (lN a), .null, .long (lN b), .null, .int (nI q), .null, .null, .null, .null, .null, .null] [] h = _
  have g0 : 0 < Nat.gcd b a := Nat.gcd_pos_of_pos_left _ h0
  have g1 : Nat.gcd b a ≤ b := Nat.gcd_le_left _ h0
  have q2 : ¬ lN (Nat.gcd b a) = 0 := by show ¬ lN (Nat.gcd b a) = lN 0; rw [lN_inj (by omega) (by decide)]; omega
  have q3 : (nI q = nI 0) = (q = 0) := nI_inj (by omega) (by decide)
  have L : ∀ (n x y : Nat) (x9 x10 : Value), y < n → x < 9223372036854775808 → y < 9223372036854775808 → Nat.gcd y x = Nat.gcd b a → Run M_X9_share 6 [.long (lN a), .null, .long (lN b), .null, .int (nI q), .long (lN x), .null, .long (lN y), .null, x9, x10] [] h = some (h, some (.long (lN (low a b q)))) := by
    intro n
    induction n with
    | zero => intro x y x9 x10 hy; omega
    | succ n ih =>
      intro x y x9 x10 hy hx1 hy1 hg
      by_cases hy0 : y = 0
      · subst hy0
        rw [Nat.gcd_zero_left] at hg
        subst hg
        simp only [r_X9_share_6, r_X9_share_8, r_X9_share_9, r_X9_share_10, r_X9_share_13, r_X9_share_15, r_X9_share_17, r_X9_share_18, r_X9_share_20, r_X9_share_22, r_X9_share_24, r_X9_share_26, r_X9_share_28, r_X9_share_31, r_X9_share_33, r_X9_share_36, r_X9_share_37, r_X9_share_40, r_X9_share_41, ↓reduceIte, Option.isSome_some, Option.getD_some, rL_v, rL_n, cH_s, List.cons_append, List.nil_append, cat_i, cat_r, cat_n, ofN, cmp_le, Int64.le_refl, q3]
        unfold low
        by_cases h1 : q = 0
        · rw [if_pos h1, if_pos h1, r_X9_share_43 q2, r_X9_share_44, lN_div ha g0 (by omega)]
        · rw [if_neg h1, if_neg h1, r_X9_share_43 q2, r_X9_share_44, lN_div hb g0 (by omega)]
      · have e1 : ¬ lN y ≤ lN 0 := by rw [lN_le' hy1 (by decide)]; omega
        have e2 : ¬ lN y = 0 := by show ¬ lN y = lN 0; rw [lN_inj hy1 (by decide)]; omega
        have hr : x % y < y := Nat.mod_lt _ (by omega)
        rw [r_X9_share_6]
        simp only [r_X9_share_8, r_X9_share_9, r_X9_share_10, r_X9_share_13, r_X9_share_15, ↓reduceIte, Option.isSome_some, Option.getD_some, rL_v, rL_n, cH_s, List.cons_append, List.nil_append, cat_i, cat_r, cat_n, ofN, cmp_le, e1]
        rw [r_X9_share_17 e2]
        simp only [r_X9_share_18, r_X9_share_20, r_X9_share_22, r_X9_share_24, r_X9_share_26, r_X9_share_28, ↓reduceIte, Option.isSome_some, Option.getD_some, rL_v, rL_n, cH_s, List.cons_append, List.nil_append, cat_i, cat_r, cat_n, ofN, lN_rem hx1 (by omega) hy1]
        exact ih y (x % y) _ _ (by omega) hy1 (by omega) (by rw [← hg, Nat.gcd_rec y x])
  simp only [r_X9_share_0, r_X9_share_1, r_X9_share_3, r_X9_share_4, ↓reduceIte, Option.isSome_some, Option.getD_some, rL_v, rL_n, cH_s, List.cons_append, List.nil_append, cat_i, cat_r, cat_n, ofN]
  exact L (b + 1) a b _ _ (by omega) ha hb rfl
/-! ===== EndOdds, asked ===== -/
abbrev nP (S : SS) : Nat := S 12 0
abbrev En (S : SS) (t : Nat) : Nat := sm (Wt S (S 12 0)) (t + 1)
abbrev Tn (S : SS) (t : Nat) : Nat := sm (fun u => Wt S (S 12 0) u * u) (t + 1)
theorem En_all {S : SS} (hS : HOk S) : En S 420 = Ch S (S 12 0) := Wt_sum hS (S 12 0) (Nat.le_refl _)
theorem Tn_le {S : SS} (hS : HOk S) {t : Nat} (ht : t ≤ 420) : Tn S t ≤ Ch S (S 12 0) * 420 := by
  rw [← En_all hS]
  show sm (fun u => Wt S (S 12 0) u * u) (t + 1) ≤ sm (Wt S (S 12 0)) 421 * 420
  rw [← sm_mul]
  refine Nat.le_trans (sm_le (show t + 1 ≤ 421 by omega)) (sm_mono 421 (fun i hi => Nat.mul_le_mul_left _ (by omega)))
theorem En_le {S : SS} (hS : HOk S) {t : Nat} (ht : t ≤ 420) : En S t ≤ Ch S (S 12 0) := by
  rw [← En_all hS]; exact sm_le (by omega)
theorem c_all {h : AH} {S : SS} (e : EoR h S) : Call M_X2_all h [.ref 4] = some (h, some (.long (lN (En S 420)))) := by
  obtain ⟨e4, -, -, -, ⟨g, e15, e15'⟩, -⟩ := e
  show Run M_X2_all 0 [.ref 4] [] h = _
  simp only [r_X2_all_0, r_X2_all_1, r_X2_all_4, r_X2_all_7, r_X2_all_8, ↓reduceIte, Option.isSome_some, Option.getD_some, rL_v, rL_n, cH_s, List.cons_append, List.nil_append, cat_i, cat_r, cat_n, ofN, g2_0 e4, g2_1 e4, g2_2 e4, g2_3 e4, g2_4 e4, ro2 e4, gJ_nI e15 (by decide) (by decide) (show 420 < 421 by decide), e15' 420 (by decide)]
theorem c_allAhead {h : AH} {S : SS} (e : EoR h S) (hS : HOk S) {p : Nat} (hp : p ≤ S 12 0) : Call M_X2_allAhead h [.ref 4, .int (nI p)] = some (h, some (.long (lN (Ch S p)))) := by
  obtain ⟨e4, -, -, ⟨g, e14, e14'⟩, -, -⟩ := e
  have hn := hS.1
  show Run M_X2_allAhead 0 [.ref 4, .int (nI p)] [] h = _
  have c : nI 0 ≤ nI p ∧ nI p ≤ nI 7 := ⟨by rw [nI_le' (by decide) (by omega)]; omega, by rw [nI_le' (by omega) (by decide)]; omega⟩
  simp only [r_X2_allAhead_0, r_X2_allAhead_1, r_X2_allAhead_2, r_X2_allAhead_4, r_X2_allAhead_7, r_X2_allAhead_10, r_X2_allAhead_11, r_X2_allAhead_14, r_X2_allAhead_15, r_X2_allAhead_16, r_X2_allAhead_19, r_X2_allAhead_20, ↓reduceIte, Option.isSome_some, Option.getD_some, rL_v, rL_n, cH_s, List.cons_append, List.nil_append, cat_i, cat_r, cat_n, ofN, g2_0 e4, g2_1 e4, g2_2 e4, g2_3 e4, g2_4 e4, ro2 e4, c_within, ite_bI, c, and_self, gJ_nI e14 (by decide) (by decide) (show p < 8 by omega), e14' p hp]
theorem c_allBehind {h : AH} {S : SS} (e : EoR h S) (hS : HOk S) {p : Nat} (hp : p < S 12 0) : Call M_X2_allBehind h [.ref 4, .int (nI p)] = some (h, some (.long (lN (En S 420 / Ch S (p + 1))))) := by
  have e4 := e.1
  have hn := hS.1
  show Run M_X2_allBehind 0 [.ref 4, .int (nI p), .null, .null] [] h = _
  have h1 := Ch_pos hS (p + 1) (by omega)
  have h2 := Ch_lt hS (p := p + 1) (by omega)
  have h3 := Ch_lt hS (p := S 12 0) (Nat.le_refl _)
  have h4 := En_all hS
  have q : ¬ lN (Ch S (p + 1)) = lN 0 := by rw [lN_inj (by omega) (by decide)]; omega
  have q' : ¬ lN (Ch S (p + 1)) = 0 := q
  simp only [r_X2_allBehind_0, r_X2_allBehind_1, r_X2_allBehind_2, r_X2_allBehind_3, r_X2_allBehind_4, r_X2_allBehind_7, r_X2_allBehind_8, r_X2_allBehind_9, r_X2_allBehind_10, r_X2_allBehind_11, r_X2_allBehind_14, r_X2_allBehind_15, r_X2_allBehind_18, r_X2_allBehind_19, r_X2_allBehind_22, ↓reduceIte, Option.isSome_some, Option.getD_some, rL_v, rL_n, cH_s, List.cons_append, List.nil_append, cat_i, cat_r, cat_n, ofN, ro2 e4, nI_add, c_allAhead e hS (show p + 1 ≤ S 12 0 by omega), cmp_eq, q, c_all e]
  rw [r_X2_allBehind_23 q', r_X2_allBehind_24, lN_div (by omega) (by omega) (by omega)]
theorem c_beginning {h : AH} {S : SS} (e : EoR h S) (hS : HOk S) {p t : Nat} (hp : p ≤ S 12 0) (ht : t ≤ 420) : Call M_X2_beginning h [.ref 4, .int (nI p), .int (nI t)] = some (h, some (.long (lN (Wt S p t)))) := by
  obtain ⟨e4, ⟨fb, e5, e5'⟩, eR, -⟩ := e
  have hn := hS.1
  obtain ⟨g, b1, b2⟩ := eR p (by omega)
  show Run M_X2_beginning 0 [.ref 4, .int (nI p), .int (nI t)] [] h = _
  have c : nI 0 ≤ nI p ∧ nI p ≤ nI 7 := ⟨by rw [nI_le' (by decide) (by omega)]; omega, by rw [nI_le' (by omega) (by decide)]; omega⟩
  have c2 : nI 0 ≤ nI t ∧ nI t ≤ nI 420 := ⟨by rw [nI_le' (by decide) (by omega)]; omega, by rw [nI_le' (by omega) (by decide)]; omega⟩
  simp only [r_X2_beginning_0, r_X2_beginning_1, r_X2_beginning_2, r_X2_beginning_4, r_X2_beginning_7, r_X2_beginning_10, r_X2_beginning_11, r_X2_beginning_14, r_X2_beginning_17, r_X2_beginning_18, r_X2_beginning_21, r_X2_beginning_22, r_X2_beginning_23, r_X2_beginning_24, r_X2_beginning_25, r_X2_beginning_28, r_X2_beginning_29, ↓reduceIte, Option.isSome_some, Option.getD_some, rL_v, rL_n, cH_s, List.cons_append, List.nil_append, cat_i, cat_r, cat_n, ofN, g2_0 e4, g2_1 e4, g2_2 e4, g2_3 e4, g2_4 e4, ro2 e4, c_within, c_isTenth, ite_bI, c, c2, and_self, gR_nI e5 (Or.inl rfl) (by decide) (by decide) (e5' p (by omega)) (show p < 8 by omega), gJ_nI b1 (by decide) (by omega) (show t < 421 by omega), b2 hp t (by omega)]
theorem c_endingAt {h : AH} {S : SS} (e : EoR h S) (hS : HOk S) {t : Nat} (ht : t ≤ 420) : Call M_X2_endingAt h [.ref 4, .int (nI t)] = some (h, some (.long (lN (Wt S (S 12 0) t)))) := by
  have e4 := e.1
  show Run M_X2_endingAt 0 [.ref 4, .int (nI t)] [] h = _
  simp only [r_X2_endingAt_0, r_X2_endingAt_1, r_X2_endingAt_2, r_X2_endingAt_5, r_X2_endingAt_6, r_X2_endingAt_9, ↓reduceIte, Option.isSome_some, Option.getD_some, rL_v, rL_n, cH_s, List.cons_append, List.nil_append, cat_i, cat_r, cat_n, ofN, g2_0 e4, g2_1 e4, g2_2 e4, g2_3 e4, g2_4 e4, ro2 e4, c_beginning e hS (Nat.le_refl _) ht]
theorem c_endedBy {h : AH} {S : SS} (e : EoR h S) {t : Nat} (ht : t < 2147483648) : Call M_X2_endedBy h [.ref 4, .int (nI t)] = some (h, some (.long (lN (En S (min t 420))))) := by
  obtain ⟨e4, -, -, -, ⟨g, e15, e15'⟩, -⟩ := e
  show Run M_X2_endedBy 0 [.ref 4, .int (nI t)] [] h = _
  have q : nI 0 ≤ nI t := by rw [nI_le' (by decide) ht]; omega
  simp only [r_X2_endedBy_0, r_X2_endedBy_1, r_X2_endedBy_4, r_X2_endedBy_5, r_X2_endedBy_8, r_X2_endedBy_9, r_X2_endedBy_12, r_X2_endedBy_13, r_X2_endedBy_16, r_X2_endedBy_19, r_X2_endedBy_20, ↓reduceIte, Option.isSome_some, Option.getD_some, rL_v, rL_n, cH_s, List.cons_append, List.nil_append, cat_i, cat_r, cat_n, ofN, g2_0 e4, g2_1 e4, g2_2 e4, g2_3 e4, g2_4 e4, ro2 e4, q, c_min ht (show 420 < 2147483648 by decide), gJ_nI e15 (by decide) (by decide) (show min t 420 < 421 by omega), e15' (min t 420) (by omega)]
theorem c_tenthsBy {h : AH} {S : SS} (e : EoR h S) {t : Nat} (ht : t < 2147483648) : Call M_X2_tenthsBy h [.ref 4, .int (nI t)] = some (h, some (.long (lN (Tn S (min t 420))))) := by
  obtain ⟨e4, -, -, -, -, ⟨g, e16, e16'⟩⟩ := e
  show Run M_X2_tenthsBy 0 [.ref 4, .int (nI t)] [] h = _
  have q : nI 0 ≤ nI t := by rw [nI_le' (by decide) ht]; omega
  simp only [r_X2_tenthsBy_0, r_X2_tenthsBy_1, r_X2_tenthsBy_4, r_X2_tenthsBy_5, r_X2_tenthsBy_8, r_X2_tenthsBy_9, r_X2_tenthsBy_12, r_X2_tenthsBy_13, r_X2_tenthsBy_16, r_X2_tenthsBy_19, r_X2_tenthsBy_20, ↓reduceIte, Option.isSome_some, Option.getD_some, rL_v, rL_n, cH_s, List.cons_append, List.nil_append, cat_i, cat_r, cat_n, ofN, g2_0 e4, g2_1 e4, g2_2 e4, g2_3 e4, g2_4 e4, ro2 e4, q, c_min ht (show 420 < 2147483648 by decide), gJ_nI e16 (by decide) (by decide) (show min t 420 < 421 by omega), e16' (min t 420) (by omega)]
/-- the first of k places from i on with w or more, else 420 -/
def fT (f : Nat → Nat) (w : Nat) : Nat → Nat → Nat
  | _, 0 => 420
  | i, k + 1 => if w ≤ f i then i else fT f w (i + 1) k
theorem c_firstTenthWith {h : AH} {S : SS} (e : EoR h S) (hS : HOk S) {w : Nat} (hw : w < 9223372036854775808) : Call M_X2_firstTenthWith h [.ref 4, .long (lN w)] = some (h, some (.int (nI (fT (En S) w 0 420)))) := by
  obtain ⟨e4, -, -, -, ⟨g, e15, e15'⟩, -⟩ := e
  have hl := Ch_lt hS (p := S 12 0) (Nat.le_refl _)
  show Run M_X2_firstTenthWith 0 [.ref 4, .long (lN w), .null, .null] [] h = _
  have L : ∀ k i, i + k = 420 → Run M_X2_firstTenthWith 2 [.ref 4, .long (lN w), .null, .int (nI i)] [] h = some (h, some (.int (nI (fT (En S) w i k)))) := by
    intro k
    induction k with
    | zero =>
      intro i hi
      have e : i = 420 := by omega
      subst e
      simp only [r_X2_firstTenthWith_0, r_X2_firstTenthWith_1, r_X2_firstTenthWith_2, r_X2_firstTenthWith_3, r_X2_firstTenthWith_6, r_X2_firstTenthWith_9, r_X2_firstTenthWith_10, r_X2_firstTenthWith_13, r_X2_firstTenthWith_14, r_X2_firstTenthWith_15, r_X2_firstTenthWith_16, r_X2_firstTenthWith_17, r_X2_firstTenthWith_20, r_X2_firstTenthWith_21, r_X2_firstTenthWith_22, r_X2_firstTenthWith_25, r_X2_firstTenthWith_28, r_X2_firstTenthWith_31, ↓reduceIte, Option.isSome_some, Option.getD_some, rL_v, rL_n, cH_s, List.cons_append, List.nil_append, cat_i, cat_r, cat_n, ofN, Int32.le_refl, fT]
    | succ k ih =>
      intro i hi
      have q : ¬ nI 420 ≤ nI i := by rw [nI_le' (by omega) (by omega)]; omega
      have hE := En_le hS (t := i) (by omega)
      rw [r_X2_firstTenthWith_2]
      simp only [r_X2_firstTenthWith_3, r_X2_firstTenthWith_6, r_X2_firstTenthWith_9, r_X2_firstTenthWith_10, r_X2_firstTenthWith_13, r_X2_firstTenthWith_14, r_X2_firstTenthWith_15, r_X2_firstTenthWith_16, r_X2_firstTenthWith_17, r_X2_firstTenthWith_20, r_X2_firstTenthWith_21, r_X2_firstTenthWith_22, r_X2_firstTenthWith_25, r_X2_firstTenthWith_28, r_X2_firstTenthWith_31, ↓reduceIte, Option.isSome_some, Option.getD_some, rL_v, rL_n, cH_s, List.cons_append, List.nil_append, cat_i, cat_r, cat_n, ofN, g2_0 e4, g2_1 e4, g2_2 e4, g2_3 e4, g2_4 e4, ro2 e4, q, gJ_nI e15 (by decide) (by decide) (show i < 421 by omega), e15' i (by omega), cmp_lt, lN_lt' (show En S i < 9223372036854775808 by omega) hw, nI_add, fT]
      by_cases h1 : En S i < w
      · rw [if_pos h1, if_neg (by omega)]; exact ih (i + 1) (by omega)
      · rw [if_neg h1, if_pos (by omega)]
  simp only [r_X2_firstTenthWith_0, r_X2_firstTenthWith_1, ↓reduceIte, Option.isSome_some, Option.getD_some, rL_v, rL_n, cH_s, List.cons_append, List.nil_append, cat_i, cat_r, cat_n, ofN]
  exact L 420 0 (by omega)
theorem c_cost {h : AH} {S : SS} (e : EoR h S) (hS : HOk S) {ew l a d : Nat} (he : ew < 2147483648) (hl : l < 2147483648) (ha : a ≤ 420) (hd : d ≤ 60) : Call M_X2_cost h [.ref 4, .int (nI ew), .int (nI l), .int (nI a), .int (nI d)] = some (h, some (.long (lN (cst (Wt S (S 12 0)) ew l a d)))) := by
  have e4 := e.1
  show Run M_X2_cost 0 [.ref 4, .int (nI ew), .int (nI l), .int (nI a), .int (nI d), .null, .null, .null, .null, .null] [] h = _
  obtain ⟨m1, m2, m3, m4, m5⟩ := cst_cls (Wt S (S 12 0)) ew l a d ha
  have i1 : (nI a).toInt64 = lN a := nI_l (by omega)
  have i2 : (nI (a + d)).toInt64 = lN (a + d) := nI_l (by omega)
  have i3 : (nI ew).toInt64 = lN ew := nI_l (by omega)
  have i4 : (nI l).toInt64 = lN l := nI_l (by omega)
  have c1 := c_tenthsBy e (t := 420) (by decide)
  have c2 := c_tenthsBy e (t := a) (by omega)
  have c3 := c_endedBy e (t := a) (by omega)
  have c4 := c_endedBy e (t := a + d) (by omega)
  have c5 := c_tenthsBy e (t := a + d) (by omega)
  rw [show min a 420 = a by omega] at c2 c3
  rw [show min 420 420 = 420 by decide] at c1
  have s1 : lN (Tn S 420) - lN (Tn S a) = lN (Tn S 420 - Tn S a) := lN_sub m1
  have s2 : lN (En S 420) - lN (En S a) = lN (En S 420 - En S a) := lN_sub m2
  have s3 : lN (Tn S 420 - Tn S a) - lN (a * (En S 420 - En S a)) = lN (Tn S 420 - Tn S a - a * (En S 420 - En S a)) := lN_sub m3
  have s4 : lN ((a + d) * En S (min (a + d) 420)) - lN (Tn S (min (a + d) 420)) = lN ((a + d) * En S (min (a + d) 420) - Tn S (min (a + d) 420)) := lN_sub m4
  simp only [r_X2_cost_0, r_X2_cost_1, r_X2_cost_4, r_X2_cost_7, r_X2_cost_8, r_X2_cost_9, r_X2_cost_12, r_X2_cost_13, r_X2_cost_14, r_X2_cost_15, r_X2_cost_16, r_X2_cost_19, r_X2_cost_20, r_X2_cost_21, r_X2_cost_24, r_X2_cost_25, r_X2_cost_26, r_X2_cost_27, r_X2_cost_29, r_X2_cost_30, r_X2_cost_32, r_X2_cost_33, r_X2_cost_35, r_X2_cost_37, r_X2_cost_38, r_X2_cost_39, r_X2_cost_41, r_X2_cost_44, r_X2_cost_45, r_X2_cost_46, r_X2_cost_48, r_X2_cost_51, r_X2_cost_52, r_X2_cost_54, r_X2_cost_55, r_X2_cost_56, r_X2_cost_58, r_X2_cost_59, r_X2_cost_60, r_X2_cost_61, r_X2_cost_63, r_X2_cost_64, r_X2_cost_65, ↓reduceIte, Option.isSome_some, Option.getD_some, rL_v, rL_n, cH_s, List.cons_append, List.nil_append, cat_i, cat_r, cat_n, ofN, ro2 e4, c1, c2, c3, c_all e, s1, s2, i1, lN_mul, s3, nI_add, i2, c4, c5, s4, i3, i4, lN_add, m5]
theorem c_cheapest {h : AH} {S : SS} (e : EoR h S) (hS : HOk S) {ew l d : Nat} (he : ew ≤ 20) (hl : l ≤ 20) (hd : d ≤ 60) : Call M_X2_cheapest h [.ref 4, .int (nI ew), .int (nI l), .int (nI d)] = some (h, some (.int (nI (am (fun a => cst (Wt S (S 12 0)) ew l a d) 420)))) := by
  have e4 := e.1
  have hA := Ch_lt hS (p := S 12 0) (Nat.le_refl _)
  have hE : sm (Wt S (S 12 0)) 421 = Ch S (S 12 0) := En_all hS
  have hb : ∀ a, a ≤ 420 → cst (Wt S (S 12 0)) ew l a d < 9223372036854775808 := fun a ha => by
    have := cst_le (Wt S (S 12 0)) he hl ha hd
    rw [hE] at this; omega
  show Run M_X2_cheapest 0 [.ref 4, .int (nI ew), .int (nI l), .int (nI d), .null, .null, .null, .null, .null, .null] [] h = _
  have L : ∀ k i x8 x9, i + k = 420 → Run M_X2_cheapest 16 [.ref 4, .int (nI ew), .int (nI l), .int (nI d), .int (nI (am (fun a => cst (Wt S (S 12 0)) ew l a d) i)), .long (lN (cst (Wt S (S 12 0)) ew l (am (fun a => cst (Wt S (S 12 0)) ew l a d) i) d)), .null, .int (nI (i + 1)), x8, x9] [] h = some (h, some (.int (nI (am (fun a => cst (Wt S (S 12 0)) ew l a d) 420)))) := by
    intro k
    induction k with
    | zero =>
      intro i x8 x9 hi
      have e : i = 420 := by omega
      subst e
      have q : nI 420 < nI (420 + 1) := by decide
      simp only [r_X2_cheapest_0, r_X2_cheapest_1, r_X2_cheapest_3, r_X2_cheapest_4, r_X2_cheapest_5, r_X2_cheapest_6, r_X2_cheapest_7, r_X2_cheapest_8, r_X2_cheapest_11, r_X2_cheapest_13, r_X2_cheapest_14, r_X2_cheapest_16, r_X2_cheapest_18, r_X2_cheapest_21, r_X2_cheapest_24, r_X2_cheapest_25, r_X2_cheapest_26, r_X2_cheapest_27, r_X2_cheapest_29, r_X2_cheapest_30, r_X2_cheapest_33, r_X2_cheapest_35, r_X2_cheapest_37, r_X2_cheapest_39, r_X2_cheapest_40, r_X2_cheapest_43, r_X2_cheapest_45, r_X2_cheapest_47, r_X2_cheapest_49, r_X2_cheapest_51, r_X2_cheapest_54, r_X2_cheapest_57, r_X2_cheapest_59, ↓reduceIte, Option.isSome_some, Option.getD_some, rL_v, rL_n, cH_s, List.cons_append, List.nil_append, cat_i, cat_r, cat_n, ofN, q]
    | succ k ih =>
      intro i x8 x9 hi
      have q : ¬ nI 420 < nI (i + 1) := by rw [nI_lt' (by omega) (by omega)]; omega
      have am1 := am_le (fun a => cst (Wt S (S 12 0)) ew l a d) i
      rw [r_X2_cheapest_16]
      simp only [r_X2_cheapest_18, r_X2_cheapest_21, r_X2_cheapest_24, r_X2_cheapest_25, r_X2_cheapest_26, r_X2_cheapest_27, r_X2_cheapest_29, r_X2_cheapest_30, r_X2_cheapest_33, r_X2_cheapest_35, r_X2_cheapest_37, r_X2_cheapest_39, r_X2_cheapest_40, r_X2_cheapest_43, r_X2_cheapest_45, r_X2_cheapest_47, r_X2_cheapest_49, r_X2_cheapest_51, r_X2_cheapest_54, ↓reduceIte, Option.isSome_some, Option.getD_some, rL_v, rL_n, cH_s, List.cons_append, List.nil_append, cat_i, cat_r, cat_n, ofN, ro2 e4, q, c_cost e hS (show ew < 2147483648 by omega) (show l < 2147483648 by omega) (show i + 1 ≤ 420 by omega) hd, cmp_ge, lN_le' (hb _ (show am (fun a => cst (Wt S (S 12 0)) ew l a d) i ≤ 420 by omega)) (hb (i + 1) (by omega)), nI_add]
      have I := fun y8 y9 => ih (i + 1) y8 y9 (by omega)
      have hs : am (fun a => cst (Wt S (S 12 0)) ew l a d) (i + 1) = if cst (Wt S (S 12 0)) ew l (i + 1) d < cst (Wt S (S 12 0)) ew l (am (fun a => cst (Wt S (S 12 0)) ew l a d) i) d then i + 1 else am (fun a => cst (Wt S (S 12 0)) ew l a d) i := rfl
      by_cases h1 : cst (Wt S (S 12 0)) ew l (i + 1) d < cst (Wt S (S 12 0)) ew l (am (fun a => cst (Wt S (S 12 0)) ew l a d) i) d
      · rw [if_pos h1] at hs
        rw [hs] at I
        rw [if_neg (by omega)]; exact I _ _
      · rw [if_neg h1] at hs
        rw [hs] at I
        rw [if_pos (by omega)]; exact I _ _
  simp only [r_X2_cheapest_0, r_X2_cheapest_1, r_X2_cheapest_3, r_X2_cheapest_4, r_X2_cheapest_5, r_X2_cheapest_6, r_X2_cheapest_7, r_X2_cheapest_8, r_X2_cheapest_11, r_X2_cheapest_13, r_X2_cheapest_14, ↓reduceIte, Option.isSome_some, Option.getD_some, rL_v, rL_n, cH_s, List.cons_append, List.nil_append, cat_i, cat_r, cat_n, ofN, ro2 e4, c_cost e hS (show ew < 2147483648 by omega) (show l < 2147483648 by omega) (show 0 ≤ 420 by omega) hd]
  exact L 420 0 _ _ (by omega)
