/-! ===== Part: addPlayed, addLeftOut, hasLength, longerThan ===== -/
theorem oPa_ne {so lo ky ct : Int32} {la n : Nat} {f : Nat → Int64} : oPa so lo ky ct la ≠ jA n f := fun h => by cases h
theorem kind_ne {h : AH} {a b : Nat} {c d : AC} (ha : h.2.2 a = some c) (hb : h.2.2 b = some d) (hcd : c ≠ d) : a ≠ b := fun e => by
  subst e; rw [ha] at hb; exact hcd (Option.some.inj hb)
/-- what one LENGTH adds at tenth u -/
def tm (F : Nat → Nat) (w r len u : Nat) : Nat := if len ≤ u ∧ u ≤ r + len ∧ u < 421 then F (u - len) * w else 0
theorem c_addPlayed {h : AH} {a la fa ta : Nat} {so ky : Int32} {lo ct r : Nat} {g : Nat → Int32} {f F G : Nat → Nat} (ha : h.2.2 a = some (oPa so (nI lo) ky (nI ct) la)) (hl : h.2.2 la = some (iA 4 g)) (hg : ∀ i, i < ct → g i = nI (f i)) (hc : ct ≤ 4) (hf : ∀ i, i < ct → f i ≤ 420) (hlo : lo ≤ 8)
    (hfa : h.2.2 fa = some (jA 421 (fun t => lN (F t)))) (hta : h.2.2 ta = some (jA 421 (fun t => lN (G t)))) (hne : fa ≠ ta) (hr : r ≤ 420) (f0 : fa ≠ 0) (t0 : ta ≠ 0) :
    Call M_X6_addPlayed h [.ref a, .ref fa, .ref ta, .int (nI r)] = some (hup h ta (jA 421 (fun u => lN (G u + sm (fun i => tm F (8 - lo) r (f i) u) ct))), none) := by
  show Run M_X6_addPlayed 0 [.ref a, .ref fa, .ref ta, .int (nI r), .null, .null, .null, .null, .null] [] h = _
  -- the inner loop
  have I : ∀ (k t len i : Nat) (H : AH) (G : Nat → Nat), t + k = min (r + 1) (421 - len) → len ≤ 420 → H.2.2 fa = some (jA 421 (fun t => lN (F t))) → H.2.2 ta = some (jA 421 (fun t => lN (G t))) →
      Run M_X6_addPlayed 31 [.ref a, .ref fa, .ref ta, .int (nI r), .long (lN (8 - lo)), .null, .int (nI i), .int (nI len), .int (nI t)] [] H
      = Run M_X6_addPlayed 70 [.ref a, .ref fa, .ref ta, .int (nI r), .long (lN (8 - lo)), .null, .int (nI i), .int (nI len), .int (nI (t + k))] [] (hup H ta (jA 421 (fun u => lN (G u + if t + len ≤ u then tm F (8 - lo) r len u else 0)))) := by
    intro k
    induction k with
    | zero =>
      intro t len i H G hk hlen hF hG
      rw [hup_same (by
        rw [hG]; congr 4; funext u; congr 1
        by_cases h1 : t + len ≤ u
        · rw [if_pos h1]; unfold tm; rw [if_neg (by omega)]; rfl
        · rw [if_neg h1]; rfl)]
      by_cases h1 : r < t
      · have e : nI r < nI t := by rw [nI_lt' (by omega) (by omega)]; exact h1
        simp only [r_X6_addPlayed_31, r_X6_addPlayed_33, r_X6_addPlayed_34, r_X6_addPlayed_37, r_X6_addPlayed_39, r_X6_addPlayed_41, r_X6_addPlayed_42, r_X6_addPlayed_43, r_X6_addPlayed_44, r_X6_addPlayed_47, r_X6_addPlayed_48, r_X6_addPlayed_50, r_X6_addPlayed_52, r_X6_addPlayed_53, r_X6_addPlayed_54, r_X6_addPlayed_55, r_X6_addPlayed_56, r_X6_addPlayed_58, r_X6_addPlayed_59, r_X6_addPlayed_61, r_X6_addPlayed_62, r_X6_addPlayed_63, r_X6_addPlayed_64, r_X6_addPlayed_67, ↓reduceIte, Option.isSome_some, Option.getD_some, rL_v, rL_n, cH_s, List.cons_append, List.nil_append, cat_i, cat_r, cat_n, ofN, e, Nat.add_zero]
      · have e : ¬ nI r < nI t := by rw [nI_lt' (by omega) (by omega)]; exact h1
        have e2 : nI 421 ≤ nI (t + len) := by rw [nI_le' (by omega) (by omega)]; omega
        simp only [r_X6_addPlayed_31, r_X6_addPlayed_33, r_X6_addPlayed_34, r_X6_addPlayed_37, r_X6_addPlayed_39, r_X6_addPlayed_41, r_X6_addPlayed_42, r_X6_addPlayed_43, r_X6_addPlayed_44, r_X6_addPlayed_47, r_X6_addPlayed_48, r_X6_addPlayed_50, r_X6_addPlayed_52, r_X6_addPlayed_53, r_X6_addPlayed_54, r_X6_addPlayed_55, r_X6_addPlayed_56, r_X6_addPlayed_58, r_X6_addPlayed_59, r_X6_addPlayed_61, r_X6_addPlayed_62, r_X6_addPlayed_63, r_X6_addPlayed_64, r_X6_addPlayed_67, ↓reduceIte, Option.isSome_some, Option.getD_some, rL_v, rL_n, cH_s, List.cons_append, List.nil_append, cat_i, cat_r, cat_n, ofN, e, gN_of hG, nI_add, e2, Nat.add_zero]
    | succ k ih =>
      intro t len i H G hk hlen hF hG
      have e : ¬ nI r < nI t := by rw [nI_lt' (by omega) (by omega)]; omega
      have e2 : ¬ nI 421 ≤ nI (t + len) := by rw [nI_le' (by omega) (by omega)]; omega
      rw [r_X6_addPlayed_31]
      simp only [r_X6_addPlayed_33, r_X6_addPlayed_34, r_X6_addPlayed_37, r_X6_addPlayed_39, r_X6_addPlayed_41, r_X6_addPlayed_42, r_X6_addPlayed_43, r_X6_addPlayed_44, r_X6_addPlayed_47, r_X6_addPlayed_48, r_X6_addPlayed_50, r_X6_addPlayed_52, r_X6_addPlayed_53, r_X6_addPlayed_54, r_X6_addPlayed_55, r_X6_addPlayed_56, r_X6_addPlayed_58, r_X6_addPlayed_59, r_X6_addPlayed_61, r_X6_addPlayed_62, r_X6_addPlayed_63, r_X6_addPlayed_64, r_X6_addPlayed_67, ↓reduceIte, Option.isSome_some, Option.getD_some, rL_v, rL_n, cH_s, List.cons_append, List.nil_append, cat_i, cat_r, cat_n, ofN, e, gN_of hG, nI_add, e2, gJ_nI hG (by decide) t0 (show t + len < 421 by omega), gJ_nI hF (by decide) f0 (show t < 421 by omega), lN_mul, lN_add, pJ_nI hG (by decide) t0 (show t + len < 421 by omega), updL_lN]
      rw [ih (t + 1) len i _ _ (by omega) hlen (by rw [hup_ne hne]; exact hF) hup_get, hup_hup]
      rw [show t + 1 + k = t + (k + 1) by omega]
      congr 4
      funext u
      congr 1
      unfold va_up
      by_cases h1 : u = t + len
      · subst h1
        rw [if_pos rfl, if_neg (by omega), if_pos (by omega)]
        unfold tm
        rw [if_pos (by omega), Nat.add_sub_cancel, Nat.add_zero]
      · rw [if_neg h1]
        by_cases h2 : t + 1 + len ≤ u
        · rw [if_pos h2, if_pos (by omega)]
        · rw [if_neg h2, if_neg (by omega)]
  have O : ∀ (k i : Nat) (H : AH) (G : Nat → Nat) (x7 x8 : Value), i + k = ct → H.2.2 a = some (oPa so (nI lo) ky (nI ct) la) → H.2.2 la = some (iA 4 g) → H.2.2 fa = some (jA 421 (fun t => lN (F t))) → H.2.2 ta = some (jA 421 (fun t => lN (G t))) →
      Run M_X6_addPlayed 10 [.ref a, .ref fa, .ref ta, .int (nI r), .long (lN (8 - lo)), .null, .int (nI i), x7, x8] [] H = some (hup H ta (jA 421 (fun u => lN (G u + sm (fun j => tm F (8 - lo) r (f (i + j)) u) k))), none) := by
    intro k
    induction k with
    | zero =>
      intro i H G x7 x8 hi hA hLa hF hG
      have e : i = ct := by omega
      subst e
      simp only [r_X6_addPlayed_0, r_X6_addPlayed_1, r_X6_addPlayed_4, r_X6_addPlayed_5, r_X6_addPlayed_7, r_X6_addPlayed_8, r_X6_addPlayed_10, r_X6_addPlayed_12, r_X6_addPlayed_13, r_X6_addPlayed_16, r_X6_addPlayed_19, r_X6_addPlayed_20, r_X6_addPlayed_23, r_X6_addPlayed_25, r_X6_addPlayed_26, r_X6_addPlayed_28, r_X6_addPlayed_29, r_X6_addPlayed_31, r_X6_addPlayed_33, r_X6_addPlayed_34, r_X6_addPlayed_37, r_X6_addPlayed_39, r_X6_addPlayed_41, r_X6_addPlayed_42, r_X6_addPlayed_43, r_X6_addPlayed_44, r_X6_addPlayed_47, r_X6_addPlayed_48, r_X6_addPlayed_50, r_X6_addPlayed_52, r_X6_addPlayed_53, r_X6_addPlayed_54, r_X6_addPlayed_55, r_X6_addPlayed_56, r_X6_addPlayed_58, r_X6_addPlayed_59, r_X6_addPlayed_61, r_X6_addPlayed_62, r_X6_addPlayed_63, r_X6_addPlayed_64, r_X6_addPlayed_67, r_X6_addPlayed_70, r_X6_addPlayed_73, r_X6_addPlayed_76, ↓reduceIte, Option.isSome_some, Option.getD_some, rL_v, rL_n, cH_s, List.cons_append, List.nil_append, cat_i, cat_r, cat_n, ofN, g6_0 hA, g6_1 hA, g6_2 hA, g6_3 hA, g6_4 hA, ro6 hA, Int32.le_refl]
      rw [hup_same]
      rw [hG]; rfl
    | succ k ih =>
      intro i H G x7 x8 hi hA hLa hF hG
      have e : ¬ nI ct ≤ nI i := by rw [nI_le' (by omega) (by omega)]; omega
      have hfi := hf i (by omega)
      rw [r_X6_addPlayed_10]
      simp only [r_X6_addPlayed_12, r_X6_addPlayed_13, r_X6_addPlayed_16, r_X6_addPlayed_19, r_X6_addPlayed_20, r_X6_addPlayed_23, r_X6_addPlayed_25, r_X6_addPlayed_26, r_X6_addPlayed_28, r_X6_addPlayed_29, ↓reduceIte, Option.isSome_some, Option.getD_some, rL_v, rL_n, cH_s, List.cons_append, List.nil_append, cat_i, cat_r, cat_n, ofN, g6_0 hA, g6_1 hA, g6_2 hA, g6_3 hA, g6_4 hA, ro6 hA, e, gI_nI hLa (by decide) (show i < 4 by omega), hg i (by omega)]
      rw [I (min (r + 1) (421 - f i)) 0 (f i) i H G (by omega) hfi hF hG]
      simp only [r_X6_addPlayed_70, r_X6_addPlayed_73, ↓reduceIte, Option.isSome_some, Option.getD_some, rL_v, rL_n, cH_s, List.cons_append, List.nil_append, cat_i, cat_r, cat_n, ofN, nI_add]
      have n1 : a ≠ ta := kind_ne hA hG oPa_ne
      have n2 : la ≠ ta := kind_ne hLa hG (fun h => by cases h)
      rw [ih (i + 1) _ _ _ _ (by omega) (by rw [hup_ne n1]; exact hA) (by rw [hup_ne n2]; exact hLa) (by rw [hup_ne hne]; exact hF) hup_get, hup_hup]
      congr 4
      funext u
      congr 1
      rw [sm_shift, Nat.add_assoc]
      congr 1
      congr 1
      · unfold tm
        by_cases h1 : f i ≤ u
        · rw [if_pos (by omega)]; rfl
        · rw [if_neg (by omega), if_neg (by rw [Nat.add_zero]; omega)]
      · exact sm_congr k (fun j _ => by rw [show i + 1 + j = i + (j + 1) by omega])
  have e8 : (nI (8 - lo)).toInt64 = lN (8 - lo) := nI_l (by omega)
  simp only [r_X6_addPlayed_0, r_X6_addPlayed_1, r_X6_addPlayed_4, r_X6_addPlayed_5, r_X6_addPlayed_7, r_X6_addPlayed_8, ↓reduceIte, Option.isSome_some, Option.getD_some, rL_v, rL_n, cH_s, List.cons_append, List.nil_append, cat_i, cat_r, cat_n, ofN, g6_0 ha, g6_1 ha, g6_2 ha, g6_3 ha, g6_4 ha, ro6 ha, c_playedOf8 ha hlo, e8]
  rw [O ct 0 h G _ _ (by omega) ha hl hfa hta]
  simp only [Nat.zero_add]
theorem c_addLeftOut {h : AH} {a la fa ta : Nat} {so ky : Int32} {lo ct r : Nat} {F G : Nat → Nat} (ha : h.2.2 a = some (oPa so (nI lo) ky (nI ct) la)) (hc : ct ≤ 1000) (hlo : lo ≤ 1000)
    (hfa : h.2.2 fa = some (jA 421 (fun t => lN (F t)))) (hta : h.2.2 ta = some (jA 421 (fun t => lN (G t)))) (hne : fa ≠ ta) (hr : r ≤ 420) (f0 : fa ≠ 0) (t0 : ta ≠ 0) :
    Call M_X6_addLeftOut h [.ref a, .ref fa, .ref ta, .int (nI r)] = some (hup h ta (jA 421 (fun u => lN (G u + if u ≤ r then F u * (lo * ct) else 0))), none) := by
  show Run M_X6_addLeftOut 0 [.ref a, .ref fa, .ref ta, .int (nI r), .null, .null, .null] [] h = _
  have I : ∀ (k t : Nat) (H : AH) (G : Nat → Nat), t + k = r + 1 → H.2.2 fa = some (jA 421 (fun t => lN (F t))) → H.2.2 ta = some (jA 421 (fun t => lN (G t))) →
      Run M_X6_addLeftOut 16 [.ref a, .ref fa, .ref ta, .int (nI r), .long (lN (lo * ct)), .null, .int (nI t)] [] H = some (hup H ta (jA 421 (fun u => lN (G u + if t ≤ u ∧ u ≤ r then F u * (lo * ct) else 0))), none) := by
    intro k
    induction k with
    | zero =>
      intro t H G hk hF hG
      rw [hup_same (by rw [hG]; congr 4; funext u; congr 1; rw [if_neg (by omega)]; rfl)]
      have e : nI r < nI t := by rw [nI_lt' (by omega) (by omega)]; omega
      simp only [r_X6_addLeftOut_0, r_X6_addLeftOut_1, r_X6_addLeftOut_4, r_X6_addLeftOut_5, r_X6_addLeftOut_6, r_X6_addLeftOut_9, r_X6_addLeftOut_10, r_X6_addLeftOut_11, r_X6_addLeftOut_13, r_X6_addLeftOut_14, r_X6_addLeftOut_16, r_X6_addLeftOut_18, r_X6_addLeftOut_19, r_X6_addLeftOut_22, r_X6_addLeftOut_24, r_X6_addLeftOut_25, r_X6_addLeftOut_26, r_X6_addLeftOut_29, r_X6_addLeftOut_30, r_X6_addLeftOut_32, r_X6_addLeftOut_33, r_X6_addLeftOut_34, r_X6_addLeftOut_35, r_X6_addLeftOut_37, r_X6_addLeftOut_38, r_X6_addLeftOut_40, r_X6_addLeftOut_41, r_X6_addLeftOut_42, r_X6_addLeftOut_43, r_X6_addLeftOut_46, r_X6_addLeftOut_49, ↓reduceIte, Option.isSome_some, Option.getD_some, rL_v, rL_n, cH_s, List.cons_append, List.nil_append, cat_i, cat_r, cat_n, ofN, e]
    | succ k ih =>
      intro t H G hk hF hG
      have e : ¬ nI r < nI t := by rw [nI_lt' (by omega) (by omega)]; omega
      have e2 : ¬ nI 421 ≤ nI t := by rw [nI_le' (by omega) (by omega)]; omega
      rw [r_X6_addLeftOut_16]
      simp only [r_X6_addLeftOut_18, r_X6_addLeftOut_19, r_X6_addLeftOut_22, r_X6_addLeftOut_24, r_X6_addLeftOut_25, r_X6_addLeftOut_26, r_X6_addLeftOut_29, r_X6_addLeftOut_30, r_X6_addLeftOut_32, r_X6_addLeftOut_33, r_X6_addLeftOut_34, r_X6_addLeftOut_35, r_X6_addLeftOut_37, r_X6_addLeftOut_38, r_X6_addLeftOut_40, r_X6_addLeftOut_41, r_X6_addLeftOut_42, r_X6_addLeftOut_43, r_X6_addLeftOut_46, r_X6_addLeftOut_49, ↓reduceIte, Option.isSome_some, Option.getD_some, rL_v, rL_n, cH_s, List.cons_append, List.nil_append, cat_i, cat_r, cat_n, ofN, e, gN_of hG, e2, gJ_nI hG (by decide) t0 (show t < 421 by omega), gJ_nI hF (by decide) f0 (show t < 421 by omega), lN_mul, lN_add, nI_add, pJ_nI hG (by decide) t0 (show t < 421 by omega), updL_lN]
      rw [ih (t + 1) _ _ (by omega) (by rw [hup_ne hne]; exact hF) hup_get, hup_hup]
      congr 4
      funext u
      congr 1
      unfold va_up
      by_cases h1 : u = t
      · subst h1
        rw [if_pos rfl, if_neg (by omega), if_pos (by omega), Nat.add_zero]
      · rw [if_neg h1]
        by_cases h2 : t + 1 ≤ u ∧ u ≤ r
        · rw [if_pos h2, if_pos (by omega)]
        · rw [if_neg h2, if_neg (by omega)]
  have e8 : (nI lo).toInt64 = lN lo := nI_l (by omega)
  have e9 : (nI ct).toInt64 = lN ct := nI_l (by omega)
  simp only [r_X6_addLeftOut_0, r_X6_addLeftOut_1, r_X6_addLeftOut_4, r_X6_addLeftOut_5, r_X6_addLeftOut_6, r_X6_addLeftOut_9, r_X6_addLeftOut_10, r_X6_addLeftOut_11, r_X6_addLeftOut_13, r_X6_addLeftOut_14, ↓reduceIte, Option.isSome_some, Option.getD_some, rL_v, rL_n, cH_s, List.cons_append, List.nil_append, cat_i, cat_r, cat_n, ofN, g6_0 ha, g6_1 ha, g6_2 ha, g6_3 ha, g6_4 ha, ro6 ha, e8, e9, lN_mul]
  rw [I (r + 1) 0 h G (by omega) hfa hta]
  simp only [Nat.zero_le, true_and]
/-- is x among the first c -/
def hasL (f : Nat → Nat) (c x : Nat) : Prop := ∃ i, i < c ∧ f i = x
theorem c_hasLength {h : AH} {a la : Nat} {so lo ky : Int32} {ct x : Nat} {g : Nat → Int32} {f : Nat → Nat} (ha : h.2.2 a = some (oPa so lo ky (nI ct) la)) (hl : h.2.2 la = some (iA 4 g)) (hg : ∀ i, i < ct → g i = nI (f i)) (hc : ct ≤ 4) (hf : ∀ i, i < ct → f i < 2147483648) (hx : x < 2147483648) [Decidable (hasL f ct x)] :
    Call M_X6_hasLength h [.ref a, .int (nI x)] = some (h, some (.int (bI (hasL f ct x)))) := by
  show Run M_X6_hasLength 0 [.ref a, .int (nI x), .null] [] h = _
  have L : ∀ k i, i + k = ct → (∀ j, j < i → f j ≠ x) → Run M_X6_hasLength 2 [.ref a, .int (nI x), .int (nI i)] [] h = some (h, some (.int (bI (hasL f ct x)))) := by
    intro k
    induction k with
    | zero =>
      intro i hi hno
      have e : i = ct := by omega
      subst e
      simp only [r_X6_hasLength_0, r_X6_hasLength_1, r_X6_hasLength_2, r_X6_hasLength_3, r_X6_hasLength_4, r_X6_hasLength_7, r_X6_hasLength_10, r_X6_hasLength_11, r_X6_hasLength_14, r_X6_hasLength_15, r_X6_hasLength_16, r_X6_hasLength_17, r_X6_hasLength_20, r_X6_hasLength_21_0, r_X6_hasLength_21_1, r_X6_hasLength_21_c, r_X6_hasLength_22, r_X6_hasLength_25, r_X6_hasLength_28, r_X6_hasLength_29_0, r_X6_hasLength_29_1, r_X6_hasLength_29_c, ↓reduceIte, Option.isSome_some, Option.getD_some, rL_v, rL_n, cH_s, List.cons_append, List.nil_append, cat_i, cat_r, cat_n, ofN, g6_0 ha, g6_1 ha, g6_2 ha, g6_3 ha, g6_4 ha, ro6 ha, Int32.le_refl]
      rw [bI_f (fun ⟨j, h1, h2⟩ => hno j h1 h2)]
    | succ k ih =>
      intro i hi hno
      have h1 : i < ct := by omega
      have e : ¬ nI ct ≤ nI i := by rw [nI_le' (by omega) (by omega)]; omega
      rw [r_X6_hasLength_2]
      simp only [r_X6_hasLength_0, r_X6_hasLength_1, r_X6_hasLength_3, r_X6_hasLength_4, r_X6_hasLength_7, r_X6_hasLength_10, r_X6_hasLength_11, r_X6_hasLength_14, r_X6_hasLength_15, r_X6_hasLength_16, r_X6_hasLength_17, r_X6_hasLength_20, r_X6_hasLength_21_0, r_X6_hasLength_21_1, r_X6_hasLength_21_c, r_X6_hasLength_22, r_X6_hasLength_25, r_X6_hasLength_28, r_X6_hasLength_29_0, r_X6_hasLength_29_1, r_X6_hasLength_29_c, ↓reduceIte, Option.isSome_some, Option.getD_some, rL_v, rL_n, cH_s, List.cons_append, List.nil_append, cat_i, cat_r, cat_n, ofN, g6_0 ha, g6_1 ha, g6_2 ha, g6_3 ha, g6_4 ha, ro6 ha, e, gI_nI hl (by decide) (show i < 4 by omega), hg i h1, nI_inj (hf i h1) hx, nI_add]
      by_cases h2 : f i = x
      · rw [if_pos h2, bI_t ⟨i, h1, h2⟩]
      · rw [if_neg h2]
        exact ih (i + 1) (by omega) (fun j hj => by
          by_cases h3 : j = i
          · subst h3; exact h2
          · exact hno j (by omega))
  simp only [r_X6_hasLength_0, r_X6_hasLength_1, ↓reduceIte, Option.isSome_some, Option.getD_some, rL_v, rL_n, cH_s, List.cons_append, List.nil_append, cat_i, cat_r, cat_n, ofN]
  exact L ct 0 (by omega) (fun j hj => by omega)
/-- how many of the first c are more than x -/
def moreL (f : Nat → Nat) (x c : Nat) : Nat := sm (fun i => if x < f i then 1 else 0) c
theorem c_longerThan {h : AH} {a la : Nat} {so lo ky : Int32} {ct x : Nat} {g : Nat → Int32} {f : Nat → Nat} (ha : h.2.2 a = some (oPa so lo ky (nI ct) la)) (hl : h.2.2 la = some (iA 4 g)) (hg : ∀ i, i < ct → g i = nI (f i)) (hc : ct ≤ 4) (hf : ∀ i, i < ct → f i < 2147483648) (hx : x < 2147483648) :
    Call M_X6_longerThan h [.ref a, .int (nI x)] = some (h, some (.int (nI (moreL f x ct)))) := by
  show Run M_X6_longerThan 0 [.ref a, .int (nI x), .null, .null] [] h = _
  have L : ∀ k i, i + k = ct → Run M_X6_longerThan 4 [.ref a, .int (nI x), .int (nI (moreL f x i)), .int (nI i)] [] h = some (h, some (.int (nI (moreL f x ct)))) := by
    intro k
    induction k with
    | zero =>
      intro i hi
      have e : i = ct := by omega
      subst e
      simp only [r_X6_longerThan_0, r_X6_longerThan_1, r_X6_longerThan_2, r_X6_longerThan_3, r_X6_longerThan_4, r_X6_longerThan_5, r_X6_longerThan_6, r_X6_longerThan_9, r_X6_longerThan_12, r_X6_longerThan_13, r_X6_longerThan_16, r_X6_longerThan_17, r_X6_longerThan_18, r_X6_longerThan_19, r_X6_longerThan_22, r_X6_longerThan_25, r_X6_longerThan_28, r_X6_longerThan_31, r_X6_longerThan_32, ↓reduceIte, Option.isSome_some, Option.getD_some, rL_v, rL_n, cH_s, List.cons_append, List.nil_append, cat_i, cat_r, cat_n, ofN, g6_0 ha, g6_1 ha, g6_2 ha, g6_3 ha, g6_4 ha, ro6 ha, Int32.le_refl]
    | succ k ih =>
      intro i hi
      have h1 : i < ct := by omega
      have e : ¬ nI ct ≤ nI i := by rw [nI_le' (by omega) (by omega)]; omega
      have := ih (i + 1) (by omega)
      rw [r_X6_longerThan_4]
      simp only [r_X6_longerThan_0, r_X6_longerThan_1, r_X6_longerThan_2, r_X6_longerThan_3, r_X6_longerThan_5, r_X6_longerThan_6, r_X6_longerThan_9, r_X6_longerThan_12, r_X6_longerThan_13, r_X6_longerThan_16, r_X6_longerThan_17, r_X6_longerThan_18, r_X6_longerThan_19, r_X6_longerThan_22, r_X6_longerThan_25, r_X6_longerThan_28, r_X6_longerThan_31, r_X6_longerThan_32, ↓reduceIte, Option.isSome_some, Option.getD_some, rL_v, rL_n, cH_s, List.cons_append, List.nil_append, cat_i, cat_r, cat_n, ofN, g6_0 ha, g6_1 ha, g6_2 ha, g6_3 ha, g6_4 ha, ro6 ha, e, gI_nI hl (by decide) (show i < 4 by omega), hg i h1, nI_le' (hf i h1) hx, nI_add]
      by_cases h2 : f i ≤ x
      · have em : moreL f x (i + 1) = moreL f x i := by simp [moreL, sm, h2]
        rw [if_pos h2, ← this, em]
      · have em : moreL f x (i + 1) = moreL f x i + 1 := by simp [moreL, sm]; omega
        rw [if_neg h2, ← this, em]
  simp only [r_X6_longerThan_0, r_X6_longerThan_1, r_X6_longerThan_2, r_X6_longerThan_3, ↓reduceIte, Option.isSome_some, Option.getD_some, rL_v, rL_n, cH_s, List.cons_append, List.nil_append, cat_i, cat_r, cat_n, ofN]
  exact L ct 0 (by omega)
