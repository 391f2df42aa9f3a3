/-! ===== Part: addPlayed, addLeftOut, hasLength, longerThan ===== -/
theorem oPa_ne {so lo ky ct : Int32} {la n : Nat} {f : Nat → Int64} : oPa so lo ky ct la ≠ jA n f := fun h => by cases h
theorem kind_ne {h : AH} {a b : Nat} {c d : AC} (ha : h.2.2 a = some c) (hb : h.2.2 b = some d) (hcd : c ≠ d) : a ≠ b := fun e => by
  subst e; rw [ha] at hb; exact hcd (Option.some.inj hb)
/-- what one LENGTH adds at tenth u -/
def tm (F : Nat → Nat) (w r len u : Nat) : Nat := if len ≤ u ∧ u ≤ r + len ∧ u < 421 then F (u - len) * w else 0
theorem c_addPlayed {h : AH} {a la fa ta : Nat} {so ky : Int32} {lo ct r : Nat} {g : Nat → Int32} {f F G : Nat → Nat} (ha : h.2.2 a = some (oPa so (nI lo) ky (nI ct) la)) (hl : h.2.2 la = some (iA 4 g)) (hg : ∀ i, i < ct → g i = nI (f i)) (hc : ct ≤ 4) (hf : ∀ i, i < ct → f i ≤ 420) (hlo : lo ≤ 8)
    (hfa : h.2.2 fa = some (jA 421 (fun t => lN (F t)))) (hta : h.2.2 ta = some (jA 421 (fun t => lN (G t)))) (hne : fa ≠ ta) (hr : r ≤ 420) (f0 : fa ≠ 0) (t0 : ta ≠ 0) :
    Call M_X6_addPlayed h [.ref a, .ref fa, .ref ta, .int (nI r)] = some (hup h ta (jA 421 (fun u => lN (G u + sm (fun i => tm F (8 - lo) r (f i) u) ct))), none) := by
  show Run M_X6_addPlayed 0 [.ref a, .ref fa, .ref ta, .int (nI r), .null, .null, .null, .null, .null] [] h = _
  -- the inner loop
  have I : ∀ (k t len i : Nat) (H : AH) (G : Nat → Nat), t + k = min (r + 1) (421 - len) → len ≤ 420 → H.2.2 fa = some (jA 421 (fun t => lN (F t))) → H.2.2 ta = some (jA 421 (fun t => lN (G t))) →
      Run M_X6_addPlayed 31 [.ref a, .ref fa, .ref ta, .int (nI r), .long (lN (8 - lo)), .null, .int (nI i), .int (nI len), .int (nI t)] [] H
      = Run M_X6_addPlayed 70 [.ref a, .ref fa, .ref ta, .int (nI r), .long (lN (8 - lo)), .null, .int (nI i), .int (nI len), .int (nI (t + k))] [] (hup H ta (jA 421 (fun u => lN (G u + if t + len ≤ u then tm F (8 - lo) r len u else 0)))) := by
    intro k
    induction k with
    | zero =>
      intro t len i H G hk hlen hF hG
      rw [hup_same (by
        rw [hG]; congr 4; funext u; congr 1
        by_cases h1 : t + len ≤ u
        · rw [if_pos h1]; unfold tm; rw [if_neg (by omega)]; rfl
        · rw [if_neg h1]; rfl)]
      by_cases h1 : r < t
      · have e : nI r < nI t := by rw [nI_lt' (by omega) (by omega)]; exact h1
        simp only [r_X6_addPlayed_31, r_X6_addPlayed_33, r_X6_addPlayed_34, r_X6_addPlayed_37, r_X6_addPlayed_39, r_X6_addPlayed_41, r_X6_addPlayed_42, r_X6_addPlayed_43, r_X6_addPlayed_44, r_X6_addPlayed_47, r_X6_addPlayed_48, r_X6_addPlayed_50, r_X6_addPlayed_52, r_X6_addPlayed_53, r_X6_addPlayed_54, r_X6_addPlayed_55, r_X6_addPlayed_56, r_X6_addPlayed_58, r_X6_addPlayed_59, r_X6_addPlayed_61, r_X6_addPlayed_62, r_X6_addPlayed_63, r_X6_addPlayed_64, r_X6_addPlayed_67, ↓reduceIte, Option.isSome_some, Option.getD_some, rL_v, rL_n, cH_s, List.cons_append, List.nil_append, cat_i, cat_r, cat_n, ofN, e, Nat.add_zero]
      · have e : ¬ nI r < nI t := by rw [nI_lt' (by omega) (by omega)]; exact h1
        have e2 : nI 421 ≤ nI (t + len) := by rw [nI_le' (by omega) (by omega)]; omega
        simp only [r_X6_addPlayed_31, r_X6_addPlayed_33, r_X6_addPlayed_34, r_X6_addPlayed_37, r_X6_addPlayed_39, r_X6_addPlayed_41, r_X6_addPlayed_42, r_X6_addPlayed_43, r_X6_addPlayed_44, r_X6_addPlayed_47, r_X6_addPlayed_48, r_X6_addPlayed_50, r_X6_addPlayed_52, r_X6_addPlayed_53, r_X6_addPlayed_54, r_X6_addPlayed_55, r_X6_addPlayed_56, r_X6_addPlayed_58, r_X6_addPlayed_59, r_X6_addPlayed_61, r_X6_addPlayed_62, r_X6_addPlayed_63, r_X6_addPlayed_64, r_X6_addPlayed_67, ↓reduceIte, Option.isSome_some, Option.getD_some, rL_v, rL_n, cH_s, List.cons_append, List.nil_append, cat_i, cat_r, cat_n, ofN, e, gN_of hG, nI_add, e2, Nat.add_zero]
    | succ k ih =>
      intro t len i H G hk hlen hF hG
      have e : ¬ nI r < nI t := by rw [nI_lt' (by omega) (by omega)]; omega
      have e2 : ¬ nI 421 ≤ nI (t + len) := by rw [nI_le' (by omega) (by omega)]; omega
      rw [r_X6_addPlayed_31]
      simp only [r_X6_addPlayed_33, r_X6_addPlayed_34, r_X6_addPlayed_37, r_X6_addPlayed_39, r_X6_addPlayed_41, r_X6_addPlayed_42, r_X6_addPlayed_43, r_X6_addPlayed_44, r_X6_addPlayed_47, r_X6_addPlayed_48, r_X6_addPlayed_50, r_X6_addPlayed_52, r_X6_addPlayed_53, r_X6_addPlayed_54, r_X6_addPlayed_55, r_X6_addPlayed_56, r_X6_addPlayed_58, r_X6_addPlayed_59, r_X6_addPlayed_61, r_X6_addPlayed_62, r_X6_addPlayed_63, r_X6_addPlayed_64, r_X6_addPlayed_67, ↓reduceIte, Option.isSome_some, Option.getD_some, rL_v, rL_n, cH_s, List.cons_append, List.nil_append, cat_i, cat_r, cat_n, ofN, e, gN_of hG, nI_add, e2, gJ_nI hG (by decide) t0 (show t + len < 421 by omega), gJ_nI hF (by decide) f0 (show t < 421 by omega), lN_mul, lN_add, pJ_nI hG (by decide) t0 (show t + len < 421 by omega), updL_lN]
      rw [ih (t + 1) len i _ _ (by omega) hlen (by rw [hup_ne hne]; exact hF) hup_get, hup_hup]
      rw [show t + 1 + k = t + (k + 1) by omega]
      congr 4
      funext u
      congr 1
      unfold va_up
      by_cases h1 : u = t + len
      · subst h1
        rw [if_pos rfl, if_neg (by omega), if_pos (by omega)]
        unfold tm
        rw [if_pos (by omega), Nat.add_sub_cancel, Nat.add_zero]
      · rw [if_neg h1]
        by_cases h2 : t + 1 + len ≤ u
        · rw [if_pos h2, if_pos (by omega)]
        · rw [if_neg h2, if_neg (by omega)]
  have O : ∀ (k i : Nat) (H : AH) (G : Nat → Nat) (x7 x8 : Value), i + k = ct → H.2.2 a = some (oPa so (nI lo) ky (nI ct) la) → H.2.2 la = some (iA 4 g) → H.2.2 fa = some (jA 421 (fun t => lN (F t))) → H.2.2 ta = some (jA 421 (fun t => lN (G t))) →
      Run M_X6_addPlayed 10 [.ref a, .ref fa, .ref ta, .int (nI r), .long (lN (8 - lo)), .null, .int (nI i), x7, x8] [] H = some (hup H ta (jA 421 (fun u => lN (G u + sm (fun j => tm F (8 - lo) r (f (i + j)) u) k))), none) := by
    intro k
    induction k with
    | zero =>
      intro i H G x7 x8 hi hA hLa hF hG
      have e : i = ct := by omega
      subst e
      simp only [r_X6_addPlayed_0, r_X6_addPlayed_1, r_X6_addPlayed_4, r_X6_addPlayed_5, r_X6_addPlayed_7, r_X6_addPlayed_8, r_X6_addPlayed_10, r_X6_addPlayed_12, r_X6_addPlayed_13, r_X6_addPlayed_16, r_X6_addPlayed_19, r_X6_addPlayed_20, r_X6_addPlayed_23, r_X6_addPlayed_25, r_X6_addPlayed_26, r_X6_addPlayed_28, r_X6_addPlayed_29, r_X6_addPlayed_31, r_X6_addPlayed_33, r_X6_addPlayed_34, r_X6_addPlayed_37, r_X6_addPlayed_39, r_X6_addPlayed_41, r_X6_addPlayed_42, r_X6_addPlayed_43, r_X6_addPlayed_44, r_X6_addPlayed_47, r_X6_addPlayed_48, r_X6_addPlayed_50, r_X6_addPlayed_52, r_X6_addPlayed_53, r_X6_addPlayed_54, r_X6_addPlayed_55, r_X6_addPlayed_56, r_X6_addPlayed_58, r_X6_addPlayed_59, r_X6_addPlayed_61, r_X6_addPlayed_62, r_X6_addPlayed_63, r_X6_addPlayed_64, r_X6_addPlayed_67, r_X6_addPlayed_70, r_X6_addPlayed_73, r_X6_addPlayed_76, ↓reduceIte, Option.isSome_some, Option.getD_some, rL_v, rL_n, cH_s, List.cons_append, List.nil_append, cat_i, cat_r, cat_n, ofN, g6_0 hA, g6_1 hA, g6_2 hA, g6_3 hA, g6_4 hA, ro6 hA, Int32.le_refl]
      rw [hup_same]
      rw [hG]; rfl
    | succ k ih =>
      intro i H G x7 x8 hi hA hLa hF hG
      have e : ¬ nI ct ≤ nI i := by rw [nI_le' (by omega) (by omega)]; omega
      have hfi := hf i (by omega)
      rw [r_X6_addPlayed_10]
      simp only [r_X6_addPlayed_12, r_X6_addPlayed_13, r_X6_addPlayed_16, r_X6_addPlayed_19, r_X6_addPlayed_20, r_X6_addPlayed_23, r_X6_addPlayed_25, r_X6_addPlayed_26, r_X6_addPlayed_28, r_X6_addPlayed_29, ↓reduceIte, Option.isSome_some, Option.getD_some, rL_v, rL_n, cH_s, List.cons_append, List.nil_append, cat_i, cat_r, cat_n, ofN, g6_0 hA, g6_1 hA, g6_2 hA, g6_3 hA, g6_4 hA, ro6 hA, e, gI_nI hLa (by decide) (show i < 4 by omega), hg i (by omega)]
      rw [I (min (r + 1) (421 - f i)) 0 (f i) i H G (by omega) hfi hF hG]
      simp only [r_X6_addPlayed_70, r_X6_addPlayed_73, ↓reduceIte, Option.isSome_some, Option.getD_some, rL_v, rL_n, cH_s, List.cons_append, List.nil_append, cat_i, cat_r, cat_n, ofN, nI_add]
      have n1 : a ≠ ta := kind_ne hA hG oPa_ne
      have n2 : la ≠ ta := kind_ne hLa hG (fun h => by cases h)
      rw [ih (i + 1) _ _ _ _ (by omega) (by rw [hup_ne n1]; exact hA) (by rw [hup_ne n2]; exact hLa) (by rw [hup_ne hne]; exact hF) hup_get, hup_hup]
      congr 4
      funext u
      congr 1
      rw [sm_shift, Nat.add_assoc]
      congr 1
      congr 1
      · unfold tm
        by_cases h1 : f i ≤ u
        · rw [if_pos (by omega)]; rfl
        · rw [if_neg (by omega), if_neg (by rw [Nat.add_zero]; omega)]
      · exact sm_congr k (fun j _ => by rw [show i + 1 + j = i + (j + 1) by omega])
  have e8 : (nI (8 - lo)).toInt64 = lN (8 - lo) := nI_l (by omega)
  simp only [r_X6_addPlayed_0, r_X6_addPlayed_1, r_X6_addPlayed_4, r_X6_addPlayed_5, r_X6_addPlayed_7, r_X6_addPlayed_8, ↓reduceIte, Option.isSome_some, Option.getD_some, rL_v, rL_n, cH_s, List.cons_append, List.nil_append, cat_i, cat_r, cat_n, ofN, g6_0 ha, g6_1 ha, g6_2 ha, g6_3 ha, g6_4 ha, ro6 ha, c_playedOf8 ha hlo, e8]
  rw [O ct 0 h G _ _ (by omega) ha hl hfa hta]
  simp only [Nat.zero_add]
