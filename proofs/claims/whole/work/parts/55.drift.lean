/-! ===== drift ===== -/
theorem lN_and (a : Nat) : lN a &&& lN 2147483647 = lN (a % 2147483648) := by
  apply Int64.toBitVec_inj.mp
  apply BitVec.eq_of_toNat_eq
  rw [Int64.toBitVec_and, BitVec.toNat_and]
  show a % 2 ^ 64 &&& (2 ^ 31 - 1) = a % 2147483648 % 2 ^ 64
  rw [Nat.and_two_pow_sub_one_eq_mod]
  omega
theorem nI_and31 (a : Nat) : nI a &&& nI 2147483647 = nI (a % 2147483648) := by
  rw [pk_and (nI a) 31 (by decide)]
  show nI (a % 2 ^ 32 % 2 ^ 31) = _
  congr 1
  omega
theorem va_uu {α : Type} {f : Nat → α} {k : Nat} {x y : α} {i : Nat} : va_up (va_up f k x) k y i = va_up f k y i := by
  by_cases e : i = k
  · subst e; rw [va_up_self, va_up_self]
  · rw [va_up_ne _ _ e, va_up_ne _ _ e, va_up_ne _ _ e]
theorem va_own {α : Type} {f : Nat → α} {k : Nat} : va_up f k (f k) = f := by
  funext i
  by_cases e : i = k
  · subst e; rw [va_up_self]
  · rw [va_up_ne _ _ e]
theorem va_uS {S : SS} {k : Nat} {g g' : Nat → Nat} : va_up (va_up S k g) k g' = va_up S k g' := by
  funext i; exact va_uu
def nx (s : Nat) : Nat := (s * 1103515245 + 12345) % 2147483648
theorem nx_lt (s : Nat) : nx s < 2147483648 := Nat.mod_lt _ (by decide)
def nt (S : SS) (s : Nat) : Nat → Nat × Nat
  | 0 => (s, 0)
  | p + 1 => if nx (nt S s p).1 / 65536 % 8 < S 4 p then (nx (nt S s p).1, (nt S s p).2) else (nx (nx (nt S s p).1), (nt S s p).2 + S 7 (4 * p + nx (nx (nt S s p).1) / 65536 % S 6 p))
theorem nt_lt {S : SS} {s : Nat} (hs : s < 2147483648) : ∀ p, (nt S s p).1 < 2147483648
  | 0 => hs
  | p + 1 => by
    simp only [nt]
    split
    · exact nx_lt _
    · exact nx_lt _
theorem nt_le {S : SS} {s : Nat} (hO : HOk S) : ∀ p, p ≤ S 12 0 → (nt S s p).2 ≤ 60 * p
  | 0, _ => Nat.le_refl _
  | p + 1, hp => by
    have ih := nt_le (s := s) hO p (by omega)
    obtain ⟨k1, k2, k3, k4, k5, k6⟩ := hO.2 p (by omega)
    have := k6 (nx (nx (nt S s p).1) / 65536 % S 6 p) (Nat.mod_lt _ (by omega))
    simp only [nt]
    split
    · show (nt S s p).2 ≤ _; omega
    · show (nt S s p).2 + S 7 (4 * p + nx (nx (nt S s p).1) / 65536 % S 6 p) ≤ _; omega
/-- one night -/
def nite (S : SS) (w : Nat) (g : Nat → Nat) : Nat → Nat := va_up (va_up (va_up g 18 (nt S (g 18) (S 12 0)).1) 16 (min 999999999 (g 16 + (g 0 * ((nt S (g 18) (S 12 0)).2 - w) + g 1 * (w - (nt S (g 18) (S 12 0)).2))))) 17 (g 17 + 1)
def nts (S : SS) (w : Nat) : Nat → (Nat → Nat) → Nat → Nat
  | 0, g => g
  | k + 1, g => nts S w k (nite S w g)
theorem nts_s {S : SS} {w k : Nat} {g : Nat → Nat} : nts S w (k + 1) g = nts S w k (nite S w g) := rfl
theorem nts_0 {S : SS} {w : Nat} {g : Nat → Nat} : nts S w 0 g = g := rfl
theorem nite_ne {S : SS} {w k : Nat} {g : Nat → Nat} (h1 : k ≠ 16) (h2 : k ≠ 17) (h3 : k ≠ 18) : nite S w g k = g k := by
  unfold nite
  rw [va_up_ne _ _ h2, va_up_ne _ _ h1, va_up_ne _ _ h3]
theorem nite_16 {S : SS} {w : Nat} {g : Nat → Nat} : nite S w g 16 = min 999999999 (g 16 + (g 0 * ((nt S (g 18) (S 12 0)).2 - w) + g 1 * (w - (nt S (g 18) (S 12 0)).2))) := by
  unfold nite; rw [va_up_ne _ _ (by decide), va_up_self]
theorem nite_17 {S : SS} {w : Nat} {g : Nat → Nat} : nite S w g 17 = g 17 + 1 := by
  unfold nite; rw [va_up_self]
theorem nite_18 {S : SS} {w : Nat} {g : Nat → Nat} : nite S w g 18 = (nt S (g 18) (S 12 0)).1 := by
  unfold nite; rw [va_up_ne _ _ (by decide), va_up_ne _ _ (by decide), va_up_self]
theorem SOk.nite {S : SS} {w n : Nat} {g : Nat → Nat} (hn : n ≤ 5) (h : SOk g n) : SOk (nite S w g) n := by
  obtain ⟨⟨a1, a2, a3, a4, a5⟩, hL, a6, a7, a8⟩ := h
  refine ⟨⟨?_, ?_, ?_, ?_, ?_⟩, fun p hp => ?_, ?_, ?_, ?_⟩
  · rw [nite_ne (by decide) (by decide) (by decide)]; exact a1
  · rw [nite_ne (by decide) (by decide) (by decide)]; exact a2
  · rw [nite_ne (by decide) (by decide) (by decide)]; exact a3
  · rw [nite_ne (by decide) (by decide) (by decide)]; exact a4
  · rw [nite_ne (by decide) (by decide) (by decide)]; exact a5
  · rw [nite_ne (by omega) (by omega) (by omega), nite_ne (by omega) (by omega) (by omega)]
    exact hL p hp
  · rw [nite_ne (by decide) (by decide) (by decide)]; exact a6
  · rw [nite_16]; exact Nat.min_le_left _ _
  · rw [nite_18]; exact nt_lt a8 _
theorem SOk.nts {S : SS} {w n : Nat} (hn : n ≤ 5) : ∀ k {g : Nat → Nat}, SOk g n → SOk (nts S w k g) n
  | 0, _, h => h
  | k + 1, _, h => SOk.nts hn k (h.nite hn)
theorem c_draw {h : AH} {a f5 f6 s n : Nat} {f0 f1 f2 f3 f4 f7 f8 f9 : Int32} (ha : h.2.2 a = some (oAg f0 f1 f2 f3 f4 f5 f6 f7 f8 f9 (nI s))) (hs : s < 2147483648) (h0 : 0 < n) (hn : n < 2147483648) : Call M_X0_draw h [.ref a, .int (nI n)] = some (hup h a (oAg f0 f1 f2 f3 f4 f5 f6 f7 f8 f9 (nI (nx s))), some (.int (nI (nx s / 65536 % n)))) := by
  have n0 : ¬ nI n = 0 := nI_ne0 h0 hn
  have n1 : ¬ nI 65536 = 0 := by decide
  have n2 : ¬ nI n ≤ nI 0 := by rw [nI_le' hn (by decide)]; omega
  have hx := nx_lt s
  have e : (s * 1103515245 + 12345) % 2147483648 = nx s := rfl
  show Run M_X0_draw 0 [.ref a, .int (nI n)] [] h = _
  simp only [r_X0_draw_0, r_X0_draw_1, r_X0_draw_2, r_X0_draw_5, r_X0_draw_6, r_X0_draw_9, r_X0_draw_10, r_X0_draw_13, r_X0_draw_14, r_X0_draw_17, r_X0_draw_18, r_X0_draw_19, r_X0_draw_22, r_X0_draw_23, r_X0_draw_26, r_X0_draw_27, r_X0_draw_30, r_X0_draw_33, r_X0_draw_35, r_X0_draw_38, r_X0_draw_39, r_X0_draw_32 n1, r_X0_draw_34 n0, ↓reduceIte, Option.isSome_some, Option.getD_some, rL_v, rL_n, cH_s, List.cons_append, List.nil_append, cat_i, cat_r, cat_n, ofN, g0_0 ha, p0_0 ha, g0_1 ha, p0_1 ha, g0_2 ha, p0_2 ha, g0_3 ha, p0_3 ha, g0_4 ha, p0_4 ha, g0_5 ha, p0_5 ha, g0_6 ha, p0_6 ha, g0_7 ha, p0_7 ha, g0_8 ha, p0_8 ha, g0_9 ha, p0_9 ha, g0_10 ha, p0_10 ha, ro0 ha, rou0, gu0_0, pu0_0, gu0_1, pu0_1, gu0_2, pu0_2, gu0_3, pu0_3, gu0_4, pu0_4, gu0_5, pu0_5, gu0_6, pu0_6, gu0_7, pu0_7, gu0_8, pu0_8, gu0_9, pu0_9, gu0_10, pu0_10, nI_l (n := s) hs, lN_mul, lN_add, lN_and, lN_i, e, n2, nI_div hx (show 0 < 65536 by decide) (show 65536 < 2147483648 by decide), nI_rem (show nx s / 65536 < 2147483648 by omega) h0 hn]
theorem c_mdraw {h : AH} {n : Nat} {g : Nat → Nat} {f3 f9 f10 f13 f14 f15 f16 f17 f18 f19 f20 f21 f27 f29 f32 f33 f36 f38 : Int32} (hm : h.2.2 88 = some (oMo f3 f9 f10 f13 f14 f15 f16 f17 f18 f19 f20 f21 f27 f29 f32 f33 f36 f38)) (s : h.2.2 89 = some (iA 19 (fun i => nI (g i)))) (h0 : 0 < n) (hn : n < 2147483648) : Call M_X9_draw h [.ref 88, .int (nI n)] = some (hup h 89 (iA 19 (fun i => nI (va_up g 18 (nx (g 18)) i))), some (.int (nI (nx (g 18) / 65536 % n)))) := by
  have n0 : ¬ nI n = 0 := nI_ne0 h0 hn
  have n1 : ¬ nI 65536 = 0 := by decide
  have hx := nx_lt (g 18)
  have e : (g 18 * 1103515245 + 12345) % 2147483648 = nx (g 18) := rfl
  have hm' : (hup h 89 (iA 19 (fun i => nI (va_up g 18 (nx (g 18)) i)))).2.2 88 = _ := (hup_ne (by decide)).trans hm
  show Run M_X9_draw 0 [.ref 88, .int (nI n)] [] h = _
  simp only [r_X9_draw_0, r_X9_draw_1, r_X9_draw_4, r_X9_draw_6, r_X9_draw_7, r_X9_draw_10, r_X9_draw_12, r_X9_draw_13, r_X9_draw_15, r_X9_draw_16, r_X9_draw_19, r_X9_draw_20, r_X9_draw_22, r_X9_draw_23, r_X9_draw_24, r_X9_draw_25, r_X9_draw_28, r_X9_draw_30, r_X9_draw_31, r_X9_draw_34, r_X9_draw_36, r_X9_draw_33 n1, r_X9_draw_35 n0, ↓reduceIte, Option.isSome_some, Option.getD_some, rL_v, rL_n, cH_s, List.cons_append, List.nil_append, cat_i, cat_r, cat_n, ofN, g9_0 hm, g9_0 hm', gI_nI s (by decide) (show 18 < 19 by decide), pI_nI s (by decide) (by decide) (show 18 < 19 by decide), upd_nI, nI_m, nI_add, nI_and31, e, gI_u (show 19 < 2147483648 by decide) (show 18 < 19 by decide), va_up_self, nI_div hx (show 0 < 65536 by decide) (show 65536 < 2147483648 by decide), nI_rem (show nx (g 18) / 65536 < 2147483648 by omega) h0 hn]
theorem c_night {h : AH} {S : SS} {g : Nat → Nat} (hO : HOk S) (hs : g 18 < 2147483648) (hr : RepM h (va_up S 0 g)) : Call M_X9_night h [.ref 88] = some (hup h 89 (iA 19 (fun i => nI (va_up g 18 (nt S (g 18) (S 12 0)).1 i))), some (.int (nI (nt S (g 18) (S 12 0)).2))) := by
  have hn := hO.1
  obtain ⟨⟨a, b, c, d, e', f, g', i1, i2, i3, i4, hm⟩, hA, -⟩ := id hr
  have hm : h.2.2 88 = some (oMo (nI (S 12 0)) (nI (S 12 1)) (nI (S 12 2)) (nI (S 12 3)) a b c d e' f (fI (S 12 6)) g' i1 i2 i3 i4 (nI (S 12 4)) (nI (S 12 5))) := hm
  have h89 : h.2.2 89 = some (iA 19 (fun i => nI (g i))) := hA 89 _ rfl
  have h93 : h.2.2 93 = some (iA 7 (fun i => nI (S 4 i))) := hA 93 _ rfl
  have h95 : h.2.2 95 = some (iA 7 (fun i => nI (S 6 i))) := hA 95 _ rfl
  have h96 : h.2.2 96 = some (iA 28 (fun i => nI (S 7 i))) := hA 96 _ rfl
  have L : ∀ k p, p + k = S 12 0 → Run M_X9_night 4 [.ref 88, .int (nI (nt S (g 18) p).2), .int (nI p)] [] (hup h 89 (iA 19 (fun i => nI (va_up g 18 (nt S (g 18) p).1 i)))) = some (hup h 89 (iA 19 (fun i => nI (va_up g 18 (nt S (g 18) (S 12 0)).1 i))), some (.int (nI (nt S (g 18) (S 12 0)).2))) := by
    intro k
    induction k with
    | zero =>
      intro p hp
      have e : p = S 12 0 := by omega
      subst e
      have hm' : (hup h 89 (iA 19 (fun i => nI (va_up g 18 (nt S (g 18) (S 12 0)).1 i)))).2.2 88 = _ := (hup_ne (by decide)).trans hm
      simp only [r_X9_night_4, r_X9_night_5, r_X9_night_6, r_X9_night_9, r_X9_night_55, r_X9_night_56, ↓reduceIte, Option.isSome_some, Option.getD_some, rL_v, rL_n, cH_s, List.cons_append, List.nil_append, cat_i, cat_r, cat_n, ofN, g9_3 hm', Int32.le_refl]
    | succ k ih =>
      intro p hp
      obtain ⟨k1, k2, k3, k4, k5, k6⟩ := hO.2 p (by omega)
      have q0 : ¬ nI (S 12 0) ≤ nI p := by rw [nI_le' (by omega) (by omega)]; omega
      have I := ih (p + 1) (by omega)
      have hm' : ∀ X, (hup h 89 X).2.2 88 = _ := fun X => (hup_ne (by decide)).trans hm
      have h93' : ∀ X, (hup h 89 X).2.2 93 = _ := fun X => (hup_ne (by decide)).trans h93
      have h95' : ∀ X, (hup h 89 X).2.2 95 = _ := fun X => (hup_ne (by decide)).trans h95
      have h96' : ∀ X, (hup h 89 X).2.2 96 = _ := fun X => (hup_ne (by decide)).trans h96
      have m8 : nx (nt S (g 18) p).1 / 65536 % 8 < 8 := Nat.mod_lt _ (by decide)
      have m6 : nx (nx (nt S (g 18) p).1) / 65536 % S 6 p < S 6 p := Nat.mod_lt _ (by omega)
      have D1 := c_mdraw (n := 8) (hm' _) (hup_get (h := h) (a := 89) (c := iA 19 (fun i => nI (va_up g 18 (nt S (g 18) p).1 i)))) (by decide) (by decide)
      have D2 := c_mdraw (n := S 6 p) (hm' _) (hup_get (h := h) (a := 89) (c := iA 19 (fun i => nI (va_up g 18 (nx (nt S (g 18) p).1) i)))) (by omega) (by omega)
      simp only [va_up_self, va_uu, hup_hup] at D1 D2
      rw [r_X9_night_4]
      simp only [nt] at I
      by_cases q : nx (nt S (g 18) p).1 / 65536 % 8 < S 4 p
      · rw [if_pos q] at I
        simp only [r_X9_night_5, r_X9_night_6, r_X9_night_9, r_X9_night_12, r_X9_night_13, r_X9_night_15, r_X9_night_18, r_X9_night_19, r_X9_night_22, r_X9_night_23, r_X9_night_24, r_X9_night_49, r_X9_night_52, ↓reduceIte, Option.isSome_some, Option.getD_some, rL_v, rL_n, cH_s, List.cons_append, List.nil_append, cat_i, cat_r, cat_n, ofN, g9_0 (hm' _), g9_1 (hm' _), g9_2 (hm' _), g9_3 (hm' _), g9_4 (hm' _), g9_5 (hm' _), g9_6 (hm' _), g9_7 (hm' _), g9_8 (hm' _), g9_9 (hm' _), g9_10 (hm' _), g9_11 (hm' _), g9_12 (hm' _), g9_13 (hm' _), g9_14 (hm' _), g9_15 (hm' _), g9_16 (hm' _), g9_17 (hm' _), g9_18 (hm' _), g9_19 (hm' _), g9_20 (hm' _), g9_21 (hm' _), g9_22 (hm' _), g9_23 (hm' _), g9_24 (hm' _), g9_25 (hm' _), g9_26 (hm' _), g9_27 (hm' _), g9_28 (hm' _), g9_29 (hm' _), g9_30 (hm' _), g9_31 (hm' _), g9_32 (hm' _), g9_33 (hm' _), g9_34 (hm' _), g9_35 (hm' _), g9_36 (hm' _), g9_37 (hm' _), g9_38 (hm' _), g9_39 (hm' _), ro9 (hm' _), q0, D1, gI_nI (h93' _) (by decide) (show p < 7 by omega), nI_lt' (show nx (nt S (g 18) p).1 / 65536 % 8 < 2147483648 by omega) (show S 4 p < 2147483648 by omega), q, nI_add]
        exact I
      · rw [if_neg q] at I
        simp only [r_X9_night_5, r_X9_night_6, r_X9_night_9, r_X9_night_12, r_X9_night_13, r_X9_night_15, r_X9_night_18, r_X9_night_19, r_X9_night_22, r_X9_night_23, r_X9_night_24, r_X9_night_27, r_X9_night_28, r_X9_night_29, r_X9_night_32, r_X9_night_33, r_X9_night_34, r_X9_night_35, r_X9_night_36, r_X9_night_37, r_X9_night_40, r_X9_night_41, r_X9_night_42, r_X9_night_45, r_X9_night_46, r_X9_night_47, r_X9_night_48, r_X9_night_49, r_X9_night_52, ↓reduceIte, Option.isSome_some, Option.getD_some, rL_v, rL_n, cH_s, List.cons_append, List.nil_append, cat_i, cat_r, cat_n, ofN, g9_0 (hm' _), g9_1 (hm' _), g9_2 (hm' _), g9_3 (hm' _), g9_4 (hm' _), g9_5 (hm' _), g9_6 (hm' _), g9_7 (hm' _), g9_8 (hm' _), g9_9 (hm' _), g9_10 (hm' _), g9_11 (hm' _), g9_12 (hm' _), g9_13 (hm' _), g9_14 (hm' _), g9_15 (hm' _), g9_16 (hm' _), g9_17 (hm' _), g9_18 (hm' _), g9_19 (hm' _), g9_20 (hm' _), g9_21 (hm' _), g9_22 (hm' _), g9_23 (hm' _), g9_24 (hm' _), g9_25 (hm' _), g9_26 (hm' _), g9_27 (hm' _), g9_28 (hm' _), g9_29 (hm' _), g9_30 (hm' _), g9_31 (hm' _), g9_32 (hm' _), g9_33 (hm' _), g9_34 (hm' _), g9_35 (hm' _), g9_36 (hm' _), g9_37 (hm' _), g9_38 (hm' _), g9_39 (hm' _), ro9 (hm' _), q0, D1, D2, gI_nI (h93' _) (by decide) (show p < 7 by omega), gI_nI (h95' _) (by decide) (show p < 7 by omega), nI_lt' (show nx (nt S (g 18) p).1 / 65536 % 8 < 2147483648 by omega) (show S 4 p < 2147483648 by omega), q, nI_add, nI_m, gI_nI (h96' _) (by decide) (show 4 * p + nx (nx (nt S (g 18) p).1) / 65536 % S 6 p < 28 by omega)]
        exact I
  have I := L (S 12 0) 0 (by omega)
  have e0 : va_up g 18 (nt S (g 18) 0).1 = g := va_own
  rw [e0, hup_same h89] at I
  show Run M_X9_night 0 [.ref 88, .null, .null] [] h = _
  simp only [r_X9_night_0, r_X9_night_1, r_X9_night_2, r_X9_night_3, ↓reduceIte, Option.isSome_some, Option.getD_some, rL_v, rL_n, cH_s, List.cons_append, List.nil_append, cat_i, cat_r, cat_n, ofN]
  exact I
theorem c_maxd {h : AH} {a b : Nat} (ha : a < 1073741824) (hb : b < 1073741824) : Call M_J9_max_7cf53 h [.int (nI 0), .int (nI a - nI b)] = some (h, some (.int (nI (a - b)))) := by
  by_cases q : b ≤ a
  · rw [nI_s q, c_max (by decide) (by omega), Nat.zero_max]
  · have q1 : ¬ nI 0 < nI a - nI b := by
      have := pk_sneg hb (by omega : a < b)
      intro q2
      exact Int32.lt_irrefl (Int32.lt_trans q2 this)
    rw [show a - b = 0 by omega]
    show Run M_J9_max_7cf53 0 [.int (nI 0), .int (nI a - nI b)] [] h = _
    simp only [r_J9_max_7cf53_0, r_J9_max_7cf53_1, r_J9_max_7cf53_2, r_J9_max_7cf53_5, r_J9_max_7cf53_6, r_J9_max_7cf53_9, r_J9_max_7cf53_10, ↓reduceIte, Option.isSome_some, Option.getD_some, rL_v, rL_n, cH_s, List.cons_append, List.nil_append, cat_i, cat_r, cat_n, ofN, q1]
theorem c_playNight {h : AH} {S : SS} {g : Nat → Nat} {o w : Nat} (hO : HOk S) (hg : SOk g (S 12 1)) (hw : w ≤ 420) (hr : RepCo h (va_up S 0 g) o) : Call M_X8_playNight h [.ref 1, .int (nI w)] = some (hup h (o + 4) (oAg (nI (g 0)) (nI (g 1)) (nI (g 2)) (nI (g 3)) (nI (g 4)) (o + 4 + 1) (o + 4 + 2) (nI (g 15)) (nI (min 999999999 (g 16 + (g 0 * ((nt S (g 18) (S 12 0)).2 - w) + g 1 * (w - (nt S (g 18) (S 12 0)).2))))) (nI (g 17 + 1)) (nI (nt S (g 18) (S 12 0)).1)), none) := by
  obtain ⟨h0, h1, -, ⟨hH1, ⟨fr, hr1, hr2⟩, -, -, ⟨hA1, -⟩, -, hP⟩, -⟩ := id hr
  obtain ⟨⟨a1, a2, a3, a4, a5⟩, hL, a6, a7, a8⟩ := hg
  have hn := hO.1
  have hH1 : h.2.2 o = some (oHa (nI (S 12 0)) (o + 1) (nI (S 12 1)) (nI (S 12 2)) (o + 2) (o + 3) (o + 4)) := hH1
  have hA1 : h.2.2 (o + 4) = some (oAg (nI (g 0)) (nI (g 1)) (nI (g 2)) (nI (g 3)) (nI (g 4)) (o + 4 + 1) (o + 4 + 2) (nI (g 15)) (nI (g 16)) (nI (g 17)) (nI (g 18))) := hA1
  have hP : ∀ p, p < S 12 0 → PartR h o S p := hP
  have h1' : ∀ X, (hup h (o + 4) X).2.2 1 = _ := fun X => (hup_ne (by omega)).trans h1
  have hH' : ∀ X, (hup h (o + 4) X).2.2 o = _ := fun X => (hup_ne (by omega)).trans hH1
  have hr' : ∀ X, (hup h (o + 4) X).2.2 (o + 1) = _ := fun X => (hup_ne (by omega)).trans hr1
  have L : ∀ k p x5 x6, p + k = S 12 0 → Run M_X8_playNight 13 [.ref 1, .int (nI w), .ref (o + 4), .int (nI (nt S (g 18) p).2), .int (nI p), x5, x6] [] (hup h (o + 4) (oAg (nI (g 0)) (nI (g 1)) (nI (g 2)) (nI (g 3)) (nI (g 4)) (o + 4 + 1) (o + 4 + 2) (nI (g 15)) (nI (g 16)) (nI (g 17)) (nI (nt S (g 18) p).1))) = some (hup h (o + 4) (oAg (nI (g 0)) (nI (g 1)) (nI (g 2)) (nI (g 3)) (nI (g 4)) (o + 4 + 1) (o + 4 + 2) (nI (g 15)) (nI (min 999999999 (g 16 + (g 0 * ((nt S (g 18) (S 12 0)).2 - w) + g 1 * (w - (nt S (g 18) (S 12 0)).2))))) (nI (g 17 + 1)) (nI (nt S (g 18) (S 12 0)).1)), none) := by
    intro k
    induction k with
    | zero =>
      intro p x5 x6 hp
      have e : p = S 12 0 := by omega
      subst e
      have b1 := nt_le (s := g 18) hO (S 12 0) (Nat.le_refl _)
      have b2 : g 0 * ((nt S (g 18) (S 12 0)).2 - w) ≤ 20 * 420 := Nat.mul_le_mul a1 (by omega)
      have b3 : g 1 * (w - (nt S (g 18) (S 12 0)).2) ≤ 20 * 420 := Nat.mul_le_mul a2 (by omega)
      simp only [r_X8_playNight_13, r_X8_playNight_15, r_X8_playNight_16, r_X8_playNight_19, r_X8_playNight_22, r_X8_playNight_93, r_X8_playNight_94, r_X8_playNight_97, r_X8_playNight_98, r_X8_playNight_99, r_X8_playNight_100, r_X8_playNight_101, r_X8_playNight_104, r_X8_playNight_105, r_X8_playNight_107, r_X8_playNight_108, r_X8_playNight_111, r_X8_playNight_112, r_X8_playNight_113, r_X8_playNight_114, r_X8_playNight_115, r_X8_playNight_118, r_X8_playNight_119, r_X8_playNight_121, r_X8_playNight_122, r_X8_playNight_125, r_X8_playNight_126, r_X8_playNight_129, r_X8_playNight_131, r_X8_playNight_132, r_X8_playNight_134, r_X8_playNight_135, r_X8_playNight_138, r_X8_playNight_141, r_X8_playNight_142, r_X8_playNight_143, r_X8_playNight_146, r_X8_playNight_147, r_X8_playNight_148, r_X8_playNight_151, ↓reduceIte, Option.isSome_some, Option.getD_some, rL_v, rL_n, cH_s, List.cons_append, List.nil_append, cat_i, cat_r, cat_n, ofN, g8_0 (h1' _), g8_1 (h1' _), g8_2 (h1' _), g8_3 (h1' _), g8_4 (h1' _), g8_5 (h1' _), g8_6 (h1' _), g8_7 (h1' _), g8_8 (h1' _), ro8 (h1' _), g4_0 (hH' _), g4_1 (hH' _), g4_2 (hH' _), g4_3 (hH' _), g4_4 (hH' _), g4_5 (hH' _), g4_6 (hH' _), ro4 (hH' _), rou0, gu0_0, pu0_0, gu0_1, pu0_1, gu0_2, pu0_2, gu0_3, pu0_3, gu0_4, pu0_4, gu0_5, pu0_5, gu0_6, pu0_6, gu0_7, pu0_7, gu0_8, pu0_8, gu0_9, pu0_9, gu0_10, pu0_10, Int32.le_refl, c_maxd (show (nt S (g 18) (S 12 0)).2 < 1073741824 by omega) (show w < 1073741824 by omega), c_maxd (show w < 1073741824 by omega) (show (nt S (g 18) (S 12 0)).2 < 1073741824 by omega), nI_m, nI_add, Nat.add_assoc, c_min (show 999999999 < 2147483648 by decide) (show g 16 + (g 0 * ((nt S (g 18) (S 12 0)).2 - w) + g 1 * (w - (nt S (g 18) (S 12 0)).2)) < 2147483648 by omega)]
    | succ k ih =>
      intro p x5 x6 hp
      obtain ⟨k1, k2, k3, k4, k5, k6⟩ := hO.2 p (by omega)
      obtain ⟨hp1, gl, hl, hgl⟩ := hP p (by omega)
      have hp1' : ∀ X, (hup h (o + 4) X).2.2 (o + 7 + 2 * p) = _ := fun X => (hup_ne (by omega)).trans hp1
      have hl' : ∀ X, (hup h (o + 4) X).2.2 (o + 8 + 2 * p) = _ := fun X => (hup_ne (by omega)).trans hl
      have q0 : ¬ nI (S 12 0) ≤ nI p := by rw [nI_le' (by omega) (by omega)]; omega
      have m8 : nx (nt S (g 18) p).1 / 65536 % 8 < 8 := Nat.mod_lt _ (by decide)
      have m6 : nx (nx (nt S (g 18) p).1) / 65536 % S 6 p < S 6 p := Nat.mod_lt _ (by omega)
      have w6 := rng_in (j := nx (nx (nt S (g 18) p).1) / 65536 % S 6 p) (B := 3) (by decide) (by omega)
      have D1 := fun X7 X8 X9 => c_draw (n := 8) (hup_get (h := h) (a := o + 4) (c := oAg (nI (g 0)) (nI (g 1)) (nI (g 2)) (nI (g 3)) (nI (g 4)) (o + 4 + 1) (o + 4 + 2) X7 X8 X9 (nI (nt S (g 18) p).1))) (nt_lt a8 p) (by decide) (by decide)
      have D2 := fun X7 X8 X9 => c_draw (n := S 6 p) (hup_get (h := h) (a := o + 4) (c := oAg (nI (g 0)) (nI (g 1)) (nI (g 2)) (nI (g 3)) (nI (g 4)) (o + 4 + 1) (o + 4 + 2) X7 X8 X9 (nI (nx (nt S (g 18) p).1)))) (nx_lt _) (by omega) (by omega)
      simp only [hup_hup] at D1 D2
      have gr := gR_nI (hr' (oAg (nI (g 0)) (nI (g 1)) (nI (g 2)) (nI (g 3)) (nI (g 4)) (o + 4 + 1) (o + 4 + 2) (nI (g 15)) (nI (g 16)) (nI (g 17)) (nI (nt S (g 18) p).1))) (Or.inr (Or.inl rfl)) (by decide) (by omega) (hr2 p (by omega)) (show p < 7 by omega)
      have I := fun x6' => ih (p + 1) (.ref (o + 7 + 2 * p)) x6' (by omega)
      simp only [nt] at I
      rw [r_X8_playNight_13]
      by_cases q : nx (nt S (g 18) p).1 / 65536 % 8 < S 4 p
      · have I := I x6
        rw [if_pos q] at I
        simp only [r_X8_playNight_15, r_X8_playNight_16, r_X8_playNight_19, r_X8_playNight_22, r_X8_playNight_25, r_X8_playNight_26, r_X8_playNight_29, r_X8_playNight_32, r_X8_playNight_34, r_X8_playNight_35, r_X8_playNight_37, r_X8_playNight_38, r_X8_playNight_40, r_X8_playNight_43, r_X8_playNight_45, r_X8_playNight_48, r_X8_playNight_87, r_X8_playNight_90, ↓reduceIte, Option.isSome_some, Option.getD_some, rL_v, rL_n, cH_s, List.cons_append, List.nil_append, cat_i, cat_r, cat_n, ofN, g8_0 (h1' _), g8_1 (h1' _), g8_2 (h1' _), g8_3 (h1' _), g8_4 (h1' _), g8_5 (h1' _), g8_6 (h1' _), g8_7 (h1' _), g8_8 (h1' _), ro8 (h1' _), g4_0 (hH' _), g4_1 (hH' _), g4_2 (hH' _), g4_3 (hH' _), g4_4 (hH' _), g4_5 (hH' _), g4_6 (hH' _), ro4 (hH' _), gr, rou0, gu0_0, pu0_0, gu0_1, pu0_1, gu0_2, pu0_2, gu0_3, pu0_3, gu0_4, pu0_4, gu0_5, pu0_5, gu0_6, pu0_6, gu0_7, pu0_7, gu0_8, pu0_8, gu0_9, pu0_9, gu0_10, pu0_10, g6_0 (hp1' _), g6_1 (hp1' _), g6_2 (hp1' _), g6_3 (hp1' _), g6_4 (hp1' _), ro6 (hp1' _), q0, D1, nI_lt' (show nx (nt S (g 18) p).1 / 65536 % 8 < 2147483648 by omega) (show S 4 p < 2147483648 by omega), q, nI_add]
        exact I
      · have I := I (.int (nI (nx (nx (nt S (g 18) p).1) / 65536 % S 6 p)))
        rw [if_neg q] at I
        simp only [r_X8_playNight_15, r_X8_playNight_16, r_X8_playNight_19, r_X8_playNight_22, r_X8_playNight_25, r_X8_playNight_26, r_X8_playNight_29, r_X8_playNight_32, r_X8_playNight_34, r_X8_playNight_35, r_X8_playNight_37, r_X8_playNight_38, r_X8_playNight_40, r_X8_playNight_43, r_X8_playNight_45, r_X8_playNight_48, r_X8_playNight_51, r_X8_playNight_52, r_X8_playNight_54, r_X8_playNight_57, r_X8_playNight_60, r_X8_playNight_62, r_X8_playNight_63, r_X8_playNight_65, r_X8_playNight_66, r_X8_playNight_67, r_X8_playNight_70, r_X8_playNight_73, r_X8_playNight_75, r_X8_playNight_78, r_X8_playNight_80, r_X8_playNight_81, r_X8_playNight_84, r_X8_playNight_85, r_X8_playNight_86, r_X8_playNight_87, r_X8_playNight_90, ↓reduceIte, Option.isSome_some, Option.getD_some, rL_v, rL_n, cH_s, List.cons_append, List.nil_append, cat_i, cat_r, cat_n, ofN, g8_0 (h1' _), g8_1 (h1' _), g8_2 (h1' _), g8_3 (h1' _), g8_4 (h1' _), g8_5 (h1' _), g8_6 (h1' _), g8_7 (h1' _), g8_8 (h1' _), ro8 (h1' _), g4_0 (hH' _), g4_1 (hH' _), g4_2 (hH' _), g4_3 (hH' _), g4_4 (hH' _), g4_5 (hH' _), g4_6 (hH' _), ro4 (hH' _), gr, rou0, gu0_0, pu0_0, gu0_1, pu0_1, gu0_2, pu0_2, gu0_3, pu0_3, gu0_4, pu0_4, gu0_5, pu0_5, gu0_6, pu0_6, gu0_7, pu0_7, gu0_8, pu0_8, gu0_9, pu0_9, gu0_10, pu0_10, g6_0 (hp1' _), g6_1 (hp1' _), g6_2 (hp1' _), g6_3 (hp1' _), g6_4 (hp1' _), ro6 (hp1' _), q0, D1, D2, nI_lt' (show nx (nt S (g 18) p).1 / 65536 % 8 < 2147483648 by omega) (show S 4 p < 2147483648 by omega), q, c_within, ite_bI, w6, and_self, gI_nI (hl' _) (by decide) (show nx (nx (nt S (g 18) p).1) / 65536 % S 6 p < 4 by omega), hgl _ m6, nI_add]
        exact I
  have I := L (S 12 0) 0 .null .null (by omega)
  have e0 : (nt S (g 18) 0).1 = g 18 := rfl
  rw [e0, hup_same hA1] at I
  show Run M_X8_playNight 0 [.ref 1, .int (nI w), .null, .null, .null, .null, .null] [] h = _
  simp only [r_X8_playNight_0, r_X8_playNight_1, r_X8_playNight_4, r_X8_playNight_7, r_X8_playNight_8, r_X8_playNight_9, r_X8_playNight_10, r_X8_playNight_11, ↓reduceIte, Option.isSome_some, Option.getD_some, rL_v, rL_n, cH_s, List.cons_append, List.nil_append, cat_i, cat_r, cat_n, ofN, g8_0 h1, g8_1 h1, g8_2 h1, g8_3 h1, g8_4 h1, g8_5 h1, g8_6 h1, g8_7 h1, g8_8 h1, ro8 h1, g4_0 hH1, g4_1 hH1, g4_2 hH1, g4_3 hH1, g4_4 hH1, g4_5 hH1, g4_6 hH1, ro4 hH1]
  exact I
theorem bGo_le (S : SS) : bGo S ≤ 420 := am_le _ _
theorem c_nightC {h : AH} {S : SS} {g : Nat → Nat} {o w : Nat} (hO : HOk S) (h5 : S 12 1 ≤ 5) (hg : SOk g (S 12 1)) (hw : w ≤ 420) (hr : RepCo h (va_up S 0 g) o) : ∃ h', Call M_X8_playNight h [.ref 1, .int (nI w)] = some (h', none) ∧ RepCo h' (va_up S 0 (nite S w g)) o ∧ frC h h' := by
  have P := c_playNight hO hg hw hr
  rw [← nite_16, ← nite_17 (S := S) (w := w), ← nite_18 (S := S) (w := w)] at P
  have e : ∀ k, k ≠ 16 → k ≠ 17 → k ≠ 18 → g k = nite S w g k := fun k a b c => (nite_ne a b c).symm
  rw [e 0 (by decide) (by decide) (by decide), e 1 (by decide) (by decide) (by decide), e 2 (by decide) (by decide) (by decide), e 3 (by decide) (by decide) (by decide), e 4 (by decide) (by decide) (by decide), e 15 (by decide) (by decide) (by decide)] at P
  have hA : AgR h (o + 4) g (S 12 1) := hr.2.2.2.1.2.2.2.2.1
  have hl : ∀ p, nite S w g (5 + 2 * p) = g (5 + 2 * p) ∧ nite S w g (5 + 2 * p + 1) = g (5 + 2 * p + 1) ∨ S 12 1 ≤ p := fun p => by
    by_cases e : p < S 12 1
    · exact Or.inl ⟨nite_ne (by omega) (by omega) (by omega), nite_ne (by omega) (by omega) (by omega)⟩
    · exact Or.inr (by omega)
  generalize nite S w g = G at *
  have hA' := hA.scal (g' := G) hl
  have h0 := hr.1
  have hr' := RepCo.ag (S := va_up S 0 g) hO.1 hr (fun x hx => hup_ne (by omega)) hA'
  rw [va_uS] at hr'
  exact ⟨_, P, hr', fun a ha => hup_ne (by omega), rfl, rfl⟩
theorem c_nightM {h : AH} {S : SS} {g : Nat → Nat} {n w k : Nat} {x4 x5 : Value} (hO : HOk S) (hg : SOk g (S 12 1)) (hw : w ≤ 420) (hn : n ≤ 99) (hk : k < n) (hr : RepM h (va_up S 0 g)) : ∃ h' y4 y5, Run M_X9_drift 20 [.ref 88, .int (nI n), .int (nI w), .int (nI k), x4, x5] [] h = Run M_X9_drift 20 [.ref 88, .int (nI n), .int (nI w), .int (nI (k + 1)), y4, y5] [] h' ∧ RepM h' (va_up S 0 (nite S w g)) ∧ frM h h' := by
  obtain ⟨⟨a, b, c, d, e', f, g', i1, i2, i3, i4, hm⟩, hA, -⟩ := id hr
  have h7 := hO.1
  have q0 : ¬ nI n ≤ nI k := by rw [nI_le' (by omega) (by omega)]; omega
  have P := c_night hO hg.2.2.2.2 hr
  have b1 := nt_le (s := g 18) hO (S 12 0) (Nat.le_refl _)
  have hN : nite S w g = va_up (va_up (va_up g 18 (nt S (g 18) (S 12 0)).1) 16 (min 999999999 (g 16 + (g 0 * ((nt S (g 18) (S 12 0)).2 - w) + g 1 * (w - (nt S (g 18) (S 12 0)).2))))) 17 (g 17 + 1) := rfl
  generalize (nt S (g 18) (S 12 0)).1 = s1 at *
  generalize (nt S (g 18) (S 12 0)).2 = e at *
  have b2 : g 0 * (e - w) ≤ 20 * 420 := Nat.mul_le_mul hg.1.1 (by omega)
  have b3 : g 1 * (w - e) ≤ 20 * 420 := Nat.mul_le_mul hg.1.2.1 (by omega)
  have b4 := hg.2.2.2.1
  generalize nite S w g = G at *
  have hr' : RepM (hup h 89 (iA 19 (fun i => nI (G i)))) (va_up S 0 G) := by
    have z := hr.arr (k := 0) (f := G) (by decide) rfl
    rw [va_uS] at z
    exact z
  have hm' : ∀ X, (hup h 89 X).2.2 88 = _ := fun X => (hup_ne (by decide)).trans hm
  refine ⟨_, .int (nI e), .int (nI (g 0 * (e - w) + g 1 * (w - e))), ?_, hr', fun a ha => hup_ne (by omega), rfl, rfl⟩
  have T : Run M_X9_drift 64 [.ref 88, .int (nI n), .int (nI w), .int (nI k), .int (nI e), .int (nI (g 0 * (e - w) + g 1 * (w - e)))] [] (hup h 89 (iA 19 (fun i => nI (va_up g 18 s1 i)))) = Run M_X9_drift 20 [.ref 88, .int (nI n), .int (nI w), .int (nI (k + 1)), .int (nI e), .int (nI (g 0 * (e - w) + g 1 * (w - e)))] [] (hup h 89 (iA 19 (fun i => nI (G i)))) := by
    have e16 : va_up g 18 s1 16 = g 16 := va_up_ne _ _ (by decide)
    have e17 : ∀ y, va_up (va_up g 18 s1) 16 y 17 = g 17 := fun y => by rw [va_up_ne _ _ (by decide), va_up_ne _ _ (by decide)]
    have cm : nI (g 16 + (g 0 * (e - w) + g 1 * (w - e))) ≤ nI 999999999 ↔ g 16 + (g 0 * (e - w) + g 1 * (w - e)) ≤ 999999999 := by rw [nI_le' (by omega) (by decide)]
    by_cases qm : g 16 + (g 0 * (e - w) + g 1 * (w - e)) ≤ 999999999
    · rw [Nat.min_eq_right qm] at hN
      subst hN
      simp only [r_X9_drift_64, r_X9_drift_65, r_X9_drift_68, r_X9_drift_70, r_X9_drift_71, r_X9_drift_74, r_X9_drift_76, r_X9_drift_77, r_X9_drift_79, r_X9_drift_80, r_X9_drift_82, r_X9_drift_90, r_X9_drift_91, r_X9_drift_94, r_X9_drift_96, r_X9_drift_97, r_X9_drift_99, r_X9_drift_100, r_X9_drift_101, r_X9_drift_102, r_X9_drift_105, r_X9_drift_107, r_X9_drift_108, r_X9_drift_109, r_X9_drift_110, r_X9_drift_111, r_X9_drift_112, r_X9_drift_115, ↓reduceIte, Option.isSome_some, Option.getD_some, rL_v, rL_n, cH_s, List.cons_append, List.nil_append, cat_i, cat_r, cat_n, ofN, g9_0 (hm' _), gI_u (show 19 < 2147483648 by decide) (show 16 < 19 by decide), gI_u (show 19 < 2147483648 by decide) (show 17 < 19 by decide), e16, e17, nI_add, cm, qm, pI_u (show 19 < 2147483648 by decide) (show 89 ≠ 0 by decide) (show 16 < 19 by decide), pI_u (show 19 < 2147483648 by decide) (show 89 ≠ 0 by decide) (show 17 < 19 by decide), upd_nI]
    · rw [Nat.min_eq_left (by omega)] at hN
      subst hN
      simp only [r_X9_drift_64, r_X9_drift_65, r_X9_drift_68, r_X9_drift_70, r_X9_drift_71, r_X9_drift_74, r_X9_drift_76, r_X9_drift_77, r_X9_drift_79, r_X9_drift_80, r_X9_drift_82, r_X9_drift_85, r_X9_drift_87, r_X9_drift_100, r_X9_drift_101, r_X9_drift_102, r_X9_drift_105, r_X9_drift_107, r_X9_drift_108, r_X9_drift_109, r_X9_drift_110, r_X9_drift_111, r_X9_drift_112, r_X9_drift_115, ↓reduceIte, Option.isSome_some, Option.getD_some, rL_v, rL_n, cH_s, List.cons_append, List.nil_append, cat_i, cat_r, cat_n, ofN, g9_0 (hm' _), gI_u (show 19 < 2147483648 by decide) (show 16 < 19 by decide), gI_u (show 19 < 2147483648 by decide) (show 17 < 19 by decide), e16, e17, nI_add, cm, qm, pI_u (show 19 < 2147483648 by decide) (show 89 ≠ 0 by decide) (show 16 < 19 by decide), pI_u (show 19 < 2147483648 by decide) (show 89 ≠ 0 by decide) (show 17 < 19 by decide), upd_nI]
  have e0 : va_up g 18 s1 0 = g 0 := va_up_ne _ _ (by decide)
  have e1 : va_up g 18 s1 1 = g 1 := va_up_ne _ _ (by decide)
  have ce : nI e ≤ nI w ↔ e ≤ w := by rw [nI_le' (by omega) (by omega)]
  rw [← T]
  clear T
  rw [r_X9_drift_20]
  by_cases qe : e ≤ w
  · have z : g 0 * (e - w) = 0 := by rw [show e - w = 0 by omega, Nat.mul_zero]
    rw [z, Nat.zero_add]
    simp only [r_X9_drift_21, r_X9_drift_22, r_X9_drift_25, r_X9_drift_26, r_X9_drift_29, r_X9_drift_31, r_X9_drift_33, r_X9_drift_34, r_X9_drift_51, r_X9_drift_52, r_X9_drift_55, r_X9_drift_56, r_X9_drift_57, r_X9_drift_58, r_X9_drift_60, r_X9_drift_61, r_X9_drift_62, ↓reduceIte, Option.isSome_some, Option.getD_some, rL_v, rL_n, cH_s, List.cons_append, List.nil_append, cat_i, cat_r, cat_n, ofN, q0, ro9 hm, P, ce, qe, g9_0 (hm' _), gI_u (show 19 < 2147483648 by decide) (show 1 < 19 by decide), e1, nI_s qe, nI_m]
  · have z : g 1 * (w - e) = 0 := by rw [show w - e = 0 by omega, Nat.mul_zero]
    rw [z, Nat.add_zero]
    simp only [r_X9_drift_21, r_X9_drift_22, r_X9_drift_25, r_X9_drift_26, r_X9_drift_29, r_X9_drift_31, r_X9_drift_33, r_X9_drift_34, r_X9_drift_37, r_X9_drift_38, r_X9_drift_41, r_X9_drift_42, r_X9_drift_43, r_X9_drift_45, r_X9_drift_46, r_X9_drift_47, r_X9_drift_48, r_X9_drift_62, ↓reduceIte, Option.isSome_some, Option.getD_some, rL_v, rL_n, cH_s, List.cons_append, List.nil_append, cat_i, cat_r, cat_n, ofN, q0, ro9 hm, P, ce, qe, g9_0 (hm' _), gI_u (show 19 < 2147483648 by decide) (show 0 < 19 by decide), e0, nI_s (show w ≤ e by omega), nI_m]
theorem op_drift {S : SS} (hI : Inv S) (x : Int32) : OpV M_X8_drift M_X9_drift [.int x] S := by
  obtain ⟨hH, hT, hG, hIm, hR⟩ := id hI
  have hn := hH.1
  have hp5 := hT.1
  have hb := bGo_le S
  by_cases hx : nI 1 ≤ x ∧ x ≤ nI 99
  · obtain ⟨n, hn99, rfl⟩ := rng (B := 99) (by decide) ⟨Int32.le_trans (by decide) hx.1, hx.2⟩
    have CC := fun h o (hr : RepCo h S o) => c_cheapestGo hI hr
    have CM := fun h (hr : RepM h S) => c_mBestGo hI hr
    generalize bGo S = w at *
    refine op_mk (r := .int (nI (nts S w n (S 0) 16))) (S' := va_up S 0 (nts S w n (S 0))) ⟨hH, hT, hG.nts hp5 n, hIm, hR⟩ (fun h o hr => ?_) (fun h hr => ?_)
    · have L : ∀ m k H g, k + m = n → SOk g (S 12 1) → RepCo H (va_up S 0 g) o → frC h H → ∃ h', Run M_X8_drift 20 [.ref 1, .int (nI n), .int (nI w), .int (nI k)] [] H = some (h', some (.int (nI (nts S w m g 16)))) ∧ RepCo h' (va_up S 0 (nts S w m g)) o ∧ frC h h' := by
        intro m
        induction m with
        | zero =>
          intro k H g hk hg hr hf
          have e : k = n := by omega
          subst e
          obtain ⟨h0, h1, -, ⟨hH1, -, -, -, ⟨hA1, -⟩, -⟩, -⟩ := id hr
          have hA1 : H.2.2 (o + 4) = some (oAg (nI (g 0)) (nI (g 1)) (nI (g 2)) (nI (g 3)) (nI (g 4)) (o + 4 + 1) (o + 4 + 2) (nI (g 15)) (nI (g 16)) (nI (g 17)) (nI (g 18))) := hA1
          rw [nts_0]
          refine ⟨H, ?_, hr, hf⟩
          simp only [r_X8_drift_20, r_X8_drift_21, r_X8_drift_22, r_X8_drift_36, r_X8_drift_37, r_X8_drift_40, r_X8_drift_43, r_X8_drift_46, ↓reduceIte, Option.isSome_some, Option.getD_some, rL_v, rL_n, cH_s, List.cons_append, List.nil_append, cat_i, cat_r, cat_n, ofN, Int32.le_refl, g8_0 h1, g8_1 h1, g8_2 h1, g8_3 h1, g8_4 h1, g8_5 h1, g8_6 h1, g8_7 h1, g8_8 h1, ro8 h1, g4_0 hH1, g4_1 hH1, g4_2 hH1, g4_3 hH1, g4_4 hH1, g4_5 hH1, g4_6 hH1, ro4 hH1, g0_0 hA1, g0_1 hA1, g0_2 hA1, g0_3 hA1, g0_4 hA1, g0_5 hA1, g0_6 hA1, g0_7 hA1, g0_8 hA1, g0_9 hA1, g0_10 hA1, ro0 hA1]
        | succ m ih =>
          intro k H g hk hg hr hf
          have h1 := hr.2.1
          have q0 : ¬ nI n ≤ nI k := by rw [nI_le' (by omega) (by omega)]; omega
          obtain ⟨H1, P, hr', hf'⟩ := c_nightC hH hp5 hg hb hr
          have hg' := hg.nite (S := S) (w := w) hp5
          rw [nts_s]
          generalize nite S w g = G at *
          obtain ⟨h', u1, u2, u3⟩ := ih (k + 1) H1 G (by omega) hg' hr' ⟨fun a ha => (hf'.1 a ha).trans (hf.1 a ha), hf'.2.1.trans hf.2.1, hf'.2.2.trans hf.2.2⟩
          refine ⟨h', ?_, u2, u3⟩
          rw [r_X8_drift_20]
          simp only [r_X8_drift_21, r_X8_drift_22, r_X8_drift_25, r_X8_drift_26, r_X8_drift_27, r_X8_drift_30, r_X8_drift_33, ↓reduceIte, Option.isSome_some, Option.getD_some, rL_v, rL_n, cH_s, List.cons_append, List.nil_append, cat_i, cat_r, cat_n, ofN, q0, ro8 h1, P, nI_add]
          exact u1
      have hr0 : RepCo h (va_up S 0 (S 0)) o := by rw [va_own]; exact hr
      obtain ⟨h', u1, u2, u3⟩ := L n 0 h (S 0) (by omega) hG hr0 frC.rf
      refine ⟨h', ?_, u2, u3⟩
      have h1 := hr.2.1
      show Run M_X8_drift 0 [.ref 1, .int (nI n), .null, .null] [] h = _
      simp only [r_X8_drift_0, r_X8_drift_1, r_X8_drift_2, r_X8_drift_4, r_X8_drift_7, r_X8_drift_10, r_X8_drift_12, r_X8_drift_13, r_X8_drift_14, r_X8_drift_17, r_X8_drift_18, r_X8_drift_19, ↓reduceIte, Option.isSome_some, Option.getD_some, rL_v, rL_n, cH_s, List.cons_append, List.nil_append, cat_i, cat_r, cat_n, ofN, c_within, ite_bI, hx, and_self, ro8 h1, CC h o hr]
      exact u1
    · have L : ∀ m k x4 x5 H g, k + m = n → SOk g (S 12 1) → RepM H (va_up S 0 g) → frM h H → ∃ h', Run M_X9_drift 20 [.ref 88, .int (nI n), .int (nI w), .int (nI k), x4, x5] [] H = some (h', some (.int (nI (nts S w m g 16)))) ∧ RepM h' (va_up S 0 (nts S w m g)) ∧ frM h h' := by
        intro m
        induction m with
        | zero =>
          intro k x4 x5 H g hk hg hr hf
          have e : k = n := by omega
          subst e
          obtain ⟨⟨a, b, c, d, e', f, g', i1, i2, i3, i4, hm⟩, hA, -⟩ := id hr
          have h89 : H.2.2 89 = some (iA 19 (fun i => nI (g i))) := hA 89 _ rfl
          rw [nts_0]
          refine ⟨H, ?_, hr, hf⟩
          simp only [r_X9_drift_20, r_X9_drift_21, r_X9_drift_22, r_X9_drift_118, r_X9_drift_119, r_X9_drift_122, r_X9_drift_124, r_X9_drift_125, ↓reduceIte, Option.isSome_some, Option.getD_some, rL_v, rL_n, cH_s, List.cons_append, List.nil_append, cat_i, cat_r, cat_n, ofN, Int32.le_refl, g9_0 hm, gI_nI h89 (by decide) (show 16 < 19 by decide)]
        | succ m ih =>
          intro k x4 x5 H g hk hg hr hf
          obtain ⟨H1, y4, y5, P, hr', hf'⟩ := c_nightM (x4 := x4) (x5 := x5) (n := n) (k := k) hH hg hb hn99 (by omega) hr
          have hg' := hg.nite (S := S) (w := w) hp5
          rw [nts_s]
          generalize nite S w g = G at *
          obtain ⟨h', u1, u2, u3⟩ := ih (k + 1) y4 y5 H1 G (by omega) hg' hr' ⟨fun a ha => (hf'.1 a ha).trans (hf.1 a ha), hf'.2.1.trans hf.2.1, hf'.2.2.trans hf.2.2⟩
          exact ⟨h', P.trans u1, u2, u3⟩
      obtain ⟨h', p1, p2, p3, -⟩ := CM h hr
      have hr0 : RepM h' (va_up S 0 (S 0)) := by rw [va_own]; exact p2
      obtain ⟨h'', u1, u2, u3⟩ := L n 0 .null .null h' (S 0) (by omega) hG hr0 ⟨fun a ha => p3.1 a (by omega) (by omega), p3.2.1, p3.2.2⟩
      refine ⟨h'', ?_, u2, u3⟩
      obtain ⟨⟨a, b, c, d, e', f, g', i1, i2, i3, i4, hm⟩, -⟩ := id hr
      show Run M_X9_drift 0 [.ref 88, .int (nI n), .null, .null, .null, .null] [] h = _
      simp only [r_X9_drift_0, r_X9_drift_1, r_X9_drift_2, r_X9_drift_4, r_X9_drift_7, r_X9_drift_10, r_X9_drift_12, r_X9_drift_13, r_X9_drift_14, r_X9_drift_17, r_X9_drift_18, r_X9_drift_19, ↓reduceIte, Option.isSome_some, Option.getD_some, rL_v, rL_n, cH_s, List.cons_append, List.nil_append, cat_i, cat_r, cat_n, ofN, c_in, ite_bI, hx, and_self, ro9 hm, p1]
      exact u1
  · refine OpV.read (r := .int (-1000000002)) hI (fun h hr => ?_) (fun h hr => ?_)
    · show Run M_X8_drift 0 [.ref 1, .int x, .null, .null] [] h = _
      simp only [r_X8_drift_0, r_X8_drift_1, r_X8_drift_2, r_X8_drift_4, r_X8_drift_7, r_X8_drift_10, r_X8_drift_12, ↓reduceIte, Option.isSome_some, Option.getD_some, rL_v, rL_n, cH_s, List.cons_append, List.nil_append, cat_i, cat_r, cat_n, ofN, c_within, ite_bI, hx]
    · show Run M_X9_drift 0 [.ref 88, .int x, .null, .null, .null, .null] [] h = _
      simp only [r_X9_drift_0, r_X9_drift_1, r_X9_drift_2, r_X9_drift_4, r_X9_drift_7, r_X9_drift_10, r_X9_drift_12, ↓reduceIte, Option.isSome_some, Option.getD_some, rL_v, rL_n, cH_s, List.cons_append, List.nil_append, cat_i, cat_r, cat_n, ofN, c_in, ite_bI, hx]
