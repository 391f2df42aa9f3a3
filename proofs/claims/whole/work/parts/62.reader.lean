/-! ===== hall: the class's reader ===== -/
def hrL (T : Nat → Nat) (n a : Nat) : Int32 := if a < n then nI (T a) else -1
theorem c_skip {h : AH} {T : Nat → Nat} {n : Nat} {fa fl na sg co : Int32} (hn : n ≤ 250) (hT : ∀ i, i < n → T i < 256) (h3 : h.2.2 3 = some (iA 250 (fun i => nI (T i)))) : ∀ {a : Nat}, a ≤ n → h.2.2 2 = some (oRd 3 (nI n) fa fl (nI a) na sg co) → Call M_X7_skipBlanks h [.ref 2] = some (hup h 2 (oRd 3 (nI n) fa fl (nI (sk T n a)) na sg co), none) := by
  intro a ha h2
  have h3' : ∀ X, (hup h 2 X).2.2 3 = _ := fun X => (hup_ne (by decide)).trans h3
  have L : ∀ k b, b + k = n → Run M_X7_skipBlanks 0 [.ref 2] [] (hup h 2 (oRd 3 (nI n) fa fl (nI b) na sg co)) = some (hup h 2 (oRd 3 (nI n) fa fl (nI (sk T n b)) na sg co), none) := by
    intro k
    induction k with
    | zero =>
      intro b hb
      have e : b = n := by omega
      subst e
      rw [sk_n (by omega)]
      simp only [r_X7_skipBlanks_0, r_X7_skipBlanks_1, r_X7_skipBlanks_4, r_X7_skipBlanks_5, r_X7_skipBlanks_8, r_X7_skipBlanks_38, ↓reduceIte, Option.isSome_some, Option.getD_some, rL_v, rL_n, cH_s, List.cons_append, List.nil_append, cat_i, cat_r, cat_n, ofN, rou7, gu7_0, pu7_0, gu7_1, pu7_1, gu7_2, pu7_2, gu7_3, pu7_3, gu7_4, pu7_4, gu7_5, pu7_5, gu7_6, pu7_6, gu7_7, pu7_7, Int32.le_refl]
    | succ k ih =>
      intro b hb
      have q0 : ¬ nI n ≤ nI b := by rw [nI_le' (by omega) (by omega)]; omega
      have ht := hT b (by omega)
      have c : (nI (T b) = nI 32) = (T b = 32) := nI_inj (by omega) (by decide)
      by_cases q : T b = 32
      · rw [sk_y ⟨by omega, q⟩, ← ih (b + 1) (by omega), r_X7_skipBlanks_0]
        simp only [r_X7_skipBlanks_1, r_X7_skipBlanks_4, r_X7_skipBlanks_5, r_X7_skipBlanks_8, r_X7_skipBlanks_11, r_X7_skipBlanks_12, r_X7_skipBlanks_15, r_X7_skipBlanks_16, r_X7_skipBlanks_19, r_X7_skipBlanks_20, r_X7_skipBlanks_22, r_X7_skipBlanks_25, r_X7_skipBlanks_26, r_X7_skipBlanks_27, r_X7_skipBlanks_30, r_X7_skipBlanks_31, r_X7_skipBlanks_32, r_X7_skipBlanks_35, ↓reduceIte, Option.isSome_some, Option.getD_some, rL_v, rL_n, cH_s, List.cons_append, List.nil_append, cat_i, cat_r, cat_n, ofN, rou7, gu7_0, pu7_0, gu7_1, pu7_1, gu7_2, pu7_2, gu7_3, pu7_3, gu7_4, pu7_4, gu7_5, pu7_5, gu7_6, pu7_6, gu7_7, pu7_7, q0, gI_nI (h3' _) (by decide) (show b < 250 by omega), c, q, nI_add]
      · rw [sk_n (fun z => q z.2)]
        simp only [r_X7_skipBlanks_0, r_X7_skipBlanks_1, r_X7_skipBlanks_4, r_X7_skipBlanks_5, r_X7_skipBlanks_8, r_X7_skipBlanks_11, r_X7_skipBlanks_12, r_X7_skipBlanks_15, r_X7_skipBlanks_16, r_X7_skipBlanks_19, r_X7_skipBlanks_20, r_X7_skipBlanks_22, r_X7_skipBlanks_38, ↓reduceIte, Option.isSome_some, Option.getD_some, rL_v, rL_n, cH_s, List.cons_append, List.nil_append, cat_i, cat_r, cat_n, ofN, rou7, gu7_0, pu7_0, gu7_1, pu7_1, gu7_2, pu7_2, gu7_3, pu7_3, gu7_4, pu7_4, gu7_5, pu7_5, gu7_6, pu7_6, gu7_7, pu7_7, q0, gI_nI (h3' _) (by decide) (show b < 250 by omega), c, q]
  have I := L (n - a) a (by omega)
  rw [hup_same h2] at I
  exact I
theorem c_here {h : AH} {T : Nat → Nat} {n a : Nat} {fa fl na sg co : Int32} (hn : n ≤ 250) (ha : a ≤ n) (h3 : h.2.2 3 = some (iA 250 (fun i => nI (T i)))) (h2 : h.2.2 2 = some (oRd 3 (nI n) fa fl (nI a) na sg co)) : Call M_X7_here h [.ref 2] = some (h, some (.int (hrL T n a))) := by
  have c : (nI n ≤ nI a) = (n ≤ a) := nI_le' (by omega) (by omega)
  show Run M_X7_here 0 [.ref 2] [] h = _
  unfold hrL
  by_cases q : a < n
  · have q' : ¬ n ≤ a := by omega
    rw [if_pos q]
    simp only [r_X7_here_0, r_X7_here_1, r_X7_here_4, r_X7_here_5, r_X7_here_8, r_X7_here_11, r_X7_here_12, r_X7_here_15, r_X7_here_16, r_X7_here_19, r_X7_here_20, r_X7_here_24, ↓reduceIte, Option.isSome_some, Option.getD_some, rL_v, rL_n, cH_s, List.cons_append, List.nil_append, cat_i, cat_r, cat_n, ofN, g7_0 h2, g7_1 h2, g7_2 h2, g7_3 h2, g7_4 h2, g7_5 h2, g7_6 h2, g7_7 h2, ro7 h2, c, q', gI_nI h3 (by decide) (show a < 250 by omega)]
  · have q' : n ≤ a := by omega
    rw [if_neg q]
    simp only [r_X7_here_0, r_X7_here_1, r_X7_here_4, r_X7_here_5, r_X7_here_8, r_X7_here_23, r_X7_here_24, ↓reduceIte, Option.isSome_some, Option.getD_some, rL_v, rL_n, cH_s, List.cons_append, List.nil_append, cat_i, cat_r, cat_n, ofN, g7_0 h2, g7_1 h2, g7_2 h2, g7_3 h2, g7_4 h2, g7_5 h2, g7_6 h2, g7_7 h2, ro7 h2, c, q']
theorem hrL_eq {T : Nat → Nat} {n a c : Nat} (hT : ∀ i, i < n → T i < 256) (hc : c < 256) : (hrL T n a = nI c) = (a < n ∧ T a = c) := by
  unfold hrL
  by_cases q : a < n
  · have := hT a q
    rw [if_pos q, nI_inj (by omega) (by omega)]
    simp [q]
  · rw [if_neg q]
    apply propext
    constructor
    · intro e; exact absurd e.symm (nI_neg1 (by omega))
    · intro e; exact absurd e.1 q
theorem hrL_fig {T : Nat → Nat} {n a : Nat} (hT : ∀ i, i < n → T i < 256) : fig T n a → ¬ hrL T n a < nI 48 ∧ ¬ nI 57 < hrL T n a ∧ hrL T n a = nI (T a) := by
  intro q
  have := hT a q.1
  unfold hrL
  rw [if_pos q.1]
  refine ⟨?_, ?_, rfl⟩
  · rw [nI_lt' (by omega) (by decide)]; omega
  · rw [nI_lt' (by decide) (by omega)]; omega
theorem hrL_nof {T : Nat → Nat} {n a : Nat} (hT : ∀ i, i < n → T i < 256) (q : ¬ fig T n a) : hrL T n a < nI 48 ∨ nI 57 < hrL T n a := by
  unfold hrL
  by_cases z : a < n
  · have := hT a z
    rw [if_pos z, nI_lt' (by omega) (by decide), nI_lt' (by decide) (by omega)]
    by_cases y : T a < 48
    · exact Or.inl y
    · exact Or.inr (Nat.lt_of_not_le (fun w => q ⟨z, by omega, w⟩))
  · rw [if_neg z]; exact Or.inl (by decide)
theorem c_fail {h : AH} {F : Nat × Nat} {c p : Nat} {n' at' na sg co : Int32} (hF : F.1 < 2147483648) (h2 : h.2.2 2 = some (oRd 3 n' (fI F.2) (nI F.1) at' na sg co)) : Call M_X7_fail h [.ref 2, .int (nI c), .int (nI p)] = some (hup h 2 (oRd 3 n' (fI (oo F (c, p + 1)).2) (nI (oo F (c, p + 1)).1) at' na sg co), none) := by
  have z : (nI F.1 = nI 0) = (F.1 = 0) := nI_inj hF (by decide)
  show Run M_X7_fail 0 [.ref 2, .int (nI c), .int (nI p)] [] h = _
  by_cases q : F.1 = 0
  · rw [oo_w q]
    simp only [r_X7_fail_0, r_X7_fail_1, r_X7_fail_4, r_X7_fail_7, r_X7_fail_8, r_X7_fail_9, r_X7_fail_12, r_X7_fail_13, r_X7_fail_14, r_X7_fail_17, ↓reduceIte, Option.isSome_some, Option.getD_some, rL_v, rL_n, cH_s, List.cons_append, List.nil_append, cat_i, cat_r, cat_n, ofN, g7_0 h2, p7_0 h2, g7_1 h2, p7_1 h2, g7_2 h2, p7_2 h2, g7_3 h2, p7_3 h2, g7_4 h2, p7_4 h2, g7_5 h2, p7_5 h2, g7_6 h2, p7_6 h2, g7_7 h2, p7_7 h2, ro7 h2, z, q, rou7, gu7_0, pu7_0, gu7_1, pu7_1, gu7_2, pu7_2, gu7_3, pu7_3, gu7_4, pu7_4, gu7_5, pu7_5, gu7_6, pu7_6, gu7_7, pu7_7, fI_s]
  · rw [oo_i q, hup_same h2]
    simp only [r_X7_fail_0, r_X7_fail_1, r_X7_fail_4, r_X7_fail_17, ↓reduceIte, Option.isSome_some, Option.getD_some, rL_v, rL_n, cH_s, List.cons_append, List.nil_append, cat_i, cat_r, cat_n, ofN, g7_0 h2, p7_0 h2, g7_1 h2, p7_1 h2, g7_2 h2, p7_2 h2, g7_3 h2, p7_3 h2, g7_4 h2, p7_4 h2, g7_5 h2, p7_5 h2, g7_6 h2, p7_6 h2, g7_7 h2, p7_7 h2, ro7 h2, z, q]
/-- a fault as it may stand: its place is some letter's -/
def FOk (n : Nat) (F : Nat × Nat) : Prop := F.1 < 5 ∧ (F.1 = 0 → F = (0, 0)) ∧ F.2 ≤ n + 1
theorem FOk.z {n : Nat} : FOk n (0, 0) := ⟨by decide, fun _ => rfl, Nat.zero_le _⟩
theorem FOk.mk {n c p : Nat} (hc : 0 < c) (h5 : c < 5) (hp : p ≤ n) : FOk n (c, p + 1) := ⟨h5, fun e => absurd e (Nat.ne_of_gt hc), Nat.succ_le_succ hp⟩
theorem FOk.oo {n : Nat} {F o : Nat × Nat} (hF : FOk n F) (ho : FOk n o) : FOk n (oo F o) := by
  by_cases q : F.1 = 0
  · rw [oo_w q]; exact ho
  · rw [oo_i q]; exact hF
theorem oo_z {n : Nat} {F : Nat × Nat} (hF : FOk n F) : oo F (0, 0) = F := by
  by_cases q : F.1 = 0
  · rw [oo_w q, hF.2.1 q]
  · rw [oo_i q]
theorem FOk_nf {T : Nat → Nat} {n a lo hi : Nat} (ha : a ≤ n) : FOk n (nf T n a lo hi) := by
  have := sk_le (T := T) ha
  unfold nf
  split
  · exact FOk.mk (by decide) (by decide) this
  · split
    · exact FOk.mk (by decide) (by decide) this
    · exact FOk.z
theorem FOk_cf {T : Nat → Nat} {n a : Nat} (ha : a ≤ n) : FOk n (cf T n a) := by
  have := sk_le (T := T) ha
  unfold cf
  split
  · exact FOk.z
  · exact FOk.mk (by decide) (by decide) this
theorem c_number {h : AH} {T : Nat → Nat} {n a lo hi : Nat} {F : Nat × Nat} {na sg co : Int32} (hn : n ≤ 250) (hT : ∀ i, i < n → T i < 256) (ha : a ≤ n) (hF : FOk n F) (hlo : lo ≤ 1000) (hhi : hi ≤ 1000) (h3 : h.2.2 3 = some (iA 250 (fun i => nI (T i)))) (h2 : h.2.2 2 = some (oRd 3 (nI n) (fI F.2) (nI F.1) (nI a) na sg co)) : Call M_X7_number h [.ref 2, .int (nI lo), .int (nI hi)] = some (hup h 2 (oRd 3 (nI n) (fI (oo F (nf T n a lo hi)).2) (nI (oo F (nf T n a lo hi)).1) (nI (nb T n a)) (nI (sk T n a)) sg co), some (.int (nI (vl T n a)))) := by
  have h3' : ∀ X, (hup h 2 X).2.2 3 = _ := fun X => (hup_ne (by decide)).trans h3
  have hs := sk_le (T := T) ha
  have hb : dg T n (sk T n a) ≤ n := nb_le (T := T) ha
  have hg := dg_ge (T := T) hs
  have hv := vl_le (T := T) ha
  have hF2 : F.1 < 2147483648 := by have := hF.1; omega
  have L : ∀ k m, m + k = fg T n a → Run M_X7_number 26 [.ref 2, .int (nI lo), .int (nI hi), .int (nI (vv T (sk T n a) m)), .int (nI m), .int (hrL T n (sk T n a + m)), .int (nI m)] [] (hup h 2 (oRd 3 (nI n) (fI F.2) (nI F.1) (nI (sk T n a + m)) (nI (sk T n a)) sg co)) = Run M_X7_number 90 [.ref 2, .int (nI lo), .int (nI hi), .int (nI (vl T n a)), .int (nI (fg T n a)), .int (hrL T n (nb T n a)), .int (nI (fg T n a))] [] (hup h 2 (oRd 3 (nI n) (fI F.2) (nI F.1) (nI (nb T n a)) (nI (sk T n a)) sg co)) := by
    intro k
    induction k with
    | zero =>
      intro m hm
      have e : m = fg T n a := by omega
      have e2 : sk T n a + m = nb T n a := by rw [e]; show sk T n a + (dg T n (sk T n a) - sk T n a) = dg T n (sk T n a); omega
      rw [e2]
      subst e
      have hfe := hrL_nof hT (dg_end (T := T) hs)
      have m250 : fg T n a ≤ 250 := by show dg T n (sk T n a) - sk T n a ≤ 250; omega
      by_cases y : nI 250 ≤ nI (fg T n a)
      · simp only [r_X7_number_26, r_X7_number_28, r_X7_number_31, ↓reduceIte, Option.isSome_some, Option.getD_some, rL_v, rL_n, cH_s, List.cons_append, List.nil_append, cat_i, cat_r, cat_n, ofN, y]
      · rcases hfe with q | q
        · simp only [r_X7_number_26, r_X7_number_28, r_X7_number_31, r_X7_number_34, r_X7_number_36, r_X7_number_38, ↓reduceIte, Option.isSome_some, Option.getD_some, rL_v, rL_n, cH_s, List.cons_append, List.nil_append, cat_i, cat_r, cat_n, ofN, y, q]
        · by_cases q2 : hrL T n (nb T n a) < nI 48
          · simp only [r_X7_number_26, r_X7_number_28, r_X7_number_31, r_X7_number_34, r_X7_number_36, r_X7_number_38, ↓reduceIte, Option.isSome_some, Option.getD_some, rL_v, rL_n, cH_s, List.cons_append, List.nil_append, cat_i, cat_r, cat_n, ofN, y, q2]
          · simp only [r_X7_number_26, r_X7_number_28, r_X7_number_31, r_X7_number_34, r_X7_number_36, r_X7_number_38, r_X7_number_41, r_X7_number_43, r_X7_number_45, ↓reduceIte, Option.isSome_some, Option.getD_some, rL_v, rL_n, cH_s, List.cons_append, List.nil_append, cat_i, cat_r, cat_n, ofN, y, q2, q]
    | succ k ih =>
      intro m hm
      have hm' : m < dg T n (sk T n a) - sk T n a := by show m < fg T n a; omega
      have ff : fig T n (sk T n a + m) := dg_in hs (by omega) (by omega)
      obtain ⟨f1, f2, f3⟩ := hrL_fig hT ff
      have ff1 := ff.1
      have y : ¬ nI 250 ≤ nI m := by rw [nI_le' (by decide) (by omega)]; omega
      have I := ih (m + 1) (by omega)
      rw [← Nat.add_assoc] at I
      have hh := c_here (T := T) (n := n) (a := sk T n a + m + 1) (fa := fI F.2) (fl := nI F.1) (na := nI (sk T n a)) (sg := sg) (co := co) hn (by omega) (h3' _) (hup_get (h := h) (a := 2))
      have c3 : (nI 3 ≤ nI m) = (3 ≤ m) := nI_le' (by decide) (by omega)
      rw [r_X7_number_26]
      simp only [vv] at I
      by_cases q : m < 3
      · have q' : ¬ 3 ≤ m := by omega
        rw [if_pos q] at I
        have e : nI (vv T (sk T n a) m) * nI 10 + nI (T (sk T n a + m)) - nI 48 = nI (vv T (sk T n a) m * 10 + T (sk T n a + m) - 48) := by
          rw [nI_m, nI_add, nI_s (by have := ff.2.1; omega)]
        rw [← e] at I
        rw [f3] at f1 f2
        simp only [f3, r_X7_number_28, r_X7_number_31, r_X7_number_34, r_X7_number_36, r_X7_number_38, r_X7_number_41, r_X7_number_43, r_X7_number_45, r_X7_number_48, r_X7_number_50, r_X7_number_51, r_X7_number_54, r_X7_number_55, r_X7_number_57, r_X7_number_58, r_X7_number_60, r_X7_number_61, r_X7_number_63, r_X7_number_64, r_X7_number_65, r_X7_number_68, r_X7_number_69, r_X7_number_70, r_X7_number_73, r_X7_number_74, r_X7_number_75, r_X7_number_78, r_X7_number_79, r_X7_number_82, r_X7_number_84, r_X7_number_87, ↓reduceIte, Option.isSome_some, Option.getD_some, rL_v, rL_n, cH_s, List.cons_append, List.nil_append, cat_i, cat_r, cat_n, ofN, y, f1, f2, c3, q', rou7, gu7_0, pu7_0, gu7_1, pu7_1, gu7_2, pu7_2, gu7_3, pu7_3, gu7_4, pu7_4, gu7_5, pu7_5, gu7_6, pu7_6, gu7_7, pu7_7, nI_add, hh]
        exact I
      · have q' : 3 ≤ m := by omega
        rw [if_neg q] at I
        simp only [r_X7_number_28, r_X7_number_31, r_X7_number_34, r_X7_number_36, r_X7_number_38, r_X7_number_41, r_X7_number_43, r_X7_number_45, r_X7_number_48, r_X7_number_50, r_X7_number_51, r_X7_number_65, r_X7_number_68, r_X7_number_69, r_X7_number_70, r_X7_number_73, r_X7_number_74, r_X7_number_75, r_X7_number_78, r_X7_number_79, r_X7_number_82, r_X7_number_84, r_X7_number_87, ↓reduceIte, Option.isSome_some, Option.getD_some, rL_v, rL_n, cH_s, List.cons_append, List.nil_append, cat_i, cat_r, cat_n, ofN, y, f1, f2, c3, q', rou7, gu7_0, pu7_0, gu7_1, pu7_1, gu7_2, pu7_2, gu7_3, pu7_3, gu7_4, pu7_4, gu7_5, pu7_5, gu7_6, pu7_6, gu7_7, pu7_7, nI_add, hh]
        exact I
  have I := L (fg T n a) 0 (by omega)
  have hsk := c_skip (T := T) (fa := fI F.2) (fl := nI F.1) (na := na) (sg := sg) (co := co) hn hT h3 ha h2
  have hh := c_here (T := T) (n := n) (a := sk T n a) (fa := fI F.2) (fl := nI F.1) (na := nI (sk T n a)) (sg := sg) (co := co) hn hs (h3' _) (hup_get (h := h) (a := 2))
  have E : Call M_X7_number h [.ref 2, .int (nI lo), .int (nI hi)] = Run M_X7_number 90 [.ref 2, .int (nI lo), .int (nI hi), .int (nI (vl T n a)), .int (nI (fg T n a)), .int (hrL T n (nb T n a)), .int (nI (fg T n a))] [] (hup h 2 (oRd 3 (nI n) (fI F.2) (nI F.1) (nI (nb T n a)) (nI (sk T n a)) sg co)) := by
    rw [← I]
    show Run M_X7_number 0 [.ref 2, .int (nI lo), .int (nI hi), .null, .null, .null, .null] [] h = _
    simp only [r_X7_number_0, r_X7_number_1, r_X7_number_4, r_X7_number_5, r_X7_number_6, r_X7_number_9, r_X7_number_12, r_X7_number_13, r_X7_number_14, r_X7_number_15, r_X7_number_17, r_X7_number_18, r_X7_number_21, r_X7_number_23, r_X7_number_24, ↓reduceIte, Option.isSome_some, Option.getD_some, rL_v, rL_n, cH_s, List.cons_append, List.nil_append, cat_i, cat_r, cat_n, ofN, ro7 h2, hsk, rou7, gu7_0, pu7_0, gu7_1, pu7_1, gu7_2, pu7_2, gu7_3, pu7_3, gu7_4, pu7_4, gu7_5, pu7_5, gu7_6, pu7_6, gu7_7, pu7_7, hh]
    rfl
  rw [E]
  have fgl : fg T n a ≤ 250 := by show dg T n (sk T n a) - sk T n a ≤ 250; omega
  have z0 : (nI (fg T n a) = nI 0) = (fg T n a = 0) := nI_inj (by omega) (by decide)
  have z3 : (nI 3 < nI (fg T n a)) = (3 < fg T n a) := nI_lt' (by decide) (by omega)
  have cF := fun (p : Nat) (c : Nat) => c_fail (h := hup h 2 (oRd 3 (nI n) (fI F.2) (nI F.1) (nI (nb T n a)) (nI (sk T n a)) sg co)) (F := F) (c := c) (p := p) hF2 hup_get
  simp only [hup_hup] at cF
  unfold nf
  by_cases q0 : fg T n a = 0
  · have e : nb T n a = sk T n a := by
      have e' : dg T n (sk T n a) - sk T n a = 0 := q0
      show dg T n (sk T n a) = sk T n a
      omega
    rw [if_pos q0]
    rw [e] at cF ⊢
    simp only [r_X7_number_90, r_X7_number_92, r_X7_number_95, r_X7_number_96, r_X7_number_97, r_X7_number_98, r_X7_number_101, r_X7_number_104, r_X7_number_131, r_X7_number_132, ↓reduceIte, Option.isSome_some, Option.getD_some, rL_v, rL_n, cH_s, List.cons_append, List.nil_append, cat_i, cat_r, cat_n, ofN, z0, q0, rou7, gu7_0, pu7_0, gu7_1, pu7_1, gu7_2, pu7_2, gu7_3, pu7_3, gu7_4, pu7_4, gu7_5, pu7_5, gu7_6, pu7_6, gu7_7, pu7_7, cF]
  · rw [if_neg q0]
    have wi : (nI lo ≤ nI (vl T n a) ∧ nI (vl T n a) ≤ nI hi) = (lo ≤ vl T n a ∧ vl T n a ≤ hi) := by rw [nI_le' (by omega) (by omega), nI_le' (by omega) (by omega)]
    by_cases q1 : 3 < fg T n a
    · rw [if_pos (Or.inl q1)]
      simp only [r_X7_number_90, r_X7_number_92, r_X7_number_107, r_X7_number_109, r_X7_number_110, r_X7_number_122, r_X7_number_123, r_X7_number_124, r_X7_number_125, r_X7_number_128, r_X7_number_131, r_X7_number_132, ↓reduceIte, Option.isSome_some, Option.getD_some, rL_v, rL_n, cH_s, List.cons_append, List.nil_append, cat_i, cat_r, cat_n, ofN, z0, q0, z3, q1, rou7, gu7_0, pu7_0, gu7_1, pu7_1, gu7_2, pu7_2, gu7_3, pu7_3, gu7_4, pu7_4, gu7_5, pu7_5, gu7_6, pu7_6, gu7_7, pu7_7, cF]
    · by_cases q2 : lo ≤ vl T n a ∧ vl T n a ≤ hi
      · rw [if_neg (show ¬ badN T n a lo hi from fun z => by rcases z with z | z; exact q1 z; exact z q2)]
        rw [oo_z hF]
        simp only [r_X7_number_90, r_X7_number_92, r_X7_number_107, r_X7_number_109, r_X7_number_110, r_X7_number_113, r_X7_number_114, r_X7_number_115, r_X7_number_116, r_X7_number_119, r_X7_number_131, r_X7_number_132, ↓reduceIte, Option.isSome_some, Option.getD_some, rL_v, rL_n, cH_s, List.cons_append, List.nil_append, cat_i, cat_r, cat_n, ofN, z0, q0, z3, q1, c_within, ite_bI, wi, q2, and_self]
      · rw [if_pos (Or.inr q2)]
        simp only [r_X7_number_90, r_X7_number_92, r_X7_number_107, r_X7_number_109, r_X7_number_110, r_X7_number_113, r_X7_number_114, r_X7_number_115, r_X7_number_116, r_X7_number_119, r_X7_number_122, r_X7_number_123, r_X7_number_124, r_X7_number_125, r_X7_number_128, r_X7_number_131, r_X7_number_132, ↓reduceIte, Option.isSome_some, Option.getD_some, rL_v, rL_n, cH_s, List.cons_append, List.nil_append, cat_i, cat_r, cat_n, ofN, z0, q0, z3, q1, c_within, ite_bI, wi, q2, rou7, gu7_0, pu7_0, gu7_1, pu7_1, gu7_2, pu7_2, gu7_3, pu7_3, gu7_4, pu7_4, gu7_5, pu7_5, gu7_6, pu7_6, gu7_7, pu7_7, cF]
