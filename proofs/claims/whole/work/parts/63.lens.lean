/-! ===== hall: the class's commas, ends, lengths ===== -/
abbrev cmA (T : Nat → Nat) (n a : Nat) : Nat := if isC T n a 44 then sk T n a + 1 else sk T n a
abbrev clA' (T : Nat → Nat) (n a : Nat) : Nat := if isC T n a 59 then sk T n a + 1 else sk T n a
theorem c_takeComma {h : AH} {T : Nat → Nat} {n a : Nat} {fa fl na sg co : Int32} (hn : n ≤ 250) (hT : ∀ i, i < n → T i < 256) (ha : a ≤ n) (h3 : h.2.2 3 = some (iA 250 (fun i => nI (T i)))) (h2 : h.2.2 2 = some (oRd 3 (nI n) fa fl (nI a) na sg co)) : Call M_X7_takeComma h [.ref 2] = some (hup h 2 (oRd 3 (nI n) fa fl (nI (cmA T n a)) na sg co), some (.int (bI (isC T n a 44)))) := by
  have h3' : ∀ X, (hup h 2 X).2.2 3 = _ := fun X => (hup_ne (by decide)).trans h3
  have hs := sk_le (T := T) ha
  have hsk := c_skip hn hT h3 ha h2
  have hh := c_here (T := T) (n := n) (a := sk T n a) (fa := fa) (fl := fl) (na := na) (sg := sg) (co := co) hn hs (h3' _) (hup_get (h := h) (a := 2))
  have e := hrL_eq (T := T) (n := n) (a := sk T n a) (c := 44) hT (by decide)
  show Run M_X7_takeComma 0 [.ref 2] [] h = _
  unfold cmA
  by_cases q : isC T n a 44
  · rw [if_pos q, bI_t q]
    simp only [r_X7_takeComma_0, r_X7_takeComma_1, r_X7_takeComma_4, r_X7_takeComma_5, r_X7_takeComma_8, r_X7_takeComma_10, r_X7_takeComma_15, r_X7_takeComma_16, r_X7_takeComma_17, r_X7_takeComma_20, r_X7_takeComma_21, r_X7_takeComma_22, r_X7_takeComma_25, r_X7_takeComma_26_0, r_X7_takeComma_26_1, r_X7_takeComma_26_c, ↓reduceIte, Option.isSome_some, Option.getD_some, rL_v, rL_n, cH_s, List.cons_append, List.nil_append, cat_i, cat_r, cat_n, ofN, ro7 h2, hsk, rou7, gu7_0, pu7_0, gu7_1, pu7_1, gu7_2, pu7_2, gu7_3, pu7_3, gu7_4, pu7_4, gu7_5, pu7_5, gu7_6, pu7_6, gu7_7, pu7_7, hh, e, q, and_self, nI_add]
  · rw [if_neg q, bI_f q]
    simp only [r_X7_takeComma_0, r_X7_takeComma_1, r_X7_takeComma_4, r_X7_takeComma_5, r_X7_takeComma_8, r_X7_takeComma_10, r_X7_takeComma_13, r_X7_takeComma_14_0, r_X7_takeComma_14_1, r_X7_takeComma_14_c, ↓reduceIte, Option.isSome_some, Option.getD_some, rL_v, rL_n, cH_s, List.cons_append, List.nil_append, cat_i, cat_r, cat_n, ofN, ro7 h2, hsk, rou7, gu7_0, pu7_0, gu7_1, pu7_1, gu7_2, pu7_2, gu7_3, pu7_3, gu7_4, pu7_4, gu7_5, pu7_5, gu7_6, pu7_6, gu7_7, pu7_7, hh, e, q]
theorem c_close {h : AH} {T : Nat → Nat} {n a : Nat} {F : Nat × Nat} {na sg co : Int32} (hn : n ≤ 250) (hT : ∀ i, i < n → T i < 256) (ha : a ≤ n) (hF : FOk n F) (h3 : h.2.2 3 = some (iA 250 (fun i => nI (T i)))) (h2 : h.2.2 2 = some (oRd 3 (nI n) (fI F.2) (nI F.1) (nI a) na sg co)) : Call M_X7_close h [.ref 2] = some (hup h 2 (oRd 3 (nI n) (fI (oo F (cf T n a)).2) (nI (oo F (cf T n a)).1) (nI (clA' T n a)) na sg co), none) := by
  have h3' : ∀ X, (hup h 2 X).2.2 3 = _ := fun X => (hup_ne (by decide)).trans h3
  have hs := sk_le (T := T) ha
  have hsk := c_skip hn hT h3 ha h2
  have hh := c_here (T := T) (n := n) (a := sk T n a) (fa := fI F.2) (fl := nI F.1) (na := na) (sg := sg) (co := co) hn hs (h3' _) (hup_get (h := h) (a := 2))
  have e := hrL_eq (T := T) (n := n) (a := sk T n a) (c := 59) hT (by decide)
  have hF2 : F.1 < 2147483648 := by have := hF.1; omega
  have cF := c_fail (h := hup h 2 (oRd 3 (nI n) (fI F.2) (nI F.1) (nI (sk T n a)) na sg co)) (F := F) (c := 1) (p := sk T n a) hF2 hup_get
  simp only [hup_hup] at cF
  show Run M_X7_close 0 [.ref 2] [] h = _
  unfold clA' cf
  by_cases q : isC T n a 59
  · rw [if_pos q, if_pos q, oo_z hF]
    simp only [r_X7_close_0, r_X7_close_1, r_X7_close_4, r_X7_close_5, r_X7_close_8, r_X7_close_10, r_X7_close_13, r_X7_close_14, r_X7_close_15, r_X7_close_18, r_X7_close_19, r_X7_close_20, r_X7_close_23, r_X7_close_35, ↓reduceIte, Option.isSome_some, Option.getD_some, rL_v, rL_n, cH_s, List.cons_append, List.nil_append, cat_i, cat_r, cat_n, ofN, ro7 h2, hsk, rou7, gu7_0, pu7_0, gu7_1, pu7_1, gu7_2, pu7_2, gu7_3, pu7_3, gu7_4, pu7_4, gu7_5, pu7_5, gu7_6, pu7_6, gu7_7, pu7_7, hh, e, q, and_self, nI_add]
  · rw [if_neg q, if_neg q]
    simp only [r_X7_close_0, r_X7_close_1, r_X7_close_4, r_X7_close_5, r_X7_close_8, r_X7_close_10, r_X7_close_26, r_X7_close_27, r_X7_close_28, r_X7_close_29, r_X7_close_32, r_X7_close_35, ↓reduceIte, Option.isSome_some, Option.getD_some, rL_v, rL_n, cH_s, List.cons_append, List.nil_append, cat_i, cat_r, cat_n, ofN, ro7 h2, hsk, rou7, gu7_0, pu7_0, gu7_1, pu7_1, gu7_2, pu7_2, gu7_3, pu7_3, gu7_4, pu7_4, gu7_5, pu7_5, gu7_6, pu7_6, gu7_7, pu7_7, hh, e, q, cF]
/-! LENGTHS: where each is read, the faults, how many, the end -/
def pL (T : Nat → Nat) (n a : Nat) : Nat → Nat
  | 0 => a
  | j + 1 => sk T n (nb T n (pL T n a j)) + 1
abbrev cm (T : Nat → Nat) (n a j : Nat) : Prop := isC T n (nb T n (pL T n a j)) 44
def FL (T : Nat → Nat) (n a : Nat) (F : Nat × Nat) : Nat → Nat × Nat
  | 0 => F
  | j + 1 => oo (FL T n a F j) (nf T n (pL T n a j) 1 60)
def cL (T : Nat → Nat) (n a : Nat) : Nat := if cm T n a 0 then (if cm T n a 1 then (if cm T n a 2 then 4 else 3) else 2) else 1
def eL (T : Nat → Nat) (n a : Nat) : Nat := if cL T n a = 4 then nb T n (pL T n a 3) else sk T n (nb T n (pL T n a (cL T n a - 1)))
theorem cL_p (T : Nat → Nat) (n a : Nat) : 1 ≤ cL T n a ∧ cL T n a ≤ 4 ∧ (∀ j, j + 1 < cL T n a → cm T n a j) ∧ (cL T n a < 4 → ¬ cm T n a (cL T n a - 1)) := by
  unfold cL
  by_cases q0 : cm T n a 0
  · by_cases q1 : cm T n a 1
    · by_cases q2 : cm T n a 2
      · rw [if_pos q0, if_pos q1, if_pos q2]
        refine ⟨by decide, by decide, fun j hj => ?_, fun e => absurd e (by decide)⟩
        rcases (show j = 0 ∨ j = 1 ∨ j = 2 by omega) with rfl | rfl | rfl
        · exact q0
        · exact q1
        · exact q2
      · rw [if_pos q0, if_pos q1, if_neg q2]
        refine ⟨by decide, by decide, fun j hj => ?_, fun _ => q2⟩
        rcases (show j = 0 ∨ j = 1 by omega) with rfl | rfl
        · exact q0
        · exact q1
    · rw [if_pos q0, if_neg q1]
      refine ⟨by decide, by decide, fun j hj => ?_, fun _ => q1⟩
      rcases (show j = 0 by omega) with rfl
      exact q0
  · rw [if_neg q0]
    exact ⟨by decide, by decide, fun j hj => by omega, fun _ => q0⟩
theorem pL_le {T : Nat → Nat} {n a : Nat} (ha : a ≤ n) : ∀ j, j < cL T n a → pL T n a j ≤ n
  | 0, _ => ha
  | j + 1, hj => by
    have := ((cL_p T n a).2.2.1 j hj).1
    simp only [pL]
    omega
theorem pL_ge {T : Nat → Nat} {n a : Nat} (ha : a ≤ n) : ∀ j, j < cL T n a → a ≤ pL T n a j
  | 0, _ => Nat.le_refl _
  | j + 1, hj => by
    have h1 := pL_ge (T := T) ha j (by omega)
    have h2 := pL_le (T := T) ha j (by omega)
    have h3 := nb_ge (T := T) h2
    have h4 := sk_ge (T := T) (nb_le (T := T) h2)
    simp only [pL]
    omega
theorem eL_sk {T : Nat → Nat} {n a : Nat} (ha : a ≤ n) : sk T n (eL T n a) = sk T n (nb T n (pL T n a (cL T n a - 1))) ∧ eL T n a ≤ n ∧ a ≤ eL T n a := by
  have c := cL_p T n a
  have h2 := pL_le (T := T) ha (cL T n a - 1) (by omega)
  have h1 := pL_ge (T := T) ha (cL T n a - 1) (by omega)
  have h3 := nb_ge (T := T) h2
  have h5 := nb_le (T := T) h2
  have h4 := sk_ge (T := T) h5
  have h6 := sk_le (T := T) h5
  unfold eL
  by_cases e : cL T n a = 4
  · have e3 : cL T n a - 1 = 3 := by omega
    rw [if_pos e, e3]
    rw [e3] at h1 h3 h5
    exact ⟨rfl, h5, Nat.le_trans h1 h3⟩
  · rw [if_neg e]
    exact ⟨sk_sk h5, h6, Nat.le_trans h1 (Nat.le_trans h3 h4)⟩
theorem FOk_FL {T : Nat → Nat} {n a : Nat} {F : Nat × Nat} (ha : a ≤ n) (hF : FOk n F) : ∀ j, j ≤ cL T n a → FOk n (FL T n a F j)
  | 0, _ => hF
  | j + 1, hj => (FOk_FL ha hF j (by omega)).oo (FOk_nf (pL_le ha j (by omega)))
theorem c_readLengths {h : AH} {T : Nat → Nat} {n a P la : Nat} {F : Nat × Nat} {na sg co so lo ky ct : Int32} {g : Nat → Int32} (hn : n ≤ 250) (hT : ∀ i, i < n → T i < 256) (ha : a ≤ n) (hF : FOk n F) (hP : 3 < P) (hla : 3 < la) (hPl : P ≠ la) (h3 : h.2.2 3 = some (iA 250 (fun i => nI (T i)))) (h2 : h.2.2 2 = some (oRd 3 (nI n) (fI F.2) (nI F.1) (nI a) na sg co)) (hp : h.2.2 P = some (oPa so lo ky ct la)) (hl : h.2.2 la = some (iA 4 g)) :
    ∃ h' na', Call M_X7_readLengths h [.ref 2, .ref P] = some (h', none) ∧ h'.2.2 2 = some (oRd 3 (nI n) (fI (FL T n a F (cL T n a)).2) (nI (FL T n a F (cL T n a)).1) (nI (eL T n a)) na' sg co) ∧ h'.2.2 P = some (oPa so lo ky (nI (cL T n a)) la) ∧ (∃ g', h'.2.2 la = some (iA 4 g') ∧ ∀ j, j < cL T n a → g' j = nI (vl T n (pL T n a j))) ∧ (∀ x, x ≠ 2 → x ≠ P → x ≠ la → h'.2.2 x = h.2.2 x) ∧ h'.1 = h.1 ∧ h'.2.1 = h.2.1 := by
  obtain ⟨c1, c2, c3, c4⟩ := cL_p T n a
  have n10 : ¬ nI 1 = nI 0 := by decide
  have L : ∀ (k i : Nat) (H : AH) (na ct : Int32) (g : Nat → Int32), i + 1 + k = cL T n a → H.2.2 2 = some (oRd 3 (nI n) (fI (FL T n a F i).2) (nI (FL T n a F i).1) (nI (pL T n a i)) na sg co) → H.2.2 P = some (oPa so lo ky ct la) → H.2.2 la = some (iA 4 g) → (∀ j, j < i → g j = nI (vl T n (pL T n a j))) → (∀ x, x ≠ 2 → x ≠ P → x ≠ la → H.2.2 x = h.2.2 x) → H.1 = h.1 → H.2.1 = h.2.1 →
      ∃ h' na', Run M_X7_readLengths 4 [.ref 2, .ref P, .int (nI 1), .int (nI i)] [] H = some (h', none) ∧ h'.2.2 2 = some (oRd 3 (nI n) (fI (FL T n a F (cL T n a)).2) (nI (FL T n a F (cL T n a)).1) (nI (eL T n a)) na' sg co) ∧ h'.2.2 P = some (oPa so lo ky (nI (cL T n a)) la) ∧ (∃ g', h'.2.2 la = some (iA 4 g') ∧ ∀ j, j < cL T n a → g' j = nI (vl T n (pL T n a j))) ∧ (∀ x, x ≠ 2 → x ≠ P → x ≠ la → h'.2.2 x = h.2.2 x) ∧ h'.1 = h.1 ∧ h'.2.1 = h.2.1 := by
    intro k
    induction k with
    | zero =>
      intro i H na ct g hi q2 qP ql qg qf s1 s2
      have hpi := pL_le (T := T) ha i (by omega)
      have q3 := (qf 3 (by omega) (by omega) (by omega)).trans h3
      have N := c_number (lo := 1) (hi := 60) hn hT hpi (FOk_FL ha hF i (by omega)) (by decide) (by decide) q3 q2
      have eF : oo (FL T n a F i) (nf T n (pL T n a i) 1 60) = FL T n a F (cL T n a) := by rw [← hi]; rfl
      rw [eF] at N
      generalize hX : oRd 3 (nI n) (fI (FL T n a F (cL T n a)).2) (nI (FL T n a F (cL T n a)).1) (nI (nb T n (pL T n a i))) (nI (sk T n (pL T n a i))) sg co = X at N
      generalize hH1 : hup (hup (hup H 2 X) la (iA 4 (upd g i (nI (vl T n (pL T n a i)))))) P (oPa so lo ky (nI (i + 1)) la) = H1
      have A2 : H1.2.2 2 = some X := by rw [← hH1, hup_ne (by omega), hup_ne (by omega)]; exact hup_get
      have A3 : H1.2.2 3 = some (iA 250 (fun i => nI (T i))) := by rw [← hH1, hup_ne (by omega), hup_ne (by omega), hup_ne (by omega)]; exact q3
      have AP : H1.2.2 P = some (oPa so lo ky (nI (i + 1)) la) := by rw [← hH1]; exact hup_get
      have Al : H1.2.2 la = some (iA 4 (upd g i (nI (vl T n (pL T n a i))))) := by rw [← hH1, hup_ne (fun e => hPl e.symm)]; exact hup_get
      have qlX : (hup H 2 X).2.2 la = _ := (hup_ne (by omega)).trans ql
      have qPX : (hup (hup H 2 X) la (iA 4 (upd g i (nI (vl T n (pL T n a i)))))).2.2 P = _ := (hup_ne hPl).trans ((hup_ne (by omega)).trans qP)
      have T1 : Run M_X7_readLengths 4 [.ref 2, .ref P, .int (nI 1), .int (nI i)] [] H = Run M_X7_readLengths 33 [.ref 2, .ref P, .int (nI 1), .int (nI i)] [] H1 := by
        have y : ¬ nI 4 ≤ nI i := by rw [nI_le' (by decide) (by omega)]; omega
        simp only [r_X7_readLengths_4, r_X7_readLengths_5, r_X7_readLengths_6, r_X7_readLengths_9, r_X7_readLengths_10, r_X7_readLengths_13, r_X7_readLengths_14, r_X7_readLengths_17, r_X7_readLengths_18, r_X7_readLengths_19, r_X7_readLengths_20, r_X7_readLengths_22, r_X7_readLengths_25, r_X7_readLengths_26, r_X7_readLengths_27, r_X7_readLengths_28, r_X7_readLengths_29, r_X7_readLengths_30, ↓reduceIte, Option.isSome_some, Option.getD_some, rL_v, rL_n, cH_s, List.cons_append, List.nil_append, cat_i, cat_r, cat_n, ofN, y, n10, g6_0 qP, g6_1 qP, g6_2 qP, g6_3 qP, g6_4 qP, ro6 qP, ro7 q2, N, pI_nI qlX (by decide) (show la ≠ 0 by omega) (show i < 4 by omega), g6_0 qPX, p6_0 qPX, g6_1 qPX, p6_1 qPX, g6_2 qPX, p6_2 qPX, g6_3 qPX, p6_3 qPX, g6_4 qPX, p6_4 qPX, ro6 qPX, nI_add, hH1]
      have gA : ∀ j, j < cL T n a → upd g i (nI (vl T n (pL T n a i))) j = nI (vl T n (pL T n a j)) := fun j hj => by
        by_cases e : j = i
        · subst e; exact pk_us
        · rw [pk_un e]; exact qg j (by omega)
      have fA : ∀ x, x ≠ 2 → x ≠ P → x ≠ la → H1.2.2 x = h.2.2 x := fun x h1 h2 h3 => by
        rw [← hH1, hup_ne h2, hup_ne h3, hup_ne h1]; exact qf x h1 h2 h3
      have z1 : H1.1 = h.1 := by rw [← hH1]; exact s1
      have z2 : H1.2.1 = h.2.1 := by rw [← hH1]; exact s2
      by_cases y4 : cL T n a = 4
      · have i3 : i = 3 := by omega
        refine ⟨H1, nI (sk T n (pL T n a i)), ?_, ?_, by rw [AP, ← hi], ⟨_, Al, gA⟩, fA, z1, z2⟩
        · rw [T1]
          subst i3
          have y1 : nI 4 ≤ nI (3 + 1) := by decide
          simp only [r_X7_readLengths_33, r_X7_readLengths_34, r_X7_readLengths_35, r_X7_readLengths_36, r_X7_readLengths_37, r_X7_readLengths_51, r_X7_readLengths_52, r_X7_readLengths_53, r_X7_readLengths_56, r_X7_readLengths_4, r_X7_readLengths_5, r_X7_readLengths_6, r_X7_readLengths_59, ↓reduceIte, Option.isSome_some, Option.getD_some, rL_v, rL_n, cH_s, List.cons_append, List.nil_append, cat_i, cat_r, cat_n, ofN, nI_add, y1]
        · rw [A2, ← hX]
          unfold eL
          rw [if_pos y4, i3]
      · have y1 : ¬ nI 4 ≤ nI (i + 1) := by rw [nI_le' (by decide) (by omega)]; omega
        have nc := c4 (by omega)
        rw [show cL T n a - 1 = i by omega] at nc
        rw [← hX] at A2
        have K := c_takeComma hn hT (nb_le hpi) A3 A2
        have nc' : ¬ isC T n (nb T n (pL T n a i)) 44 := nc
        rw [bI_f nc'] at K
        unfold cmA at K
        rw [if_neg nc'] at K
        refine ⟨hup H1 2 (oRd 3 (nI n) (fI (FL T n a F (cL T n a)).2) (nI (FL T n a F (cL T n a)).1) (nI (sk T n (nb T n (pL T n a i)))) (nI (sk T n (pL T n a i))) sg co), nI (sk T n (pL T n a i)), ?_, ?_, ?_, ⟨_, (hup_ne (by omega)).trans Al, gA⟩, fun x h1 h2 h3 => by rw [hup_ne h1]; exact fA x h1 h2 h3, z1, z2⟩
        · rw [T1]
          simp only [r_X7_readLengths_33, r_X7_readLengths_34, r_X7_readLengths_35, r_X7_readLengths_36, r_X7_readLengths_37, r_X7_readLengths_40, r_X7_readLengths_41, r_X7_readLengths_44, r_X7_readLengths_51, r_X7_readLengths_52, r_X7_readLengths_53, r_X7_readLengths_56, ↓reduceIte, Option.isSome_some, Option.getD_some, rL_v, rL_n, cH_s, List.cons_append, List.nil_append, cat_i, cat_r, cat_n, ofN, nI_add, y1, ro7 A2, K]
          simp only [r_X7_readLengths_4, r_X7_readLengths_5, r_X7_readLengths_6, r_X7_readLengths_9, r_X7_readLengths_10, r_X7_readLengths_59, ↓reduceIte, Option.isSome_some, Option.getD_some, rL_v, rL_n, cH_s, List.cons_append, List.nil_append, cat_i, cat_r, cat_n, ofN, y1]
        · rw [hup_get]
          unfold eL
          rw [if_neg y4, show cL T n a - 1 = i by omega]
        · rw [hup_ne (by omega), AP, ← hi]
    | succ k ih =>
      intro i H na ct g hi q2 qP ql qg qf s1 s2
      have hpi := pL_le (T := T) ha i (by omega)
      have q3 := (qf 3 (by omega) (by omega) (by omega)).trans h3
      have N := c_number (lo := 1) (hi := 60) hn hT hpi (FOk_FL ha hF i (by omega)) (by decide) (by decide) q3 q2
      have eF : oo (FL T n a F i) (nf T n (pL T n a i) 1 60) = FL T n a F (i + 1) := rfl
      rw [eF] at N
      generalize hX : oRd 3 (nI n) (fI (FL T n a F (i + 1)).2) (nI (FL T n a F (i + 1)).1) (nI (nb T n (pL T n a i))) (nI (sk T n (pL T n a i))) sg co = X at N
      generalize hH1 : hup (hup (hup H 2 X) la (iA 4 (upd g i (nI (vl T n (pL T n a i)))))) P (oPa so lo ky (nI (i + 1)) la) = H1
      have A2 : H1.2.2 2 = some X := by rw [← hH1, hup_ne (by omega), hup_ne (by omega)]; exact hup_get
      have A3 : H1.2.2 3 = some (iA 250 (fun i => nI (T i))) := by rw [← hH1, hup_ne (by omega), hup_ne (by omega), hup_ne (by omega)]; exact q3
      have AP : H1.2.2 P = some (oPa so lo ky (nI (i + 1)) la) := by rw [← hH1]; exact hup_get
      have Al : H1.2.2 la = some (iA 4 (upd g i (nI (vl T n (pL T n a i))))) := by rw [← hH1, hup_ne (fun e => hPl e.symm)]; exact hup_get
      have qlX : (hup H 2 X).2.2 la = _ := (hup_ne (by omega)).trans ql
      have qPX : (hup (hup H 2 X) la (iA 4 (upd g i (nI (vl T n (pL T n a i)))))).2.2 P = _ := (hup_ne hPl).trans ((hup_ne (by omega)).trans qP)
      have T1 : Run M_X7_readLengths 4 [.ref 2, .ref P, .int (nI 1), .int (nI i)] [] H = Run M_X7_readLengths 33 [.ref 2, .ref P, .int (nI 1), .int (nI i)] [] H1 := by
        have y : ¬ nI 4 ≤ nI i := by rw [nI_le' (by decide) (by omega)]; omega
        simp only [r_X7_readLengths_4, r_X7_readLengths_5, r_X7_readLengths_6, r_X7_readLengths_9, r_X7_readLengths_10, r_X7_readLengths_13, r_X7_readLengths_14, r_X7_readLengths_17, r_X7_readLengths_18, r_X7_readLengths_19, r_X7_readLengths_20, r_X7_readLengths_22, r_X7_readLengths_25, r_X7_readLengths_26, r_X7_readLengths_27, r_X7_readLengths_28, r_X7_readLengths_29, r_X7_readLengths_30, ↓reduceIte, Option.isSome_some, Option.getD_some, rL_v, rL_n, cH_s, List.cons_append, List.nil_append, cat_i, cat_r, cat_n, ofN, y, n10, g6_0 qP, g6_1 qP, g6_2 qP, g6_3 qP, g6_4 qP, ro6 qP, ro7 q2, N, pI_nI qlX (by decide) (show la ≠ 0 by omega) (show i < 4 by omega), g6_0 qPX, p6_0 qPX, g6_1 qPX, p6_1 qPX, g6_2 qPX, p6_2 qPX, g6_3 qPX, p6_3 qPX, g6_4 qPX, p6_4 qPX, ro6 qPX, nI_add, hH1]
      have gA : ∀ j, j < i + 1 → upd g i (nI (vl T n (pL T n a i))) j = nI (vl T n (pL T n a j)) := fun j hj => by
        by_cases e : j = i
        · subst e; exact pk_us
        · rw [pk_un e]; exact qg j (by omega)
      have fA : ∀ x, x ≠ 2 → x ≠ P → x ≠ la → H1.2.2 x = h.2.2 x := fun x h1 h2 h3 => by
        rw [← hH1, hup_ne h2, hup_ne h3, hup_ne h1]; exact qf x h1 h2 h3
      have z1 : H1.1 = h.1 := by rw [← hH1]; exact s1
      have z2 : H1.2.1 = h.2.1 := by rw [← hH1]; exact s2
      have y1 : ¬ nI 4 ≤ nI (i + 1) := by rw [nI_le' (by decide) (by omega)]; omega
      have nc : isC T n (nb T n (pL T n a i)) 44 := c3 i (by omega)
      rw [← hX] at A2
      have K := c_takeComma hn hT (nb_le hpi) A3 A2
      rw [bI_t nc] at K
      unfold cmA at K
      rw [if_pos nc] at K
      obtain ⟨h', na', p1, p2⟩ := ih (i + 1) (hup H1 2 (oRd 3 (nI n) (fI (FL T n a F (i + 1)).2) (nI (FL T n a F (i + 1)).1) (nI (pL T n a (i + 1))) (nI (sk T n (pL T n a i))) sg co)) _ _ _ (by omega) hup_get ((hup_ne (by omega)).trans AP) ((hup_ne (by omega)).trans Al) gA (fun x h1 h2 h3 => by rw [hup_ne h1]; exact fA x h1 h2 h3) z1 z2
      refine ⟨h', na', ?_, p2⟩
      rw [T1]
      simp only [r_X7_readLengths_33, r_X7_readLengths_34, r_X7_readLengths_35, r_X7_readLengths_36, r_X7_readLengths_37, r_X7_readLengths_40, r_X7_readLengths_41, r_X7_readLengths_44, r_X7_readLengths_47, r_X7_readLengths_48, r_X7_readLengths_52, r_X7_readLengths_53, r_X7_readLengths_56, ↓reduceIte, Option.isSome_some, Option.getD_some, rL_v, rL_n, cH_s, List.cons_append, List.nil_append, cat_i, cat_r, cat_n, ofN, nI_add, y1, ro7 A2, K, n10]
      exact p1
  obtain ⟨h', na', p1, p2⟩ := L (cL T n a - 1) 0 h na ct g (by omega) h2 hp hl (fun j hj => by omega) (fun _ _ _ _ => rfl) rfl rfl
  refine ⟨h', na', ?_, p2⟩
  show Run M_X7_readLengths 0 [.ref 2, .ref P, .null, .null] [] h = _
  simp only [r_X7_readLengths_0, r_X7_readLengths_1, r_X7_readLengths_2, r_X7_readLengths_3, ↓reduceIte, Option.isSome_some, Option.getD_some, rL_v, rL_n, cH_s, List.cons_append, List.nil_append, cat_i, cat_r, cat_n, ofN]
  exact p1
