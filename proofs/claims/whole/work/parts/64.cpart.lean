/-! ===== hall: the class reads a PART ===== -/
abbrev p2 (T : Nat → Nat) (n a : Nat) : Nat := nb T n (a + 1)
abbrev p3 (T : Nat → Nat) (n a : Nat) : Nat := nb T n (p2 T n a)
abbrev p4 (T : Nat → Nat) (n a : Nat) : Nat := nb T n (p3 T n a)
def tf (T : Nat → Nat) (n v b : Nat) : Nat × Nat := if v = 3 ∧ vl T n b ≠ 0 then (4, sk T n b + 1) else (0, 0)
def F3p (T : Nat → Nat) (n a : Nat) : Nat × Nat := oo (oo (oo (nf T n (a + 1) 0 3) (nf T n (p2 T n a) 0 7)) (tf T n (vl T n (a + 1)) (p2 T n a))) (nf T n (p3 T n a) 0 11)
def Fpt (T : Nat → Nat) (n a : Nat) : Nat × Nat := oo (FL T n (p4 T n a) (F3p T n a) (cL T n (p4 T n a))) (cf T n (eL T n (p4 T n a)))
def Fp (T : Nat → Nat) (n a : Nat) (Q : SS) : Nat × Nat := if 7 ≤ Q 12 0 then (3, a + 1) else if 0 < Q 12 0 ∧ Q 3 (Q 12 0 - 1) = 3 then (4, a + 1) else Fpt T n a
def apt (T : Nat → Nat) (n a : Nat) : Nat := clA' T n (eL T n (p4 T n a))
def lnN (T : Nat → Nat) (n b p : Nat) (f : Nat → Nat) (i : Nat) : Nat := if 4 * p ≤ i ∧ i < 4 * p + 4 then vl T n (pL T n b (i - 4 * p)) else f i
def Qpt (T : Nat → Nat) (n a : Nat) (Q : SS) : SS := va_up (va_up (va_up (va_up (va_up (va_up Q 3 (va_up (Q 3) (Q 12 0) (vl T n (a + 1)))) 4 (va_up (Q 4) (Q 12 0) (vl T n (p2 T n a)))) 5 (va_up (Q 5) (Q 12 0) (vl T n (p3 T n a)))) 6 (va_up (Q 6) (Q 12 0) (cL T n (p4 T n a)))) 7 (lnN T n (p4 T n a) (Q 12 0) (Q 7))) 12 (va_up (Q 12) 0 (Q 12 0 + 1))
theorem FOk_tf {T : Nat → Nat} {n v b : Nat} (hb : b ≤ n) : FOk n (tf T n v b) := by
  unfold tf
  split
  · exact FOk.mk (by decide) (by decide) (sk_le hb)
  · exact FOk.z
theorem p_le {T : Nat → Nat} {n a : Nat} (ha : a < n) : p2 T n a ≤ n ∧ p3 T n a ≤ n ∧ p4 T n a ≤ n ∧ a < p2 T n a ∧ p2 T n a ≤ p3 T n a ∧ p3 T n a ≤ p4 T n a := by
  have h1 := nb_le (T := T) (show a + 1 ≤ n by omega)
  have h2 := nb_le (T := T) h1
  have g1 := nb_ge (T := T) (show a + 1 ≤ n by omega)
  exact ⟨h1, h2, nb_le h2, g1, nb_ge h1, nb_ge h2⟩
theorem FOk_F3p {T : Nat → Nat} {n a : Nat} (ha : a < n) : FOk n (F3p T n a) := (((FOk_nf (by omega)).oo (FOk_nf (p_le ha).1)).oo (FOk_tf (p_le ha).1)).oo (FOk_nf (p_le ha).2.1)
theorem FOk_Fpt {T : Nat → Nat} {n a : Nat} (ha : a < n) : FOk n (Fpt T n a) := (FOk_FL (p_le ha).2.2.1 (FOk_F3p ha) _ (Nat.le_refl _)).oo (FOk_cf (eL_sk (p_le ha).2.2.1).2.1)
theorem FOk_Fp {T : Nat → Nat} {n a : Nat} {Q : SS} (ha : a < n) : FOk n (Fp T n a Q) := by
  unfold Fp
  split
  · exact FOk.mk (by decide) (by decide) (by omega)
  · split
    · exact FOk.mk (by decide) (by decide) (by omega)
    · exact FOk_Fpt ha
theorem clE_le {T : Nat → Nat} {n b : Nat} (hb : b ≤ n) : clA' T n b ≤ n ∧ b ≤ clA' T n b := by
  have h1 := sk_le (T := T) hb
  have h2 := sk_ge (T := T) hb
  unfold clA'
  by_cases q : isC T n b 59
  · have := q.1
    rw [if_pos q]; omega
  · rw [if_neg q]; omega
theorem apt_le {T : Nat → Nat} {n a : Nat} (ha : a < n) : apt T n a ≤ n ∧ a < apt T n a := by
  have p := p_le (T := T) ha
  have e := eL_sk (T := T) p.2.2.1
  have c := clE_le (T := T) e.2.1
  unfold apt
  exact ⟨c.1, by omega⟩
theorem c_trill {h : AH} {o : Nat} {Q : SS} (ho : 0 < o) (hH : HallR h o Q) (hQ : Q 12 0 ≤ 7) (h3 : ∀ p, p < Q 12 0 → Q 3 p ≤ 3) : Call M_X4_endsInTrill h [.ref o] = some (h, some (.int (bI (0 < Q 12 0 ∧ Q 3 (Q 12 0 - 1) = 3)))) := by
  obtain ⟨hH1, ⟨fr, hr1, hr2⟩, -, -, -, -, hP⟩ := hH
  have wi : (nI 1 ≤ nI (Q 12 0) ∧ nI (Q 12 0) ≤ nI 7) = (0 < Q 12 0) := by
    rw [nI_le' (by decide) (by omega), nI_le' (by omega) (by decide)]
    apply propext; constructor
    · intro q; omega
    · intro q; omega
  show Run M_X4_endsInTrill 0 [.ref o] [] h = _
  by_cases q : 0 < Q 12 0
  · obtain ⟨hp1, -⟩ := hP (Q 12 0 - 1) (by omega)
    have b3 := h3 (Q 12 0 - 1) (by omega)
    have c3 : (nI (Q 3 (Q 12 0 - 1)) = nI 3) = (Q 3 (Q 12 0 - 1) = 3) := nI_inj (by omega) (by decide)
    by_cases z : Q 3 (Q 12 0 - 1) = 3
    · rw [bI_t ⟨q, z⟩]
      simp only [r_X4_endsInTrill_0, r_X4_endsInTrill_1, r_X4_endsInTrill_4, r_X4_endsInTrill_5, r_X4_endsInTrill_7, r_X4_endsInTrill_10, r_X4_endsInTrill_13, r_X4_endsInTrill_14, r_X4_endsInTrill_17, r_X4_endsInTrill_18, r_X4_endsInTrill_21, r_X4_endsInTrill_22, r_X4_endsInTrill_23, r_X4_endsInTrill_24, r_X4_endsInTrill_27, r_X4_endsInTrill_28, r_X4_endsInTrill_31, r_X4_endsInTrill_32, r_X4_endsInTrill_36_0, r_X4_endsInTrill_36_1, r_X4_endsInTrill_36_c, ↓reduceIte, Option.isSome_some, Option.getD_some, rL_v, rL_n, cH_s, List.cons_append, List.nil_append, cat_i, cat_r, cat_n, ofN, g4_0 hH1, g4_1 hH1, g4_2 hH1, g4_3 hH1, g4_4 hH1, g4_5 hH1, g4_6 hH1, ro4 hH1, c_within, ite_bI, wi, q, nI_s (show 1 ≤ Q 12 0 by omega), gR_nI hr1 (Or.inr (Or.inl rfl)) (by decide) (by omega) (hr2 (Q 12 0 - 1) (by omega)) (show Q 12 0 - 1 < 7 by omega), g6_0 hp1, g6_1 hp1, g6_2 hp1, g6_3 hp1, g6_4 hp1, ro6 hp1, c3, z]
    · rw [bI_f (fun w => z w.2)]
      simp only [r_X4_endsInTrill_0, r_X4_endsInTrill_1, r_X4_endsInTrill_4, r_X4_endsInTrill_5, r_X4_endsInTrill_7, r_X4_endsInTrill_10, r_X4_endsInTrill_13, r_X4_endsInTrill_14, r_X4_endsInTrill_17, r_X4_endsInTrill_18, r_X4_endsInTrill_21, r_X4_endsInTrill_22, r_X4_endsInTrill_23, r_X4_endsInTrill_24, r_X4_endsInTrill_27, r_X4_endsInTrill_28, r_X4_endsInTrill_35, r_X4_endsInTrill_36_0, r_X4_endsInTrill_36_1, r_X4_endsInTrill_36_c, ↓reduceIte, Option.isSome_some, Option.getD_some, rL_v, rL_n, cH_s, List.cons_append, List.nil_append, cat_i, cat_r, cat_n, ofN, g4_0 hH1, g4_1 hH1, g4_2 hH1, g4_3 hH1, g4_4 hH1, g4_5 hH1, g4_6 hH1, ro4 hH1, c_within, ite_bI, wi, q, nI_s (show 1 ≤ Q 12 0 by omega), gR_nI hr1 (Or.inr (Or.inl rfl)) (by decide) (by omega) (hr2 (Q 12 0 - 1) (by omega)) (show Q 12 0 - 1 < 7 by omega), g6_0 hp1, g6_1 hp1, g6_2 hp1, g6_3 hp1, g6_4 hp1, ro6 hp1, c3, z]
  · rw [bI_f (fun w => q w.1)]
    simp only [r_X4_endsInTrill_0, r_X4_endsInTrill_1, r_X4_endsInTrill_4, r_X4_endsInTrill_5, r_X4_endsInTrill_7, r_X4_endsInTrill_10, r_X4_endsInTrill_35, r_X4_endsInTrill_36_0, r_X4_endsInTrill_36_1, r_X4_endsInTrill_36_c, ↓reduceIte, Option.isSome_some, Option.getD_some, rL_v, rL_n, cH_s, List.cons_append, List.nil_append, cat_i, cat_r, cat_n, ofN, g4_0 hH1, g4_1 hH1, g4_2 hH1, g4_3 hH1, g4_4 hH1, g4_5 hH1, g4_6 hH1, ro4 hH1, c_within, ite_bI, wi, q]
/-- what a clause leaves of the hall that is read into -/
def ClC (h h' : AH) (T : Nat → Nat) (n o : Nat) (F : Nat × Nat) (a : Nat) (Q : SS) (sg co : Int32) : Prop := (∃ na a', h'.2.2 2 = some (oRd 3 (nI n) (fI F.2) (nI F.1) (nI a') na sg co) ∧ a' ≤ n ∧ (F.1 = 0 → a' = a)) ∧ HallX h' o ∧ (F.1 = 0 → HallR h' o Q) ∧ (∀ x, x ≠ 2 → x < o ∨ o + 20 < x → h'.2.2 x = h.2.2 x) ∧ h'.1 = h.1 ∧ h'.2.1 = h.2.1
theorem ClC.fail {h : AH} {T : Nat → Nat} {n o : Nat} {F : Nat × Nat} {a a0 : Nat} {Q : SS} {na sg co : Int32} (hF : F.1 ≠ 0) (ha : a0 ≤ n) (ho : 2 < o) (hX : HallX h o) : ClC h (hup h 2 (oRd 3 (nI n) (fI F.2) (nI F.1) (nI a0) na sg co)) T n o F a Q sg co :=
  ⟨⟨na, a0, hup_get, ha, fun e => absurd e hF⟩, hX.fr (fun x _ _ => hup_ne (by omega)), fun e => absurd e hF, fun x h1 _ => hup_ne h1, rfl, rfl⟩
set_option maxHeartbeats 4000000 in
theorem c_readPart {h : AH} {T : Nat → Nat} {n o a : Nat} {Q : SS} {na sg co : Int32} (hn : n ≤ 250) (hT : ∀ i, i < n → T i < 256) (ha : a < n) (ho : 31 < o) (hQ : HOk Q) (h3 : h.2.2 3 = some (iA 250 (fun i => nI (T i)))) (h2 : h.2.2 2 = some (oRd 3 (nI n) (fI 0) (nI 0) (nI a) na sg co)) (hH : HallR h o Q) :
    ∃ h', Call M_X7_readPart h [.ref 2, .ref o] = some (h', none) ∧ ClC h h' T n o (Fp T n a Q) (apt T n a) (Qpt T n a Q) sg co := by
  have hx := hH.x
  have tr := c_trill (by omega) hH hQ.1 (fun p hp => (hQ.2 p hp).1)
  obtain ⟨hH1, ⟨fr, hr1, hr2⟩, ⟨f1, t1, t1'⟩, ⟨f2, t2, t2'⟩, hA, hX, hP⟩ := id hH
  have h7 := hQ.1
  have cF := fun (c : Nat) => c_fail (h := h) (F := (0, 0)) (c := c) (p := a) (by decide) h2
  have c7 : (nI (Q 12 0) < nI 7) = (Q 12 0 < 7) := nI_lt' (by omega) (by decide)
  unfold Fp
  by_cases q7 : 7 ≤ Q 12 0
  · have q7' : ¬ Q 12 0 < 7 := by omega
    rw [if_pos q7]
    refine ⟨_, ?_, ClC.fail (T := T) (n := n) (F := (3, a + 1)) (a0 := a) (na := na) (sg := sg) (co := co) (show (3 : Nat) ≠ 0 by decide) (by omega) (by omega) hx⟩
    show Run M_X7_readPart 0 [.ref 2, .ref o, .null] [] h = _
    simp only [r_X7_readPart_0, r_X7_readPart_1, r_X7_readPart_4, r_X7_readPart_6, r_X7_readPart_9, r_X7_readPart_10, r_X7_readPart_11, r_X7_readPart_12, r_X7_readPart_15, r_X7_readPart_18, ↓reduceIte, Option.isSome_some, Option.getD_some, rL_v, rL_n, cH_s, List.cons_append, List.nil_append, cat_i, cat_r, cat_n, ofN, g4_0 hH1, g4_1 hH1, g4_2 hH1, g4_3 hH1, g4_4 hH1, g4_5 hH1, g4_6 hH1, ro4 hH1, g7_0 h2, g7_1 h2, g7_2 h2, g7_3 h2, g7_4 h2, g7_5 h2, g7_6 h2, g7_7 h2, ro7 h2, c7, q7', ro7 h2, cF]
    rfl
  rw [if_neg q7]
  have q7' : Q 12 0 < 7 := by omega
  by_cases qt : 0 < Q 12 0 ∧ Q 3 (Q 12 0 - 1) = 3
  · rw [if_pos qt]
    refine ⟨_, ?_, ClC.fail (T := T) (n := n) (F := (4, a + 1)) (a0 := a) (na := na) (sg := sg) (co := co) (show (4 : Nat) ≠ 0 by decide) (by omega) (by omega) hx⟩
    show Run M_X7_readPart 0 [.ref 2, .ref o, .null] [] h = _
    rw [bI_t qt] at tr
    simp only [r_X7_readPart_0, r_X7_readPart_1, r_X7_readPart_4, r_X7_readPart_6, r_X7_readPart_19, r_X7_readPart_20, r_X7_readPart_23, r_X7_readPart_26, r_X7_readPart_27, r_X7_readPart_28, r_X7_readPart_29, r_X7_readPart_32, r_X7_readPart_35, ↓reduceIte, Option.isSome_some, Option.getD_some, rL_v, rL_n, cH_s, List.cons_append, List.nil_append, cat_i, cat_r, cat_n, ofN, g4_0 hH1, g4_1 hH1, g4_2 hH1, g4_3 hH1, g4_4 hH1, g4_5 hH1, g4_6 hH1, ro4 hH1, g7_0 h2, g7_1 h2, g7_2 h2, g7_3 h2, g7_4 h2, g7_5 h2, g7_6 h2, g7_7 h2, ro7 h2, c7, q7', ro4 hH1, tr, ne10, ro7 h2, cF]
    rfl
  rw [if_neg qt]
  rw [bI_f qt] at tr
  obtain ⟨⟨so, lo, ky, ct, hp⟩, g, hl⟩ := hX (Q 12 0) q7'
  obtain ⟨l2, l3, l4, l5, l6, l7⟩ := p_le (T := T) ha
  have v1 := vl_le (T := T) (n := n) (a := a + 1) (by omega)
  have v2 := vl_le (T := T) (n := n) (a := p2 T n a) l2
  have o1 := FOk_nf (T := T) (n := n) (a := a + 1) (lo := 0) (hi := 3) (by omega)
  have o2 := o1.oo (FOk_nf (T := T) (lo := 0) (hi := 7) l2)
  have o3 := o2.oo (FOk_tf (T := T) (v := vl T n (a + 1)) l2)
  have o4 : FOk n (F3p T n a) := FOk_F3p ha
  have el := eL_sk (T := T) l4
  generalize hPe : o + 7 + 2 * Q 12 0 = P at hp
  generalize hLe : o + 8 + 2 * Q 12 0 = la at hp hl
  have gP := gR_nI hr1 (Or.inr (Or.inl rfl)) (by decide) (by omega) (hr2 (Q 12 0) q7') (show Q 12 0 < 7 by omega)
  rw [hPe] at gP
  have N1 := c_number (h := hup h 2 (oRd 3 (nI n) (fI 0) (nI 0) (nI (a + 1)) na sg co)) (F := (0, 0)) (a := a + 1) (lo := 0) (hi := 3) (na := na) (sg := sg) (co := co) hn hT (by omega) FOk.z (by decide) (by decide) ((hup_ne (by decide)).trans h3) hup_get
  rw [oo_w rfl, hup_hup] at N1
  generalize hX1 : oRd 3 (nI n) (fI (nf T n (a + 1) 0 3).2) (nI (nf T n (a + 1) 0 3).1) (nI (nb T n (a + 1))) (nI (sk T n (a + 1))) sg co = X1 at N1
  generalize hH1' : hup (hup h 2 X1) P (oPa (nI (vl T n (a + 1))) lo ky ct la) = G1
  have A2 : G1.2.2 2 = some X1 := by rw [← hH1', hup_ne (by omega)]; exact hup_get
  have A3 : G1.2.2 3 = some (iA 250 (fun i => nI (T i))) := by rw [← hH1', hup_ne (by omega), hup_ne (by omega)]; exact h3
  have AP : G1.2.2 P = some (oPa (nI (vl T n (a + 1))) lo ky ct la) := by rw [← hH1']; exact hup_get
  have Af : ∀ x, x ≠ 2 → x ≠ P → G1.2.2 x = h.2.2 x := fun x y z => by rw [← hH1', hup_ne z, hup_ne y]
  rw [← hX1] at A2
  have N2 := c_number (lo := 0) (hi := 7) hn hT l2 o1 (by decide) (by decide) A3 A2
  generalize hX2 : oRd 3 (nI n) (fI (oo (nf T n (a + 1) 0 3) (nf T n (p2 T n a) 0 7)).2) (nI (oo (nf T n (a + 1) 0 3) (nf T n (p2 T n a) 0 7)).1) (nI (nb T n (p2 T n a))) (nI (sk T n (p2 T n a))) sg co = X2 at N2
  generalize hH2' : hup (hup G1 2 X2) P (oPa (nI (vl T n (a + 1))) (nI (vl T n (p2 T n a))) ky ct la) = G2
  have B2 : G2.2.2 2 = some X2 := by rw [← hH2', hup_ne (by omega)]; exact hup_get
  have B3 : G2.2.2 3 = some (iA 250 (fun i => nI (T i))) := by rw [← hH2', hup_ne (by omega), hup_ne (by omega)]; exact A3
  have BP : G2.2.2 P = some (oPa (nI (vl T n (a + 1))) (nI (vl T n (p2 T n a))) ky ct la) := by rw [← hH2']; exact hup_get
  have Bf : ∀ x, x ≠ 2 → x ≠ P → G2.2.2 x = h.2.2 x := fun x y z => by rw [← hH2', hup_ne z, hup_ne y]; exact Af x y z
  rw [← hX2] at B2
  have T1 : Run M_X7_readPart 0 [.ref 2, .ref o, .null] [] h = Run M_X7_readPart 77 [.ref 2, .ref o, .ref P] [] G2 := by
    have hH1a : (hup h 2 (oRd 3 (nI n) (fI 0) (nI 0) (nI (a + 1)) na sg co)).2.2 o = _ := (hup_ne (by omega)).trans hH1
    have gPa : gR (hup h 2 (oRd 3 (nI n) (fI 0) (nI 0) (nI (a + 1)) na sg co)) (o + 1) (nI (Q 12 0)) = some P := by rw [gR_h (by omega)]; exact gP
    have hpa : (hup h 2 X1).2.2 P = _ := (hup_ne (by omega)).trans hp
    have hpb : (hup G1 2 X2).2.2 P = _ := (hup_ne (by omega)).trans AP
    simp only [r_X7_readPart_0, r_X7_readPart_1, r_X7_readPart_4, r_X7_readPart_6, r_X7_readPart_19, r_X7_readPart_20, r_X7_readPart_23, r_X7_readPart_36, r_X7_readPart_37, r_X7_readPart_38, r_X7_readPart_41, r_X7_readPart_42, r_X7_readPart_43, r_X7_readPart_46, r_X7_readPart_47, r_X7_readPart_50, r_X7_readPart_51, r_X7_readPart_54, r_X7_readPart_55, r_X7_readPart_56, r_X7_readPart_57, r_X7_readPart_58, r_X7_readPart_59, r_X7_readPart_60, ↓reduceIte, Option.isSome_some, Option.getD_some, rL_v, rL_n, cH_s, List.cons_append, List.nil_append, cat_i, cat_r, cat_n, ofN, g4_0 hH1, g4_1 hH1, g4_2 hH1, g4_3 hH1, g4_4 hH1, g4_5 hH1, g4_6 hH1, ro4 hH1, g7_0 h2, p7_0 h2, g7_1 h2, p7_1 h2, g7_2 h2, p7_2 h2, g7_3 h2, p7_3 h2, g7_4 h2, p7_4 h2, g7_5 h2, p7_5 h2, g7_6 h2, p7_6 h2, g7_7 h2, p7_7 h2, ro7 h2, c7, q7', ro4 hH1, tr, nI_add, g4_0 hH1a, g4_1 hH1a, g4_2 hH1a, g4_3 hH1a, g4_4 hH1a, g4_5 hH1a, g4_6 hH1a, ro4 hH1a, gPa, rou7, gu7_0, pu7_0, gu7_1, pu7_1, gu7_2, pu7_2, gu7_3, pu7_3, gu7_4, pu7_4, gu7_5, pu7_5, gu7_6, pu7_6, gu7_7, pu7_7, N1]
    simp only [r_X7_readPart_63, r_X7_readPart_66, r_X7_readPart_67, r_X7_readPart_68, r_X7_readPart_69, r_X7_readPart_71, ↓reduceIte, Option.isSome_some, Option.getD_some, rL_v, rL_n, cH_s, List.cons_append, List.nil_append, cat_i, cat_r, cat_n, ofN, g6_0 hpa, p6_0 hpa, g6_1 hpa, p6_1 hpa, g6_2 hpa, p6_2 hpa, g6_3 hpa, p6_3 hpa, g6_4 hpa, p6_4 hpa, ro6 hpa, hH1', ro7 A2, N2]
    simp only [r_X7_readPart_74, ↓reduceIte, Option.isSome_some, Option.getD_some, rL_v, rL_n, cH_s, List.cons_append, List.nil_append, cat_i, cat_r, cat_n, ofN, g6_0 hpb, p6_0 hpb, g6_1 hpb, p6_1 hpb, g6_2 hpb, p6_2 hpb, g6_3 hpb, p6_3 hpb, g6_4 hpb, p6_4 hpb, ro6 hpb, hH2']
  have T2 : Run M_X7_readPart 77 [.ref 2, .ref o, .ref P] [] G2 = Run M_X7_readPart 101 [.ref 2, .ref o, .ref P] [] (hup G2 2 (oRd 3 (nI n) (fI (oo (oo (nf T n (a + 1) 0 3) (nf T n (p2 T n a) 0 7)) (tf T n (vl T n (a + 1)) (p2 T n a))).2) (nI (oo (oo (nf T n (a + 1) 0 3) (nf T n (p2 T n a) 0 7)) (tf T n (vl T n (a + 1)) (p2 T n a))).1) (nI (nb T n (p2 T n a))) (nI (sk T n (p2 T n a))) sg co)) := by
    have e3 : (nI (vl T n (a + 1)) = nI 3) = (vl T n (a + 1) = 3) := nI_inj (by omega) (by decide)
    have e0 : (nI (vl T n (p2 T n a)) = nI 0) = (vl T n (p2 T n a) = 0) := nI_inj (by omega) (by decide)
    unfold tf
    by_cases q3 : vl T n (a + 1) = 3
    · by_cases q0 : vl T n (p2 T n a) = 0
      · rw [if_neg (fun z => z.2 q0), oo_z o2, hup_same B2]
        simp only [r_X7_readPart_77, r_X7_readPart_78, r_X7_readPart_81, r_X7_readPart_82, r_X7_readPart_85, r_X7_readPart_86, r_X7_readPart_89, ↓reduceIte, Option.isSome_some, Option.getD_some, rL_v, rL_n, cH_s, List.cons_append, List.nil_append, cat_i, cat_r, cat_n, ofN, g6_0 BP, g6_1 BP, g6_2 BP, g6_3 BP, g6_4 BP, ro6 BP, e3, q3, e0, q0]
      · rw [if_pos ⟨q3, q0⟩]
        have cf4 := c_fail (c := 4) (p := sk T n (p2 T n a)) (by have := o2.1; omega) B2
        simp only [r_X7_readPart_77, r_X7_readPart_78, r_X7_readPart_81, r_X7_readPart_82, r_X7_readPart_85, r_X7_readPart_86, r_X7_readPart_89, r_X7_readPart_92, r_X7_readPart_93, r_X7_readPart_94, r_X7_readPart_95, r_X7_readPart_98, ↓reduceIte, Option.isSome_some, Option.getD_some, rL_v, rL_n, cH_s, List.cons_append, List.nil_append, cat_i, cat_r, cat_n, ofN, g6_0 BP, g6_1 BP, g6_2 BP, g6_3 BP, g6_4 BP, ro6 BP, e3, q3, e0, q0, g7_0 B2, g7_1 B2, g7_2 B2, g7_3 B2, g7_4 B2, g7_5 B2, g7_6 B2, g7_7 B2, ro7 B2, ro7 B2, cf4]
    · rw [if_neg (fun z => q3 z.1), oo_z o2, hup_same B2]
      simp only [r_X7_readPart_77, r_X7_readPart_78, r_X7_readPart_81, r_X7_readPart_82, ↓reduceIte, Option.isSome_some, Option.getD_some, rL_v, rL_n, cH_s, List.cons_append, List.nil_append, cat_i, cat_r, cat_n, ofN, g6_0 BP, g6_1 BP, g6_2 BP, g6_3 BP, g6_4 BP, ro6 BP, e3, q3]
  generalize hF3 : oo (oo (nf T n (a + 1) 0 3) (nf T n (p2 T n a) 0 7)) (tf T n (vl T n (a + 1)) (p2 T n a)) = F3 at T2 o3
  generalize hG3 : hup G2 2 (oRd 3 (nI n) (fI F3.2) (nI F3.1) (nI (nb T n (p2 T n a))) (nI (sk T n (p2 T n a))) sg co) = G3 at T2
  have C2 : G3.2.2 2 = some (oRd 3 (nI n) (fI F3.2) (nI F3.1) (nI (nb T n (p2 T n a))) (nI (sk T n (p2 T n a))) sg co) := by rw [← hG3]; exact hup_get
  have C3 : G3.2.2 3 = some (iA 250 (fun i => nI (T i))) := by rw [← hG3, hup_ne (by omega)]; exact B3
  have CP : G3.2.2 P = some (oPa (nI (vl T n (a + 1))) (nI (vl T n (p2 T n a))) ky ct la) := by rw [← hG3, hup_ne (by omega)]; exact BP
  have Cf : ∀ x, x ≠ 2 → x ≠ P → G3.2.2 x = h.2.2 x := fun x y z => by rw [← hG3, hup_ne y]; exact Bf x y z
  have N3 := c_number (lo := 0) (hi := 11) hn hT l3 o3 (by decide) (by decide) C3 C2
  have eF3 : oo F3 (nf T n (p3 T n a) 0 11) = F3p T n a := by rw [← hF3]; rfl
  rw [eF3] at N3
  generalize hX4 : oRd 3 (nI n) (fI (F3p T n a).2) (nI (F3p T n a).1) (nI (nb T n (p3 T n a))) (nI (sk T n (p3 T n a))) sg co = X4 at N3
  generalize hG4 : hup (hup G3 2 X4) P (oPa (nI (vl T n (a + 1))) (nI (vl T n (p2 T n a))) (nI (vl T n (p3 T n a))) ct la) = G4
  have D2 : G4.2.2 2 = some X4 := by rw [← hG4, hup_ne (by omega)]; exact hup_get
  have D3 : G4.2.2 3 = some (iA 250 (fun i => nI (T i))) := by rw [← hG4, hup_ne (by omega), hup_ne (by omega)]; exact C3
  have DP : G4.2.2 P = some (oPa (nI (vl T n (a + 1))) (nI (vl T n (p2 T n a))) (nI (vl T n (p3 T n a))) ct la) := by rw [← hG4]; exact hup_get
  have Df : ∀ x, x ≠ 2 → x ≠ P → G4.2.2 x = h.2.2 x := fun x y z => by rw [← hG4, hup_ne z, hup_ne y]; exact Cf x y z
  rw [← hX4] at D2
  have Dl : G4.2.2 la = some (iA 4 g) := (Df la (by omega) (by omega)).trans hl
  obtain ⟨G5, na5, R1, R2, R3, ⟨g', R4, R5⟩, R6, R7, R8⟩ := c_readLengths hn hT l4 o4 (by omega) (by omega) (by omega) D3 D2 DP Dl
  have E3 : G5.2.2 3 = some (iA 250 (fun i => nI (T i))) := (R6 3 (by omega) (by omega) (by omega)).trans D3
  have K := c_close hn hT el.2.1 (FOk_FL l4 o4 _ (Nat.le_refl _)) E3 R2
  have eFp : oo (FL T n (p4 T n a) (F3p T n a) (cL T n (p4 T n a))) (cf T n (eL T n (p4 T n a))) = Fpt T n a := rfl
  have eap : clA' T n (eL T n (p4 T n a)) = apt T n a := rfl
  rw [eFp, eap] at K
  generalize hG6 : hup G5 2 (oRd 3 (nI n) (fI (Fpt T n a).2) (nI (Fpt T n a).1) (nI (apt T n a)) na5 sg co) = G6 at K
  have fr6 : ∀ x, x ≠ 2 → x ≠ P → x ≠ la → G6.2.2 x = h.2.2 x := fun x y z w => by rw [← hG6, hup_ne y, R6 x y z w]; exact Df x y z
  have H6o : G6.2.2 o = some (oHa (nI (Q 12 0)) (o + 1) (nI (Q 12 1)) (nI (Q 12 2)) (o + 2) (o + 3) (o + 4)) := (fr6 o (by omega) (by omega) (by omega)).trans hH1
  have T3 : Run M_X7_readPart 101 [.ref 2, .ref o, .ref P] [] G3 = some (hup G6 o (oHa (nI (Q 12 0 + 1)) (o + 1) (nI (Q 12 1)) (nI (Q 12 2)) (o + 2) (o + 3) (o + 4)), none) := by
    have hpc : (hup G3 2 X4).2.2 P = _ := (hup_ne (by omega)).trans CP
    simp only [r_X7_readPart_101, r_X7_readPart_102, r_X7_readPart_103, r_X7_readPart_104, r_X7_readPart_106, ↓reduceIte, Option.isSome_some, Option.getD_some, rL_v, rL_n, cH_s, List.cons_append, List.nil_append, cat_i, cat_r, cat_n, ofN, ro7 C2, N3]
    simp only [r_X7_readPart_109, r_X7_readPart_112, r_X7_readPart_113, r_X7_readPart_114, ↓reduceIte, Option.isSome_some, Option.getD_some, rL_v, rL_n, cH_s, List.cons_append, List.nil_append, cat_i, cat_r, cat_n, ofN, g6_0 hpc, p6_0 hpc, g6_1 hpc, p6_1 hpc, g6_2 hpc, p6_2 hpc, g6_3 hpc, p6_3 hpc, g6_4 hpc, p6_4 hpc, ro6 hpc, hG4, ro7 D2, R1]
    simp only [r_X7_readPart_117, r_X7_readPart_118, ↓reduceIte, Option.isSome_some, Option.getD_some, rL_v, rL_n, cH_s, List.cons_append, List.nil_append, cat_i, cat_r, cat_n, ofN, ro7 R2, K]
    simp only [r_X7_readPart_121, r_X7_readPart_122, r_X7_readPart_123, r_X7_readPart_126, r_X7_readPart_127, r_X7_readPart_128, r_X7_readPart_131, ↓reduceIte, Option.isSome_some, Option.getD_some, rL_v, rL_n, cH_s, List.cons_append, List.nil_append, cat_i, cat_r, cat_n, ofN, g4_0 H6o, p4_0 H6o, g4_1 H6o, p4_1 H6o, g4_2 H6o, p4_2 H6o, g4_3 H6o, p4_3 H6o, g4_4 H6o, p4_4 H6o, g4_5 H6o, p4_5 H6o, g4_6 H6o, p4_6 H6o, ro4 H6o, nI_add]
  generalize hG7 : hup G6 o (oHa (nI (Q 12 0 + 1)) (o + 1) (nI (Q 12 1)) (nI (Q 12 2)) (o + 2) (o + 3) (o + 4)) = G7 at T3
  have fr7 : ∀ x, x ≠ 2 → x ≠ P → x ≠ la → x ≠ o → G7.2.2 x = h.2.2 x := fun x y z w v => by rw [← hG7, hup_ne v]; exact fr6 x y z w
  have Z2 : G7.2.2 2 = some (oRd 3 (nI n) (fI (Fpt T n a).2) (nI (Fpt T n a).1) (nI (apt T n a)) na5 sg co) := by rw [← hG7, hup_ne (by omega), ← hG6]; exact hup_get
  have ZP : G7.2.2 P = some (oPa (nI (vl T n (a + 1))) (nI (vl T n (p2 T n a))) (nI (vl T n (p3 T n a))) (nI (cL T n (p4 T n a))) la) := by rw [← hG7, hup_ne (by omega), ← hG6, hup_ne (by omega)]; exact R3
  have Zl : G7.2.2 la = some (iA 4 g') := by rw [← hG7, hup_ne (by omega), ← hG6, hup_ne (by omega)]; exact R4
  have Zo : G7.2.2 o = some (oHa (nI (Q 12 0 + 1)) (o + 1) (nI (Q 12 1)) (nI (Q 12 2)) (o + 2) (o + 3) (o + 4)) := by rw [← hG7]; exact hup_get
  have ZX : ∀ p, p < 7 → PartX G7 o p := fun p hp7 => by
    by_cases e : p = Q 12 0
    · subst e
      rw [PartX, hPe, hLe]
      exact ⟨⟨_, _, _, _, ZP⟩, _, Zl⟩
    · obtain ⟨⟨x1, x2, x3, x4, x5⟩, x6, x7⟩ := hX p hp7
      exact ⟨⟨x1, x2, x3, x4, (fr7 _ (by omega) (by omega) (by omega) (by omega)).trans x5⟩, x6, (fr7 _ (by omega) (by omega) (by omega) (by omega)).trans x7⟩
  have ZA : AgR G7 (o + 4) (Q 0) (Q 12 1) := hA.fr (fun x _ _ => fr7 x (by omega) (by omega) (by omega) (by omega))
  have Zr : RowR G7 o := ⟨fr, (fr7 _ (by omega) (by omega) (by omega) (by omega)).trans hr1, hr2⟩
  have Zt1 := (fr7 (o + 2) (by omega) (by omega) (by omega) (by omega)).trans t1
  have Zt2 := (fr7 (o + 3) (by omega) (by omega) (by omega) (by omega)).trans t2
  refine ⟨G7, T1.trans (T2.trans T3), ⟨na5, apt T n a, Z2, (apt_le ha).1, fun _ => rfl⟩, ⟨⟨_, _, _, Zo⟩, Zr, ⟨_, Zt1⟩, ⟨_, Zt2⟩, ZA.x, ZX⟩, fun _ => ⟨Zo, Zr, ⟨f1, Zt1, t1'⟩, ⟨f2, Zt2, t2'⟩, ZA, ZX, fun p hpp => ?_⟩, fun x y z => fr7 x y (by omega) (by omega) (by omega), ?_, ?_⟩
  · have e3 : Qpt T n a Q 3 = va_up (Q 3) (Q 12 0) (vl T n (a + 1)) := rfl
    have e4 : Qpt T n a Q 4 = va_up (Q 4) (Q 12 0) (vl T n (p2 T n a)) := rfl
    have e5 : Qpt T n a Q 5 = va_up (Q 5) (Q 12 0) (vl T n (p3 T n a)) := rfl
    have e6 : Qpt T n a Q 6 = va_up (Q 6) (Q 12 0) (cL T n (p4 T n a)) := rfl
    have e7 : Qpt T n a Q 7 = lnN T n (p4 T n a) (Q 12 0) (Q 7) := rfl
    have hpp' : p < Q 12 0 + 1 := hpp
    have c4 := (cL_p T n (p4 T n a)).2.1
    unfold PartR lenP
    rw [e3, e4, e5, e6, e7]
    by_cases e : p = Q 12 0
    · subst e
      rw [va_up_self, va_up_self, va_up_self, va_up_self, hPe, hLe]
      refine ⟨ZP, g', Zl, fun i hi => ?_⟩
      rw [R5 i hi]
      unfold lnN
      rw [if_pos (by omega), show 4 * Q 12 0 + i - 4 * Q 12 0 = i by omega]
    · rw [va_up_ne _ _ e, va_up_ne _ _ e, va_up_ne _ _ e, va_up_ne _ _ e]
      obtain ⟨y1, y2, y3, y4⟩ := hP p (by omega)
      have k5 := (hQ.2 p (by omega)).2.2.2.2.1
      refine ⟨(fr7 _ (by omega) (by omega) (by omega) (by omega)).trans y1, y2, (fr7 _ (by omega) (by omega) (by omega) (by omega)).trans y3, fun i hi => ?_⟩
      rw [y4 i hi]
      unfold lnN
      rw [if_neg (by omega)]
  · rw [← hG7, ← hG6]; show G5.1 = _; rw [R7, ← hG4, ← hG3, ← hH2', ← hH1']; rfl
  · rw [← hG7, ← hG6]; show G5.2.1 = _; rw [R8, ← hG4, ← hG3, ← hH2', ← hH1']; rfl
