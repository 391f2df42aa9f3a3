/-! ===== hall: the model reads a sign, costs ===== -/
theorem c_mn0 {h : AH} {T : Nat → Nat} {n a lo hi : Nat} {b : Nat → Int32} {F : Nat × Nat} {at' pl tk v f : Int32} (hn : n ≤ 250) (hT : ∀ i, i < n → T i < 256) (ha : a ≤ n) (hb : b 3 = nI n) (hF : FOk n F) (hlo : lo ≤ 1000) (hhi : hi ≤ 1000) (h98 : h.2.2 98 = some (iA 250 (fun i => nI (T i)))) (hm : h.2.2 88 = some (oMk b at' pl tk v f (nI F.1) (fI F.2))) (hk : F.1 = 0 → MTk T n a at' pl tk v f) :
    ∃ at2 pl2 tk2 v2 f2 r, Call M_X9_number h [.ref 88, .int (nI lo), .int (nI hi), .int (nI 0)] = some (hup h 88 (oMk b at2 pl2 tk2 v2 f2 (nI (oo F (nf T n a lo hi)).1) (fI (oo F (nf T n a lo hi)).2)), some (.int r)) ∧ ((oo F (nf T n a lo hi)).1 = 0 → MTk T n (nb T n a) at2 pl2 tk2 v2 f2 ∧ r = nI (vl T n a)) := by
  have := c_mnum (no := 0) hn hT ha hb hF hlo hhi (by decide) h98 hm hk
  rw [nfm_0] at this
  exact this
theorem sk_here {T : Nat → Nat} {n a : Nat} (h : T a ≠ 32) : sk T n a = a := sk_n (fun z => h z.2)
set_option maxHeartbeats 2000000 in
theorem m_readSign {h : AH} {T : Nat → Nat} {n a sg co : Nat} {S Q : SS} {at' pl tk v f : Int32} (hn : n ≤ 250) (hT : ∀ i, i < n → T i < 256) (ha : a < n) (hTa : T a = 115) (hSn : S 12 3 = n) (hsg : sg ≤ 1) (hQ1 : Q 12 1 ≤ 5) (h98 : h.2.2 98 = some (iA 250 (fun i => nI (T i)))) (hm : h.2.2 88 = some (oMk (bS S (Q 12 0) (Q 12 1) (Q 12 2) sg co) at' pl tk v f (nI 0) (fI 0))) (k : MTk T n a at' pl tk v f) (hS : SaR h Q) :
    ∃ h', Call M_X9_readSign h [.ref 88] = some (h', none) ∧ ClM h h' T n S (if sg = 1 then (3, a + 1) else F2c T n a 8 8) (e2c T n a) (Qsg T n a Q) 1 co := by
  have sa : sk T n a = a := sk_here (by omega)
  have hC : isC T n a 115 := ⟨by rw [sa]; exact ha, by rw [sa]; exact hTa⟩
  have hX := hS.x
  obtain ⟨q1, q2, q3, q4, q5, ⟨f6, q6, q6'⟩, q7, ⟨f8, q8, q8'⟩⟩ := id hS
  obtain ⟨at2, pl2, tk2, v2, f2', n1, n2⟩ := c_begins (b := bS S (Q 12 0) (Q 12 1) (Q 12 2) sg co) (c := 115) (fu := sg) (be := 0) hn hT (by omega) (by rw [← hSn]; rfl) (by decide) hC hsg (by decide) h98 hm k
  rw [sa] at n1 n2
  by_cases y : sg = 1
  · subst y
    rw [if_pos rfl]
    rw [show Fbe 1 0 (a + 1) = (3, a + 1) from rfl, bI_f (show ¬ (3 : Nat) = 0 by decide)] at n1
    refine ⟨_, ?_, ClM.fail (F := (3, a + 1)) (np := Q 12 0) (npl := Q 12 1) (ntl := Q 12 2) (sg' := 1) (co' := co) (at' := at2) (pl := pl2) (tk := tk2) (v := v2) (f := f2') (show (3 : Nat) ≠ 0 by decide) hX⟩
    show Run M_X9_readSign 0 [.ref 88] [] h = _
    simp only [r_X9_readSign_0, r_X9_readSign_1, r_X9_readSign_2, r_X9_readSign_5, r_X9_readSign_6, r_X9_readSign_9, r_X9_readSign_12, ↓reduceIte, Option.isSome_some, Option.getD_some, rL_v, rL_n, cH_s, List.cons_append, List.nil_append, cat_i, cat_r, cat_n, ofN, g9_0 hm, g9_1 hm, g9_2 hm, g9_3 hm, g9_4 hm, g9_5 hm, g9_6 hm, g9_7 hm, g9_8 hm, g9_9 hm, g9_10 hm, g9_11 hm, g9_12 hm, g9_13 hm, g9_14 hm, g9_15 hm, g9_16 hm, g9_17 hm, g9_18 hm, g9_19 hm, g9_20 hm, g9_21 hm, g9_22 hm, g9_23 hm, g9_24 hm, g9_25 hm, g9_26 hm, g9_27 hm, g9_28 hm, g9_29 hm, g9_30 hm, g9_31 hm, g9_32 hm, g9_33 hm, g9_34 hm, g9_35 hm, g9_36 hm, g9_37 hm, g9_38 hm, g9_39 hm, ro9 hm, bS_7, n1]
  rw [if_neg y]
  have y0 : sg = 0 := by omega
  subst y0
  rw [show Fbe 0 0 (a + 1) = (0, 0) from rfl, bI_t rfl] at n1
  have k1 : MTk T n (a + 1) at2 pl2 tk2 v2 f2' := n2 rfl
  obtain ⟨l2, l3, l4, l5, l6, l7⟩ := p_le (T := T) ha
  have o1 := FOk_nf (T := T) (n := n) (a := a + 1) (lo := 0) (hi := 8) (by omega)
  have o2 := o1.oo (FOk_nf (T := T) (lo := 0) (hi := 8) l2)
  have hb3 : bS S (Q 12 0) (Q 12 1) (Q 12 2) 0 co 3 = nI n := by rw [← hSn]; rfl
  generalize hH0 : hup h 88 (oMk (bS S (Q 12 0) (Q 12 1) (Q 12 2) 0 co) at2 pl2 tk2 v2 f2' (nI 0) (fI 0)) = H0 at n1
  have Z88 : H0.2.2 88 = some (oMk (bS S (Q 12 0) (Q 12 1) (Q 12 2) 0 co) at2 pl2 tk2 v2 f2' (nI 0) (fI 0)) := by rw [← hH0]; exact hup_get
  have Zf : ∀ x, x ≠ 88 → H0.2.2 x = h.2.2 x := fun x hx => by rw [← hH0]; exact hup_ne hx
  obtain ⟨w1, w2, w3, w4, w5, r1, N1, K1⟩ := c_mn0 (F := (0, 0)) (lo := 0) (hi := 8) hn hT (show a + 1 ≤ n by omega) hb3 FOk.z (by decide) (by decide) ((Zf 98 (by decide)).trans h98) Z88 (fun _ => k1)
  rw [oo_w rfl] at N1 K1
  generalize hG1 : hup (hup H0 88 (oMk (bS S (Q 12 0) (Q 12 1) (Q 12 2) 0 co) w1 w2 w3 w4 w5 (nI (nf T n (a + 1) 0 8).1) (fI (nf T n (a + 1) 0 8).2))) 106 (iA 5 (upd f8 3 r1)) = G1
  have A88 : G1.2.2 88 = some (oMk (bS S (Q 12 0) (Q 12 1) (Q 12 2) 0 co) w1 w2 w3 w4 w5 (nI (nf T n (a + 1) 0 8).1) (fI (nf T n (a + 1) 0 8).2)) := by rw [← hG1, hup_ne (by decide)]; exact hup_get
  have A106 : G1.2.2 106 = some (iA 5 (upd f8 3 r1)) := by rw [← hG1]; exact hup_get
  have Af : ∀ x, x ≠ 88 → x ≠ 106 → G1.2.2 x = h.2.2 x := fun x y z => by rw [← hG1, hup_ne z, hup_ne y]; exact Zf x y
  obtain ⟨x1, x2, x3, x4, x5, r2, N2, K2⟩ := c_mn0 (lo := 0) (hi := 8) hn hT l2 hb3 o1 (by decide) (by decide) ((Af 98 (by decide) (by decide)).trans h98) A88 (fun z => (K1 z).1)
  generalize hF2 : oo (nf T n (a + 1) 0 8) (nf T n (p2 T n a) 0 8) = F2 at N2 K2 o2
  generalize hG2 : hup (hup G1 88 (oMk (bS S (Q 12 0) (Q 12 1) (Q 12 2) 0 co) x1 x2 x3 x4 x5 (nI F2.1) (fI F2.2))) 106 (iA 5 (upd (upd f8 3 r1) 4 r2)) = G2
  have B88 : G2.2.2 88 = some (oMk (bS S (Q 12 0) (Q 12 1) (Q 12 2) 0 co) x1 x2 x3 x4 x5 (nI F2.1) (fI F2.2)) := by rw [← hG2, hup_ne (by decide)]; exact hup_get
  have B106 : G2.2.2 106 = some (iA 5 (upd (upd f8 3 r1) 4 r2)) := by rw [← hG2]; exact hup_get
  have Bf : ∀ x, x ≠ 88 → x ≠ 106 → G2.2.2 x = h.2.2 x := fun x y z => by rw [← hG2, hup_ne z, hup_ne y]; exact Af x y z
  generalize hG3 : hup G2 88 (oMk (bS S (Q 12 0) (Q 12 1) (Q 12 2) 1 co) x1 x2 x3 x4 x5 (nI F2.1) (fI F2.2)) = G3
  have C88 : G3.2.2 88 = some (oMk (bS S (Q 12 0) (Q 12 1) (Q 12 2) 1 co) x1 x2 x3 x4 x5 (nI F2.1) (fI F2.2)) := by rw [← hG3]; exact hup_get
  have C106 : G3.2.2 106 = some (iA 5 (upd (upd f8 3 r1) 4 r2)) := by rw [← hG3, hup_ne (by decide)]; exact B106
  have Cf : ∀ x, x ≠ 88 → x ≠ 106 → G3.2.2 x = h.2.2 x := fun x y z => by rw [← hG3, hup_ne y]; exact Bf x y z
  obtain ⟨z1, z2, z3, z4, z5, N3, K3⟩ := c_mstops (b := bS S (Q 12 0) (Q 12 1) (Q 12 2) 1 co) hn hT l3 (by rw [← hSn]; rfl) o2 ((Cf 98 (by decide) (by decide)).trans h98) C88 (fun z => (K2 z).1)
  have eF : oo F2 (cf T n (p3 T n a)) = F2c T n a 8 8 := by rw [← hF2]; rfl
  rw [eF] at N3 K3
  have Df : ∀ X x, x ≠ 88 → x ≠ 106 → (hup G3 88 X).2.2 x = h.2.2 x := fun X x y z => by rw [hup_ne y]; exact Cf x y z
  refine ⟨_, ?_, ⟨z1, z2, z3, z4, z5, Q 12 0, Q 12 1, Q 12 2, 1, co, hup_get, fun z => ⟨?_, rfl, rfl, rfl, rfl, rfl⟩⟩, ?_, fun z => ?_, fun x u1 u2 => Df _ x u1 (by omega), by rw [hup_1, ← hG3, ← hG2, ← hG1, ← hH0]; rfl, by rw [hup_2, ← hG3, ← hG2, ← hG1, ← hH0]; rfl⟩
  · have N1' : ∀ X, (hup H0 88 X).2.2 106 = some (iA 5 f8) := fun X => (hup_ne (by decide)).trans ((Zf 106 (by decide)).trans q8)
    have N2' : ∀ X, (hup G1 88 X).2.2 106 = _ := fun X => (hup_ne (by decide)).trans A106
    have e88 : pF G2 88 9 32 (.int (nI 1)) = some G3 := by rw [p9_32 B88, ← hG3]; rfl
    show Run M_X9_readSign 0 [.ref 88] [] h = _
    simp only [r_X9_readSign_0, r_X9_readSign_1, r_X9_readSign_2, r_X9_readSign_5, r_X9_readSign_6, r_X9_readSign_9, r_X9_readSign_12, r_X9_readSign_13, r_X9_readSign_14, r_X9_readSign_17, r_X9_readSign_18, r_X9_readSign_19, r_X9_readSign_20, r_X9_readSign_22, r_X9_readSign_23, ↓reduceIte, Option.isSome_some, Option.getD_some, rL_v, rL_n, cH_s, List.cons_append, List.nil_append, cat_i, cat_r, cat_n, ofN, g9_0 hm, g9_1 hm, g9_2 hm, g9_3 hm, g9_4 hm, g9_5 hm, g9_6 hm, g9_7 hm, g9_8 hm, g9_9 hm, g9_10 hm, g9_11 hm, g9_12 hm, g9_13 hm, g9_14 hm, g9_15 hm, g9_16 hm, g9_17 hm, g9_18 hm, g9_19 hm, g9_20 hm, g9_21 hm, g9_22 hm, g9_23 hm, g9_24 hm, g9_25 hm, g9_26 hm, g9_27 hm, g9_28 hm, g9_29 hm, g9_30 hm, g9_31 hm, g9_32 hm, g9_33 hm, g9_34 hm, g9_35 hm, g9_36 hm, g9_37 hm, g9_38 hm, g9_39 hm, ro9 hm, bS_7, n1, ne10, g9_0 Z88, g9_1 Z88, g9_2 Z88, g9_3 Z88, g9_4 Z88, g9_5 Z88, g9_6 Z88, g9_7 Z88, g9_8 Z88, g9_9 Z88, g9_10 Z88, g9_11 Z88, g9_12 Z88, g9_13 Z88, g9_14 Z88, g9_15 Z88, g9_16 Z88, g9_17 Z88, g9_18 Z88, g9_19 Z88, g9_20 Z88, g9_21 Z88, g9_22 Z88, g9_23 Z88, g9_24 Z88, g9_25 Z88, g9_26 Z88, g9_27 Z88, g9_28 Z88, g9_29 Z88, g9_30 Z88, g9_31 Z88, g9_32 Z88, g9_33 Z88, g9_34 Z88, g9_35 Z88, g9_36 Z88, g9_37 Z88, g9_38 Z88, g9_39 Z88, ro9 Z88, N1]
    simp only [r_X9_readSign_26, r_X9_readSign_27, r_X9_readSign_28, r_X9_readSign_31, r_X9_readSign_32, r_X9_readSign_33, r_X9_readSign_34, r_X9_readSign_36, r_X9_readSign_37, ↓reduceIte, Option.isSome_some, Option.getD_some, rL_v, rL_n, cH_s, List.cons_append, List.nil_append, cat_i, cat_r, cat_n, ofN, pI_nI (N1' _) (by decide) (show 106 ≠ 0 by decide) (show 3 < 5 by decide), hG1, g9_0 A88, g9_1 A88, g9_2 A88, g9_3 A88, g9_4 A88, g9_5 A88, g9_6 A88, g9_7 A88, g9_8 A88, g9_9 A88, g9_10 A88, g9_11 A88, g9_12 A88, g9_13 A88, g9_14 A88, g9_15 A88, g9_16 A88, g9_17 A88, g9_18 A88, g9_19 A88, g9_20 A88, g9_21 A88, g9_22 A88, g9_23 A88, g9_24 A88, g9_25 A88, g9_26 A88, g9_27 A88, g9_28 A88, g9_29 A88, g9_30 A88, g9_31 A88, g9_32 A88, g9_33 A88, g9_34 A88, g9_35 A88, g9_36 A88, g9_37 A88, g9_38 A88, g9_39 A88, ro9 A88, N2]
    simp only [r_X9_readSign_40, r_X9_readSign_41, r_X9_readSign_42, r_X9_readSign_43_0, r_X9_readSign_43_1, r_X9_readSign_46, r_X9_readSign_47, r_X9_readSign_50, ↓reduceIte, Option.isSome_some, Option.getD_some, rL_v, rL_n, cH_s, List.cons_append, List.nil_append, cat_i, cat_r, cat_n, ofN, pI_nI (N2' _) (by decide) (show 106 ≠ 0 by decide) (show 4 < 5 by decide), hG2, e88, ro9 C88, N3]
  · have y := K3 z
    have c := cf_0 (oo_0 (F := F2) (o := cf T n (p3 T n a)) (by rw [eF]; exact z)).2
    unfold e2c clA'
    rw [if_pos c]
    exact y
  · exact ⟨fun x u1 u2 => by rw [Df _ x (by omega) (by omega)]; exact hX.1 x u1 u2, by rw [Df _ _ (by decide) (by decide)]; exact hX.2.1, by rw [Df _ _ (by decide) (by decide)]; exact hX.2.2.1, by rw [Df _ _ (by decide) (by decide)]; exact hX.2.2.2.1, ⟨_, (hup_ne (by decide)).trans C106⟩⟩
  · have z' : (oo F2 (cf T n (p3 T n a))).1 = 0 := by rw [eF]; exact z
    have u2 := (oo_0 z').1
    have u2' : (oo (nf T n (a + 1) 0 8) (nf T n (p2 T n a) 0 8)).1 = 0 := by rw [hF2]; exact u2
    have u1 := (oo_0 u2').1
    have e1 := (K1 u1).2
    have e2 := (K2 u2).2
    refine ⟨by rw [Df _ _ (by decide) (by decide)]; exact q1, by rw [Df _ _ (by decide) (by decide)]; exact q2, by rw [Df _ _ (by decide) (by decide)]; exact q3, by rw [Df _ _ (by decide) (by decide)]; exact q4, by rw [Df _ _ (by decide) (by decide)]; exact q5, ⟨f6, (Df _ _ (by decide) (by decide)).trans q6, fun p hp => ?_⟩, by rw [Df _ _ (by decide) (by decide)]; exact q7, ⟨_, (hup_ne (by decide)).trans C106, fun x hx => ?_⟩⟩
    · show f6 (2 * p) = nI (va_up (va_up (Q 0) 3 (vl T n (a + 1))) 4 (vl T n (p2 T n a)) (5 + 2 * p)) ∧ f6 (2 * p + 1) = nI (va_up (va_up (Q 0) 3 (vl T n (a + 1))) 4 (vl T n (p2 T n a)) (5 + 2 * p + 1))
      rw [va_up_ne _ _ (by omega), va_up_ne _ _ (by omega), va_up_ne _ _ (by omega), va_up_ne _ _ (by omega)]
      exact q6' p hp
    · show upd (upd f8 3 r1) 4 r2 x = nI (va_up (va_up (Q 0) 3 (vl T n (a + 1))) 4 (vl T n (p2 T n a)) x)
      by_cases v4 : x = 4
      · subst v4; rw [pk_us, va_up_self]; exact e2
      · rw [pk_un v4, va_up_ne _ _ v4]
        by_cases v3 : x = 3
        · subst v3; rw [pk_us, va_up_self]; exact e1
        · rw [pk_un v3, va_up_ne _ _ v3]; exact q8' x hx
