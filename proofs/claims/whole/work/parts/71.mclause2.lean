/-! ===== hall: the model reads costs, a player, an instrument, a clause ===== -/
set_option maxHeartbeats 2000000 in
theorem m_readCosts {h : AH} {T : Nat → Nat} {n a sg co : Nat} {S Q : SS} {at' pl tk v f : Int32} (hn : n ≤ 250) (hT : ∀ i, i < n → T i < 256) (ha : a < n) (hTa : T a = 99) (hSn : S 12 3 = n) (hco : co ≤ 1) (hQ1 : Q 12 1 ≤ 5) (h98 : h.2.2 98 = some (iA 250 (fun i => nI (T i)))) (hm : h.2.2 88 = some (oMk (bS S (Q 12 0) (Q 12 1) (Q 12 2) sg co) at' pl tk v f (nI 0) (fI 0))) (k : MTk T n a at' pl tk v f) (hS : SaR h Q) :
    ∃ h', Call M_X9_readCosts h [.ref 88] = some (h', none) ∧ ClM h h' T n S (if co = 1 then (3, a + 1) else F3c T n a) (e3c T n a) (Qco T n a Q) sg 1 := by
  have sa : sk T n a = a := sk_here (by omega)
  have hC : isC T n a 99 := ⟨by rw [sa]; exact ha, by rw [sa]; exact hTa⟩
  have hX := hS.x
  obtain ⟨q1, q2, q3, q4, q5, ⟨f6, q6, q6'⟩, q7, ⟨f8, q8, q8'⟩⟩ := id hS
  obtain ⟨at2, pl2, tk2, v2, f2', n1, n2⟩ := c_begins (b := bS S (Q 12 0) (Q 12 1) (Q 12 2) sg co) (c := 99) (fu := co) (be := 0) hn hT (by omega) (by rw [← hSn]; rfl) (by decide) hC hco (by decide) h98 hm k
  rw [sa] at n1 n2
  by_cases y : co = 1
  · subst y
    rw [if_pos rfl]
    rw [show Fbe 1 0 (a + 1) = (3, a + 1) from rfl, bI_f (show ¬ (3 : Nat) = 0 by decide)] at n1
    refine ⟨_, ?_, ClM.fail (F := (3, a + 1)) (np := Q 12 0) (npl := Q 12 1) (ntl := Q 12 2) (sg' := sg) (co' := 1) (at' := at2) (pl := pl2) (tk := tk2) (v := v2) (f := f2') (show (3 : Nat) ≠ 0 by decide) hX⟩
    show Run M_X9_readCosts 0 [.ref 88] [] h = _
    simp only [r_X9_readCosts_0, r_X9_readCosts_1, r_X9_readCosts_2, r_X9_readCosts_5, r_X9_readCosts_6, r_X9_readCosts_9, r_X9_readCosts_12, ↓reduceIte, Option.isSome_some, Option.getD_some, rL_v, rL_n, cH_s, List.cons_append, List.nil_append, cat_i, cat_r, cat_n, ofN, g9_0 hm, g9_1 hm, g9_2 hm, g9_3 hm, g9_4 hm, g9_5 hm, g9_6 hm, g9_7 hm, g9_8 hm, g9_9 hm, g9_10 hm, g9_11 hm, g9_12 hm, g9_13 hm, g9_14 hm, g9_15 hm, g9_16 hm, g9_17 hm, g9_18 hm, g9_19 hm, g9_20 hm, g9_21 hm, g9_22 hm, g9_23 hm, g9_24 hm, g9_25 hm, g9_26 hm, g9_27 hm, g9_28 hm, g9_29 hm, g9_30 hm, g9_31 hm, g9_32 hm, g9_33 hm, g9_34 hm, g9_35 hm, g9_36 hm, g9_37 hm, g9_38 hm, g9_39 hm, ro9 hm, bS_8, n1]
  rw [if_neg y]
  have y0 : co = 0 := by omega
  subst y0
  rw [show Fbe 0 0 (a + 1) = (0, 0) from rfl, bI_t rfl] at n1
  have k1 : MTk T n (a + 1) at2 pl2 tk2 v2 f2' := n2 rfl
  obtain ⟨l2, l3, l4, l5, l6, l7⟩ := p_le (T := T) ha
  have o1 := FOk_nf (T := T) (n := n) (a := a + 1) (lo := 0) (hi := 20) (by omega)
  have o2 := o1.oo (FOk_nf (T := T) (lo := 0) (hi := 20) l2)
  have o3 := o2.oo (FOk_nf (T := T) (lo := 0) (hi := 20) l3)
  have hb3 : bS S (Q 12 0) (Q 12 1) (Q 12 2) sg 0 3 = nI n := by rw [← hSn]; rfl
  generalize hH0 : hup h 88 (oMk (bS S (Q 12 0) (Q 12 1) (Q 12 2) sg 0) at2 pl2 tk2 v2 f2' (nI 0) (fI 0)) = H0 at n1
  have Z88 : H0.2.2 88 = some (oMk (bS S (Q 12 0) (Q 12 1) (Q 12 2) sg 0) at2 pl2 tk2 v2 f2' (nI 0) (fI 0)) := by rw [← hH0]; exact hup_get
  have Zf : ∀ x, x ≠ 88 → H0.2.2 x = h.2.2 x := fun x hx => by rw [← hH0]; exact hup_ne hx
  obtain ⟨w1, w2, w3, w4, w5, r1, N1, K1⟩ := c_mn0 (F := (0, 0)) (lo := 0) (hi := 20) hn hT (show a + 1 ≤ n by omega) hb3 FOk.z (by decide) (by decide) ((Zf 98 (by decide)).trans h98) Z88 (fun _ => k1)
  rw [oo_w rfl] at N1 K1
  generalize hG1 : hup (hup H0 88 (oMk (bS S (Q 12 0) (Q 12 1) (Q 12 2) sg 0) w1 w2 w3 w4 w5 (nI (nf T n (a + 1) 0 20).1) (fI (nf T n (a + 1) 0 20).2))) 106 (iA 5 (upd f8 0 r1)) = G1
  have A88 : G1.2.2 88 = some (oMk (bS S (Q 12 0) (Q 12 1) (Q 12 2) sg 0) w1 w2 w3 w4 w5 (nI (nf T n (a + 1) 0 20).1) (fI (nf T n (a + 1) 0 20).2)) := by rw [← hG1, hup_ne (by decide)]; exact hup_get
  have A106 : G1.2.2 106 = some (iA 5 (upd f8 0 r1)) := by rw [← hG1]; exact hup_get
  have Af : ∀ x, x ≠ 88 → x ≠ 106 → G1.2.2 x = h.2.2 x := fun x y z => by rw [← hG1, hup_ne z, hup_ne y]; exact Zf x y
  obtain ⟨x1, x2, x3, x4, x5, r2, N2, K2⟩ := c_mn0 (lo := 0) (hi := 20) hn hT l2 hb3 o1 (by decide) (by decide) ((Af 98 (by decide) (by decide)).trans h98) A88 (fun z => (K1 z).1)
  generalize hF2 : oo (nf T n (a + 1) 0 20) (nf T n (p2 T n a) 0 20) = F2 at N2 K2 o2 o3
  generalize hG2 : hup (hup G1 88 (oMk (bS S (Q 12 0) (Q 12 1) (Q 12 2) sg 0) x1 x2 x3 x4 x5 (nI F2.1) (fI F2.2))) 106 (iA 5 (upd (upd f8 0 r1) 1 r2)) = G2
  have B88 : G2.2.2 88 = some (oMk (bS S (Q 12 0) (Q 12 1) (Q 12 2) sg 0) x1 x2 x3 x4 x5 (nI F2.1) (fI F2.2)) := by rw [← hG2, hup_ne (by decide)]; exact hup_get
  have B106 : G2.2.2 106 = some (iA 5 (upd (upd f8 0 r1) 1 r2)) := by rw [← hG2]; exact hup_get
  have Bf : ∀ x, x ≠ 88 → x ≠ 106 → G2.2.2 x = h.2.2 x := fun x y z => by rw [← hG2, hup_ne z, hup_ne y]; exact Af x y z
  obtain ⟨s1, s2, s3, s4, s5, r3, N3, K3⟩ := c_mn0 (lo := 0) (hi := 20) hn hT l3 hb3 o2 (by decide) (by decide) ((Bf 98 (by decide) (by decide)).trans h98) B88 (fun z => (K2 z).1)
  generalize hF3 : oo F2 (nf T n (p3 T n a) 0 20) = F3 at N3 K3 o3
  generalize hG3 : hup (hup G2 88 (oMk (bS S (Q 12 0) (Q 12 1) (Q 12 2) sg 0) s1 s2 s3 s4 s5 (nI F3.1) (fI F3.2))) 106 (iA 5 (upd (upd (upd f8 0 r1) 1 r2) 2 r3)) = G3
  have C88 : G3.2.2 88 = some (oMk (bS S (Q 12 0) (Q 12 1) (Q 12 2) sg 0) s1 s2 s3 s4 s5 (nI F3.1) (fI F3.2)) := by rw [← hG3, hup_ne (by decide)]; exact hup_get
  have C106 : G3.2.2 106 = some (iA 5 (upd (upd (upd f8 0 r1) 1 r2) 2 r3)) := by rw [← hG3]; exact hup_get
  have Cf : ∀ x, x ≠ 88 → x ≠ 106 → G3.2.2 x = h.2.2 x := fun x y z => by rw [← hG3, hup_ne z, hup_ne y]; exact Bf x y z
  generalize hG4 : hup G3 88 (oMk (bS S (Q 12 0) (Q 12 1) (Q 12 2) sg 1) s1 s2 s3 s4 s5 (nI F3.1) (fI F3.2)) = G4
  have D88 : G4.2.2 88 = some (oMk (bS S (Q 12 0) (Q 12 1) (Q 12 2) sg 1) s1 s2 s3 s4 s5 (nI F3.1) (fI F3.2)) := by rw [← hG4]; exact hup_get
  have D106 : G4.2.2 106 = some (iA 5 (upd (upd (upd f8 0 r1) 1 r2) 2 r3)) := by rw [← hG4, hup_ne (by decide)]; exact C106
  have Ef : ∀ x, x ≠ 88 → x ≠ 106 → G4.2.2 x = h.2.2 x := fun x y z => by rw [← hG4, hup_ne y]; exact Cf x y z
  obtain ⟨z1, z2, z3, z4, z5, N4, K4⟩ := c_mstops (b := bS S (Q 12 0) (Q 12 1) (Q 12 2) sg 1) hn hT l4 (by rw [← hSn]; rfl) o3 ((Ef 98 (by decide) (by decide)).trans h98) D88 (fun z => (K3 z).1)
  have eF : oo F3 (cf T n (p4 T n a)) = F3c T n a := by rw [← hF3, ← hF2]; rfl
  rw [eF] at N4 K4
  have Df : ∀ X x, x ≠ 88 → x ≠ 106 → (hup G4 88 X).2.2 x = h.2.2 x := fun X x y z => by rw [hup_ne y]; exact Ef x y z
  refine ⟨_, ?_, ⟨z1, z2, z3, z4, z5, Q 12 0, Q 12 1, Q 12 2, sg, 1, hup_get, fun z => ⟨?_, rfl, rfl, rfl, rfl, rfl⟩⟩, ?_, fun z => ?_, fun x u1 u2 => Df _ x u1 (by omega), by rw [hup_1, ← hG4, ← hG3, ← hG2, ← hG1, ← hH0]; rfl, by rw [hup_2, ← hG4, ← hG3, ← hG2, ← hG1, ← hH0]; rfl⟩
  · have N1' : ∀ X, (hup H0 88 X).2.2 106 = some (iA 5 f8) := fun X => (hup_ne (by decide)).trans ((Zf 106 (by decide)).trans q8)
    have N2' : ∀ X, (hup G1 88 X).2.2 106 = _ := fun X => (hup_ne (by decide)).trans A106
    have N3' : ∀ X, (hup G2 88 X).2.2 106 = _ := fun X => (hup_ne (by decide)).trans B106
    have e88 : pF G3 88 9 33 (.int (nI 1)) = some G4 := by rw [p9_33 C88, ← hG4]; rfl
    show Run M_X9_readCosts 0 [.ref 88] [] h = _
    simp only [r_X9_readCosts_0, r_X9_readCosts_1, r_X9_readCosts_2, r_X9_readCosts_5, r_X9_readCosts_6, r_X9_readCosts_9, r_X9_readCosts_12, r_X9_readCosts_13, r_X9_readCosts_14, r_X9_readCosts_17, r_X9_readCosts_18, r_X9_readCosts_19, r_X9_readCosts_20, r_X9_readCosts_22, r_X9_readCosts_23, ↓reduceIte, Option.isSome_some, Option.getD_some, rL_v, rL_n, cH_s, List.cons_append, List.nil_append, cat_i, cat_r, cat_n, ofN, g9_0 hm, g9_1 hm, g9_2 hm, g9_3 hm, g9_4 hm, g9_5 hm, g9_6 hm, g9_7 hm, g9_8 hm, g9_9 hm, g9_10 hm, g9_11 hm, g9_12 hm, g9_13 hm, g9_14 hm, g9_15 hm, g9_16 hm, g9_17 hm, g9_18 hm, g9_19 hm, g9_20 hm, g9_21 hm, g9_22 hm, g9_23 hm, g9_24 hm, g9_25 hm, g9_26 hm, g9_27 hm, g9_28 hm, g9_29 hm, g9_30 hm, g9_31 hm, g9_32 hm, g9_33 hm, g9_34 hm, g9_35 hm, g9_36 hm, g9_37 hm, g9_38 hm, g9_39 hm, ro9 hm, bS_8, n1, ne10, g9_0 Z88, g9_1 Z88, g9_2 Z88, g9_3 Z88, g9_4 Z88, g9_5 Z88, g9_6 Z88, g9_7 Z88, g9_8 Z88, g9_9 Z88, g9_10 Z88, g9_11 Z88, g9_12 Z88, g9_13 Z88, g9_14 Z88, g9_15 Z88, g9_16 Z88, g9_17 Z88, g9_18 Z88, g9_19 Z88, g9_20 Z88, g9_21 Z88, g9_22 Z88, g9_23 Z88, g9_24 Z88, g9_25 Z88, g9_26 Z88, g9_27 Z88, g9_28 Z88, g9_29 Z88, g9_30 Z88, g9_31 Z88, g9_32 Z88, g9_33 Z88, g9_34 Z88, g9_35 Z88, g9_36 Z88, g9_37 Z88, g9_38 Z88, g9_39 Z88, ro9 Z88, N1]
    simp only [r_X9_readCosts_26, r_X9_readCosts_27, r_X9_readCosts_28, r_X9_readCosts_31, r_X9_readCosts_32, r_X9_readCosts_33, r_X9_readCosts_34, r_X9_readCosts_36, r_X9_readCosts_37, ↓reduceIte, Option.isSome_some, Option.getD_some, rL_v, rL_n, cH_s, List.cons_append, List.nil_append, cat_i, cat_r, cat_n, ofN, pI_nI (N1' _) (by decide) (show 106 ≠ 0 by decide) (show 0 < 5 by decide), hG1, g9_0 A88, g9_1 A88, g9_2 A88, g9_3 A88, g9_4 A88, g9_5 A88, g9_6 A88, g9_7 A88, g9_8 A88, g9_9 A88, g9_10 A88, g9_11 A88, g9_12 A88, g9_13 A88, g9_14 A88, g9_15 A88, g9_16 A88, g9_17 A88, g9_18 A88, g9_19 A88, g9_20 A88, g9_21 A88, g9_22 A88, g9_23 A88, g9_24 A88, g9_25 A88, g9_26 A88, g9_27 A88, g9_28 A88, g9_29 A88, g9_30 A88, g9_31 A88, g9_32 A88, g9_33 A88, g9_34 A88, g9_35 A88, g9_36 A88, g9_37 A88, g9_38 A88, g9_39 A88, ro9 A88, N2]
    simp only [r_X9_readCosts_40, r_X9_readCosts_41, r_X9_readCosts_42, r_X9_readCosts_45, r_X9_readCosts_46, r_X9_readCosts_47, r_X9_readCosts_48, r_X9_readCosts_50, r_X9_readCosts_51, ↓reduceIte, Option.isSome_some, Option.getD_some, rL_v, rL_n, cH_s, List.cons_append, List.nil_append, cat_i, cat_r, cat_n, ofN, pI_nI (N2' _) (by decide) (show 106 ≠ 0 by decide) (show 1 < 5 by decide), hG2, g9_0 B88, g9_1 B88, g9_2 B88, g9_3 B88, g9_4 B88, g9_5 B88, g9_6 B88, g9_7 B88, g9_8 B88, g9_9 B88, g9_10 B88, g9_11 B88, g9_12 B88, g9_13 B88, g9_14 B88, g9_15 B88, g9_16 B88, g9_17 B88, g9_18 B88, g9_19 B88, g9_20 B88, g9_21 B88, g9_22 B88, g9_23 B88, g9_24 B88, g9_25 B88, g9_26 B88, g9_27 B88, g9_28 B88, g9_29 B88, g9_30 B88, g9_31 B88, g9_32 B88, g9_33 B88, g9_34 B88, g9_35 B88, g9_36 B88, g9_37 B88, g9_38 B88, g9_39 B88, ro9 B88, N3]
    simp only [r_X9_readCosts_54, r_X9_readCosts_55, r_X9_readCosts_56, r_X9_readCosts_57_0, r_X9_readCosts_57_1, r_X9_readCosts_60, r_X9_readCosts_61, r_X9_readCosts_64, ↓reduceIte, Option.isSome_some, Option.getD_some, rL_v, rL_n, cH_s, List.cons_append, List.nil_append, cat_i, cat_r, cat_n, ofN, pI_nI (N3' _) (by decide) (show 106 ≠ 0 by decide) (show 2 < 5 by decide), hG3, e88, ro9 D88, N4]
  · have y := K4 z
    have c := cf_0 (oo_0 (F := F3) (o := cf T n (p4 T n a)) (by rw [eF]; exact z)).2
    unfold e3c clA'
    rw [if_pos c]
    exact y
  · exact ⟨fun x u1 u2 => by rw [Df _ x (by omega) (by omega)]; exact hX.1 x u1 u2, by rw [Df _ _ (by decide) (by decide)]; exact hX.2.1, by rw [Df _ _ (by decide) (by decide)]; exact hX.2.2.1, by rw [Df _ _ (by decide) (by decide)]; exact hX.2.2.2.1, ⟨_, (hup_ne (by decide)).trans D106⟩⟩
  · have z' : (oo F3 (cf T n (p4 T n a))).1 = 0 := by rw [eF]; exact z
    have u3 := (oo_0 z').1
    have u3' : (oo F2 (nf T n (p3 T n a) 0 20)).1 = 0 := by rw [hF3]; exact u3
    have u2 := (oo_0 u3').1
    have u2' : (oo (nf T n (a + 1) 0 20) (nf T n (p2 T n a) 0 20)).1 = 0 := by rw [hF2]; exact u2
    have u1 := (oo_0 u2').1
    have e1 := (K1 u1).2
    have e2 := (K2 u2).2
    have e3 := (K3 u3).2
    refine ⟨by rw [Df _ _ (by decide) (by decide)]; exact q1, by rw [Df _ _ (by decide) (by decide)]; exact q2, by rw [Df _ _ (by decide) (by decide)]; exact q3, by rw [Df _ _ (by decide) (by decide)]; exact q4, by rw [Df _ _ (by decide) (by decide)]; exact q5, ⟨f6, (Df _ _ (by decide) (by decide)).trans q6, fun p hp => ?_⟩, by rw [Df _ _ (by decide) (by decide)]; exact q7, ⟨_, (hup_ne (by decide)).trans D106, fun x hx => ?_⟩⟩
    · show f6 (2 * p) = nI (va_up (va_up (va_up (Q 0) 0 (vl T n (a + 1))) 1 (vl T n (p2 T n a))) 2 (vl T n (p3 T n a)) (5 + 2 * p)) ∧ f6 (2 * p + 1) = nI (va_up (va_up (va_up (Q 0) 0 (vl T n (a + 1))) 1 (vl T n (p2 T n a))) 2 (vl T n (p3 T n a)) (5 + 2 * p + 1))
      rw [va_up_ne _ _ (by omega), va_up_ne _ _ (by omega), va_up_ne _ _ (by omega), va_up_ne _ _ (by omega), va_up_ne _ _ (by omega), va_up_ne _ _ (by omega)]
      exact q6' p hp
    · show upd (upd (upd f8 0 r1) 1 r2) 2 r3 x = nI (va_up (va_up (va_up (Q 0) 0 (vl T n (a + 1))) 1 (vl T n (p2 T n a))) 2 (vl T n (p3 T n a)) x)
      by_cases v2 : x = 2
      · subst v2; rw [pk_us, va_up_self]; exact e3
      · rw [pk_un v2, va_up_ne _ _ v2]
        by_cases v1 : x = 1
        · subst v1; rw [pk_us, va_up_self]; exact e2
        · rw [pk_un v1, va_up_ne _ _ v1]
          by_cases v0 : x = 0
          · subst v0; rw [pk_us, va_up_self]; exact e1
          · rw [pk_un v0, va_up_ne _ _ v0]; exact q8' x hx
set_option maxHeartbeats 2000000 in
theorem m_readPlayer {h : AH} {T : Nat → Nat} {n a sg co : Nat} {S Q : SS} {at' pl tk v f : Int32} (hn : n ≤ 250) (hT : ∀ i, i < n → T i < 256) (ha : a < n) (hTa : T a = 108) (hSn : S 12 3 = n) (hc5 : Q 12 1 ≤ 5) (hQ1 : Q 12 1 ≤ 5) (h98 : h.2.2 98 = some (iA 250 (fun i => nI (T i)))) (hm : h.2.2 88 = some (oMk (bS S (Q 12 0) (Q 12 1) (Q 12 2) sg co) at' pl tk v f (nI 0) (fI 0))) (k : MTk T n a at' pl tk v f) (hS : SaR h Q) :
    ∃ h', Call M_X9_readPlayer h [.ref 88] = some (h', none) ∧ ClM h h' T n S (if 5 ≤ Q 12 1 then (3, a + 1) else F2c T n a 30 30) (e2c T n a) (Qpl T n a Q) sg co := by
  have sa : sk T n a = a := sk_here (by omega)
  have hC : isC T n a 108 := ⟨by rw [sa]; exact ha, by rw [sa]; exact hTa⟩
  have hX := hS.x
  obtain ⟨q1, q2, q3, q4, q5, q6, q7, q8⟩ := id hS
  have e5 : (nI (Q 12 1) = nI 5) = (Q 12 1 = 5) := nI_inj (by omega) (by decide)
  have BG := fun (fu : Nat) (hfu : fu ≤ 1) => c_begins (b := bS S (Q 12 0) (Q 12 1) (Q 12 2) sg co) (c := 108) (fu := fu) (be := 0) hn hT (by omega) (by rw [← hSn]; rfl) (by decide) hC hfu (by decide) h98 hm k
  rw [sa] at BG
  by_cases y : 5 ≤ Q 12 1
  · rw [if_pos y]
    obtain ⟨at2, pl2, tk2, v2, f2', n1, n2⟩ := BG 1 (by decide)
    rw [show Fbe 1 0 (a + 1) = (3, a + 1) from rfl, bI_f (show ¬ (3 : Nat) = 0 by decide)] at n1
    refine ⟨_, ?_, ClM.fail (F := (3, a + 1)) (np := Q 12 0) (npl := Q 12 1) (ntl := Q 12 2) (sg' := sg) (co' := co) (at' := at2) (pl := pl2) (tk := tk2) (v := v2) (f := f2') (show (3 : Nat) ≠ 0 by decide) hX⟩
    have y5 : Q 12 1 = 5 := by omega
    show Run M_X9_readPlayer 0 [.ref 88] [] h = _
    simp only [r_X9_readPlayer_0, r_X9_readPlayer_1, r_X9_readPlayer_2, r_X9_readPlayer_5, ↓reduceIte, Option.isSome_some, Option.getD_some, rL_v, rL_n, cH_s, List.cons_append, List.nil_append, cat_i, cat_r, cat_n, ofN, g9_0 hm, g9_1 hm, g9_2 hm, g9_3 hm, g9_4 hm, g9_5 hm, g9_6 hm, g9_7 hm, g9_8 hm, g9_9 hm, g9_10 hm, g9_11 hm, g9_12 hm, g9_13 hm, g9_14 hm, g9_15 hm, g9_16 hm, g9_17 hm, g9_18 hm, g9_19 hm, g9_20 hm, g9_21 hm, g9_22 hm, g9_23 hm, g9_24 hm, g9_25 hm, g9_26 hm, g9_27 hm, g9_28 hm, g9_29 hm, g9_30 hm, g9_31 hm, g9_32 hm, g9_33 hm, g9_34 hm, g9_35 hm, g9_36 hm, g9_37 hm, g9_38 hm, g9_39 hm, ro9 hm, bS_5]
    rw [r_X9_readPlayer_6, if_pos (by rw [e5]; exact y5)]
    simp only [r_X9_readPlayer_9, r_X9_readPlayer_10, r_X9_readPlayer_14, r_X9_readPlayer_15, r_X9_readPlayer_18, r_X9_readPlayer_21, ↓reduceIte, Option.isSome_some, Option.getD_some, rL_v, rL_n, cH_s, List.cons_append, List.nil_append, cat_i, cat_r, cat_n, ofN, ro9 hm, n1]
  rw [if_neg y]
  have y5 : ¬ Q 12 1 = 5 := by omega
  obtain ⟨at2, pl2, tk2, v2, f2', n1, n2⟩ := BG 0 (by decide)
  rw [show Fbe 0 0 (a + 1) = (0, 0) from rfl, bI_t rfl] at n1
  have k1 : MTk T n (a + 1) at2 pl2 tk2 v2 f2' := n2 rfl
  obtain ⟨f6, q6, q6'⟩ := q6
  obtain ⟨l2, l3, l4, l5, l6, l7⟩ := p_le (T := T) ha
  have o1 := FOk_nf (T := T) (n := n) (a := a + 1) (lo := 0) (hi := 30) (by omega)
  have o2 := o1.oo (FOk_nf (T := T) (lo := 0) (hi := 30) l2)
  have hb3 : bS S (Q 12 0) (Q 12 1) (Q 12 2) sg co 3 = nI n := by rw [← hSn]; rfl
  generalize hH0 : hup h 88 (oMk (bS S (Q 12 0) (Q 12 1) (Q 12 2) sg co) at2 pl2 tk2 v2 f2' (nI 0) (fI 0)) = H0 at n1
  have Z88 : H0.2.2 88 = some (oMk (bS S (Q 12 0) (Q 12 1) (Q 12 2) sg co) at2 pl2 tk2 v2 f2' (nI 0) (fI 0)) := by rw [← hH0]; exact hup_get
  have Zf : ∀ x, x ≠ 88 → H0.2.2 x = h.2.2 x := fun x hx => by rw [← hH0]; exact hup_ne hx
  obtain ⟨w1, w2, w3, w4, w5, r1, N1, K1⟩ := c_mn0 (F := (0, 0)) (lo := 0) (hi := 30) hn hT (show a + 1 ≤ n by omega) hb3 FOk.z (by decide) (by decide) ((Zf 98 (by decide)).trans h98) Z88 (fun _ => k1)
  rw [oo_w rfl] at N1 K1
  generalize hG1 : hup (hup H0 88 (oMk (bS S (Q 12 0) (Q 12 1) (Q 12 2) sg co) w1 w2 w3 w4 w5 (nI (nf T n (a + 1) 0 30).1) (fI (nf T n (a + 1) 0 30).2))) 104 (iA 10 (upd f6 (2 * Q 12 1) r1)) = G1
  have A88 : G1.2.2 88 = some (oMk (bS S (Q 12 0) (Q 12 1) (Q 12 2) sg co) w1 w2 w3 w4 w5 (nI (nf T n (a + 1) 0 30).1) (fI (nf T n (a + 1) 0 30).2)) := by rw [← hG1, hup_ne (by decide)]; exact hup_get
  have A106 : G1.2.2 104 = some (iA 10 (upd f6 (2 * Q 12 1) r1)) := by rw [← hG1]; exact hup_get
  have Af : ∀ x, x ≠ 88 → x ≠ 104 → G1.2.2 x = h.2.2 x := fun x y z => by rw [← hG1, hup_ne z, hup_ne y]; exact Zf x y
  obtain ⟨x1, x2, x3, x4, x5, r2, N2, K2⟩ := c_mn0 (lo := 0) (hi := 30) hn hT l2 hb3 o1 (by decide) (by decide) ((Af 98 (by decide) (by decide)).trans h98) A88 (fun z => (K1 z).1)
  generalize hF2 : oo (nf T n (a + 1) 0 30) (nf T n (p2 T n a) 0 30) = F2 at N2 K2 o2
  generalize hG2 : hup (hup G1 88 (oMk (bS S (Q 12 0) (Q 12 1) (Q 12 2) sg co) x1 x2 x3 x4 x5 (nI F2.1) (fI F2.2))) 104 (iA 10 (upd (upd f6 (2 * Q 12 1) r1) (2 * Q 12 1 + 1) r2)) = G2
  have B88 : G2.2.2 88 = some (oMk (bS S (Q 12 0) (Q 12 1) (Q 12 2) sg co) x1 x2 x3 x4 x5 (nI F2.1) (fI F2.2)) := by rw [← hG2, hup_ne (by decide)]; exact hup_get
  have B106 : G2.2.2 104 = some (iA 10 (upd (upd f6 (2 * Q 12 1) r1) (2 * Q 12 1 + 1) r2)) := by rw [← hG2]; exact hup_get
  have Bf : ∀ x, x ≠ 88 → x ≠ 104 → G2.2.2 x = h.2.2 x := fun x y z => by rw [← hG2, hup_ne z, hup_ne y]; exact Af x y z
  generalize hG3 : hup G2 88 (oMk (bS S (Q 12 0) (Q 12 1 + 1) (Q 12 2) sg co) x1 x2 x3 x4 x5 (nI F2.1) (fI F2.2)) = G3
  have C88 : G3.2.2 88 = some (oMk (bS S (Q 12 0) (Q 12 1 + 1) (Q 12 2) sg co) x1 x2 x3 x4 x5 (nI F2.1) (fI F2.2)) := by rw [← hG3]; exact hup_get
  have C106 : G3.2.2 104 = some (iA 10 (upd (upd f6 (2 * Q 12 1) r1) (2 * Q 12 1 + 1) r2)) := by rw [← hG3, hup_ne (by decide)]; exact B106
  have Cf : ∀ x, x ≠ 88 → x ≠ 104 → G3.2.2 x = h.2.2 x := fun x y z => by rw [← hG3, hup_ne y]; exact Bf x y z
  obtain ⟨z1, z2, z3, z4, z5, N3, K3⟩ := c_mstops (b := bS S (Q 12 0) (Q 12 1 + 1) (Q 12 2) sg co) hn hT l3 (by rw [← hSn]; rfl) o2 ((Cf 98 (by decide) (by decide)).trans h98) C88 (fun z => (K2 z).1)
  have eF : oo F2 (cf T n (p3 T n a)) = F2c T n a 30 30 := by rw [← hF2]; rfl
  rw [eF] at N3 K3
  have Df : ∀ X x, x ≠ 88 → x ≠ 104 → (hup G3 88 X).2.2 x = h.2.2 x := fun X x y z => by rw [hup_ne y]; exact Cf x y z
  refine ⟨_, ?_, ⟨z1, z2, z3, z4, z5, Q 12 0, Q 12 1 + 1, Q 12 2, sg, co, hup_get, fun z => ⟨?_, rfl, rfl, rfl, rfl, rfl⟩⟩, ?_, fun z => ?_, fun x u1 u2 => Df _ x u1 (by omega), by rw [hup_1, ← hG3, ← hG2, ← hG1, ← hH0]; rfl, by rw [hup_2, ← hG3, ← hG2, ← hG1, ← hH0]; rfl⟩
  · have N1' : ∀ X, (hup H0 88 X).2.2 104 = some (iA 10 f6) := fun X => (hup_ne (by decide)).trans ((Zf 104 (by decide)).trans q6)
    have N2' : ∀ X, (hup G1 88 X).2.2 104 = _ := fun X => (hup_ne (by decide)).trans A106
    have e88 : pF G2 88 9 27 (.int (nI (Q 12 1 + 1))) = some G3 := by rw [p9_27 B88, ← hG3]; rfl
    show Run M_X9_readPlayer 0 [.ref 88] [] h = _
    simp only [r_X9_readPlayer_0, r_X9_readPlayer_1, r_X9_readPlayer_2, r_X9_readPlayer_5, ↓reduceIte, Option.isSome_some, Option.getD_some, rL_v, rL_n, cH_s, List.cons_append, List.nil_append, cat_i, cat_r, cat_n, ofN, g9_0 hm, g9_1 hm, g9_2 hm, g9_3 hm, g9_4 hm, g9_5 hm, g9_6 hm, g9_7 hm, g9_8 hm, g9_9 hm, g9_10 hm, g9_11 hm, g9_12 hm, g9_13 hm, g9_14 hm, g9_15 hm, g9_16 hm, g9_17 hm, g9_18 hm, g9_19 hm, g9_20 hm, g9_21 hm, g9_22 hm, g9_23 hm, g9_24 hm, g9_25 hm, g9_26 hm, g9_27 hm, g9_28 hm, g9_29 hm, g9_30 hm, g9_31 hm, g9_32 hm, g9_33 hm, g9_34 hm, g9_35 hm, g9_36 hm, g9_37 hm, g9_38 hm, g9_39 hm, ro9 hm, bS_5]
    rw [r_X9_readPlayer_6, if_neg (by rw [e5]; exact y5)]
    simp only [r_X9_readPlayer_13, r_X9_readPlayer_14, r_X9_readPlayer_15, r_X9_readPlayer_18, r_X9_readPlayer_21, r_X9_readPlayer_22, r_X9_readPlayer_23, r_X9_readPlayer_26, r_X9_readPlayer_27, r_X9_readPlayer_28, r_X9_readPlayer_31, r_X9_readPlayer_32, r_X9_readPlayer_33, r_X9_readPlayer_34, r_X9_readPlayer_36, r_X9_readPlayer_37, ↓reduceIte, Option.isSome_some, Option.getD_some, rL_v, rL_n, cH_s, List.cons_append, List.nil_append, cat_i, cat_r, cat_n, ofN, ro9 hm, n1, ne10, g9_0 Z88, g9_1 Z88, g9_2 Z88, g9_3 Z88, g9_4 Z88, g9_5 Z88, g9_6 Z88, g9_7 Z88, g9_8 Z88, g9_9 Z88, g9_10 Z88, g9_11 Z88, g9_12 Z88, g9_13 Z88, g9_14 Z88, g9_15 Z88, g9_16 Z88, g9_17 Z88, g9_18 Z88, g9_19 Z88, g9_20 Z88, g9_21 Z88, g9_22 Z88, g9_23 Z88, g9_24 Z88, g9_25 Z88, g9_26 Z88, g9_27 Z88, g9_28 Z88, g9_29 Z88, g9_30 Z88, g9_31 Z88, g9_32 Z88, g9_33 Z88, g9_34 Z88, g9_35 Z88, g9_36 Z88, g9_37 Z88, g9_38 Z88, g9_39 Z88, ro9 Z88, bS_5, nI_m, N1]
    simp only [r_X9_readPlayer_40, r_X9_readPlayer_41, r_X9_readPlayer_42, r_X9_readPlayer_45, r_X9_readPlayer_46, r_X9_readPlayer_47, r_X9_readPlayer_50, r_X9_readPlayer_51, r_X9_readPlayer_52, r_X9_readPlayer_53, r_X9_readPlayer_54, r_X9_readPlayer_55, r_X9_readPlayer_57, r_X9_readPlayer_58, ↓reduceIte, Option.isSome_some, Option.getD_some, rL_v, rL_n, cH_s, List.cons_append, List.nil_append, cat_i, cat_r, cat_n, ofN, pI_nI (N1' _) (by decide) (show 104 ≠ 0 by decide) (show 2 * Q 12 1 < 10 by omega), hG1, g9_0 A88, g9_1 A88, g9_2 A88, g9_3 A88, g9_4 A88, g9_5 A88, g9_6 A88, g9_7 A88, g9_8 A88, g9_9 A88, g9_10 A88, g9_11 A88, g9_12 A88, g9_13 A88, g9_14 A88, g9_15 A88, g9_16 A88, g9_17 A88, g9_18 A88, g9_19 A88, g9_20 A88, g9_21 A88, g9_22 A88, g9_23 A88, g9_24 A88, g9_25 A88, g9_26 A88, g9_27 A88, g9_28 A88, g9_29 A88, g9_30 A88, g9_31 A88, g9_32 A88, g9_33 A88, g9_34 A88, g9_35 A88, g9_36 A88, g9_37 A88, g9_38 A88, g9_39 A88, ro9 A88, bS_5, nI_m, nI_add, N2]
    simp only [r_X9_readPlayer_61, r_X9_readPlayer_62, r_X9_readPlayer_63, r_X9_readPlayer_64, r_X9_readPlayer_67, r_X9_readPlayer_68, r_X9_readPlayer_69, r_X9_readPlayer_72, r_X9_readPlayer_73, r_X9_readPlayer_76, ↓reduceIte, Option.isSome_some, Option.getD_some, rL_v, rL_n, cH_s, List.cons_append, List.nil_append, cat_i, cat_r, cat_n, ofN, pI_nI (N2' _) (by decide) (show 104 ≠ 0 by decide) (show 2 * Q 12 1 + 1 < 10 by omega), hG2, g9_0 B88, g9_1 B88, g9_2 B88, g9_3 B88, g9_4 B88, g9_5 B88, g9_6 B88, g9_7 B88, g9_8 B88, g9_9 B88, g9_10 B88, g9_11 B88, g9_12 B88, g9_13 B88, g9_14 B88, g9_15 B88, g9_16 B88, g9_17 B88, g9_18 B88, g9_19 B88, g9_20 B88, g9_21 B88, g9_22 B88, g9_23 B88, g9_24 B88, g9_25 B88, g9_26 B88, g9_27 B88, g9_28 B88, g9_29 B88, g9_30 B88, g9_31 B88, g9_32 B88, g9_33 B88, g9_34 B88, g9_35 B88, g9_36 B88, g9_37 B88, g9_38 B88, g9_39 B88, ro9 B88, bS_5, nI_add, e88, ro9 C88, N3]
  · have y := K3 z
    have c := cf_0 (oo_0 (F := F2) (o := cf T n (p3 T n a)) (by rw [eF]; exact z)).2
    unfold e2c clA'
    rw [if_pos c]
    exact y
  · exact ⟨fun x u1 u2 => by rw [Df _ x (by omega) (by omega)]; exact hX.1 x u1 u2, by rw [Df _ _ (by decide) (by decide)]; exact hX.2.1, ⟨_, (hup_ne (by decide)).trans C106⟩, by rw [Df _ _ (by decide) (by decide)]; exact hX.2.2.2.1, by rw [Df _ _ (by decide) (by decide)]; exact hX.2.2.2.2⟩
  · have z' : (oo F2 (cf T n (p3 T n a))).1 = 0 := by rw [eF]; exact z
    have u2 := (oo_0 z').1
    have u2' : (oo (nf T n (a + 1) 0 30) (nf T n (p2 T n a) 0 30)).1 = 0 := by rw [hF2]; exact u2
    have u1 := (oo_0 u2').1
    have e1 := (K1 u1).2
    have e2 := (K2 u2).2
    have hg : ∀ x, va_up (va_up (Q 0) (5 + 2 * Q 12 1) (vl T n (a + 1))) (5 + 2 * Q 12 1 + 1) (vl T n (p2 T n a)) x = if x = 5 + 2 * Q 12 1 + 1 then vl T n (p2 T n a) else if x = 5 + 2 * Q 12 1 then vl T n (a + 1) else Q 0 x := fun x => rfl
    refine ⟨by rw [Df _ _ (by decide) (by decide)]; exact q1, by rw [Df _ _ (by decide) (by decide)]; exact q2, by rw [Df _ _ (by decide) (by decide)]; exact q3, by rw [Df _ _ (by decide) (by decide)]; exact q4, by rw [Df _ _ (by decide) (by decide)]; exact q5, ⟨_, (hup_ne (by decide)).trans C106, fun p hp => ?_⟩, by rw [Df _ _ (by decide) (by decide)]; exact q7, ?_⟩
    · have hp' : p < Q 12 1 + 1 := hp
      show upd (upd f6 (2 * Q 12 1) r1) (2 * Q 12 1 + 1) r2 (2 * p) = nI (va_up (va_up (Q 0) (5 + 2 * Q 12 1) (vl T n (a + 1))) (5 + 2 * Q 12 1 + 1) (vl T n (p2 T n a)) (5 + 2 * p)) ∧ upd (upd f6 (2 * Q 12 1) r1) (2 * Q 12 1 + 1) r2 (2 * p + 1) = nI (va_up (va_up (Q 0) (5 + 2 * Q 12 1) (vl T n (a + 1))) (5 + 2 * Q 12 1 + 1) (vl T n (p2 T n a)) (5 + 2 * p + 1))
      rw [hg, hg]
      by_cases e : p = Q 12 1
      · subst e
        rw [pk_un (by omega), pk_us, pk_us, if_neg (by omega), if_pos rfl, if_pos rfl]
        exact ⟨e1, e2⟩
      · rw [pk_un (by omega), pk_un (by omega), pk_un (by omega), pk_un (by omega), if_neg (by omega), if_neg (by omega), if_neg (by omega), if_neg (by omega)]
        exact q6' p (by omega)
    · obtain ⟨f8, q8, q8'⟩ := q8
      refine ⟨f8, (Df _ _ (by decide) (by decide)).trans q8, fun x hx => ?_⟩
      show f8 x = nI (va_up (va_up (Q 0) (5 + 2 * Q 12 1) (vl T n (a + 1))) (5 + 2 * Q 12 1 + 1) (vl T n (p2 T n a)) x)
      rw [hg, if_neg (by omega), if_neg (by omega)]
      exact q8' x hx
set_option maxHeartbeats 2000000 in
theorem m_readTool {h : AH} {T : Nat → Nat} {n a sg co : Nat} {S Q : SS} {at' pl tk v f : Int32} (hn : n ≤ 250) (hT : ∀ i, i < n → T i < 256) (ha : a < n) (hTa : T a = 105) (hSn : S 12 3 = n) (hc5 : Q 12 2 ≤ 5) (hQ1 : Q 12 1 ≤ 5) (h98 : h.2.2 98 = some (iA 250 (fun i => nI (T i)))) (hm : h.2.2 88 = some (oMk (bS S (Q 12 0) (Q 12 1) (Q 12 2) sg co) at' pl tk v f (nI 0) (fI 0))) (k : MTk T n a at' pl tk v f) (hS : SaR h Q) :
    ∃ h', Call M_X9_readTool h [.ref 88] = some (h', none) ∧ ClM h h' T n S (if 5 ≤ Q 12 2 then (3, a + 1) else F2c T n a 11 99) (e2c T n a) (Qin T n a Q) sg co := by
  have sa : sk T n a = a := sk_here (by omega)
  have hC : isC T n a 105 := ⟨by rw [sa]; exact ha, by rw [sa]; exact hTa⟩
  have hX := hS.x
  obtain ⟨q1, q2, q3, q4, q5, q6, q7, q8⟩ := id hS
  have e5 : (nI (Q 12 2) = nI 5) = (Q 12 2 = 5) := nI_inj (by omega) (by decide)
  have BG := fun (fu : Nat) (hfu : fu ≤ 1) => c_begins (b := bS S (Q 12 0) (Q 12 1) (Q 12 2) sg co) (c := 105) (fu := fu) (be := 0) hn hT (by omega) (by rw [← hSn]; rfl) (by decide) hC hfu (by decide) h98 hm k
  rw [sa] at BG
  by_cases y : 5 ≤ Q 12 2
  · rw [if_pos y]
    obtain ⟨at2, pl2, tk2, v2, f2', n1, n2⟩ := BG 1 (by decide)
    rw [show Fbe 1 0 (a + 1) = (3, a + 1) from rfl, bI_f (show ¬ (3 : Nat) = 0 by decide)] at n1
    refine ⟨_, ?_, ClM.fail (F := (3, a + 1)) (np := Q 12 0) (npl := Q 12 1) (ntl := Q 12 2) (sg' := sg) (co' := co) (at' := at2) (pl := pl2) (tk := tk2) (v := v2) (f := f2') (show (3 : Nat) ≠ 0 by decide) hX⟩
    have y5 : Q 12 2 = 5 := by omega
    show Run M_X9_readTool 0 [.ref 88] [] h = _
    simp only [r_X9_readTool_0, r_X9_readTool_1, r_X9_readTool_2, r_X9_readTool_5, ↓reduceIte, Option.isSome_some, Option.getD_some, rL_v, rL_n, cH_s, List.cons_append, List.nil_append, cat_i, cat_r, cat_n, ofN, g9_0 hm, g9_1 hm, g9_2 hm, g9_3 hm, g9_4 hm, g9_5 hm, g9_6 hm, g9_7 hm, g9_8 hm, g9_9 hm, g9_10 hm, g9_11 hm, g9_12 hm, g9_13 hm, g9_14 hm, g9_15 hm, g9_16 hm, g9_17 hm, g9_18 hm, g9_19 hm, g9_20 hm, g9_21 hm, g9_22 hm, g9_23 hm, g9_24 hm, g9_25 hm, g9_26 hm, g9_27 hm, g9_28 hm, g9_29 hm, g9_30 hm, g9_31 hm, g9_32 hm, g9_33 hm, g9_34 hm, g9_35 hm, g9_36 hm, g9_37 hm, g9_38 hm, g9_39 hm, ro9 hm, bS_6]
    rw [r_X9_readTool_6, if_pos (by rw [e5]; exact y5)]
    simp only [r_X9_readTool_9, r_X9_readTool_10, r_X9_readTool_14, r_X9_readTool_15, r_X9_readTool_18, r_X9_readTool_21, ↓reduceIte, Option.isSome_some, Option.getD_some, rL_v, rL_n, cH_s, List.cons_append, List.nil_append, cat_i, cat_r, cat_n, ofN, ro9 hm, n1]
  rw [if_neg y]
  have y5 : ¬ Q 12 2 = 5 := by omega
  obtain ⟨at2, pl2, tk2, v2, f2', n1, n2⟩ := BG 0 (by decide)
  rw [show Fbe 0 0 (a + 1) = (0, 0) from rfl, bI_t rfl] at n1
  have k1 : MTk T n (a + 1) at2 pl2 tk2 v2 f2' := n2 rfl
  obtain ⟨f7, q7, q7'⟩ := q7
  obtain ⟨l2, l3, l4, l5, l6, l7⟩ := p_le (T := T) ha
  have o1 := FOk_nf (T := T) (n := n) (a := a + 1) (lo := 0) (hi := 11) (by omega)
  have o2 := o1.oo (FOk_nf (T := T) (lo := 0) (hi := 99) l2)
  have hb3 : bS S (Q 12 0) (Q 12 1) (Q 12 2) sg co 3 = nI n := by rw [← hSn]; rfl
  generalize hH0 : hup h 88 (oMk (bS S (Q 12 0) (Q 12 1) (Q 12 2) sg co) at2 pl2 tk2 v2 f2' (nI 0) (fI 0)) = H0 at n1
  have Z88 : H0.2.2 88 = some (oMk (bS S (Q 12 0) (Q 12 1) (Q 12 2) sg co) at2 pl2 tk2 v2 f2' (nI 0) (fI 0)) := by rw [← hH0]; exact hup_get
  have Zf : ∀ x, x ≠ 88 → H0.2.2 x = h.2.2 x := fun x hx => by rw [← hH0]; exact hup_ne hx
  obtain ⟨w1, w2, w3, w4, w5, r1, N1, K1⟩ := c_mn0 (F := (0, 0)) (lo := 0) (hi := 11) hn hT (show a + 1 ≤ n by omega) hb3 FOk.z (by decide) (by decide) ((Zf 98 (by decide)).trans h98) Z88 (fun _ => k1)
  rw [oo_w rfl] at N1 K1
  generalize hG1 : hup (hup H0 88 (oMk (bS S (Q 12 0) (Q 12 1) (Q 12 2) sg co) w1 w2 w3 w4 w5 (nI (nf T n (a + 1) 0 11).1) (fI (nf T n (a + 1) 0 11).2))) 105 (iA 10 (upd f7 (2 * Q 12 2) r1)) = G1
  have A88 : G1.2.2 88 = some (oMk (bS S (Q 12 0) (Q 12 1) (Q 12 2) sg co) w1 w2 w3 w4 w5 (nI (nf T n (a + 1) 0 11).1) (fI (nf T n (a + 1) 0 11).2)) := by rw [← hG1, hup_ne (by decide)]; exact hup_get
  have A106 : G1.2.2 105 = some (iA 10 (upd f7 (2 * Q 12 2) r1)) := by rw [← hG1]; exact hup_get
  have Af : ∀ x, x ≠ 88 → x ≠ 105 → G1.2.2 x = h.2.2 x := fun x y z => by rw [← hG1, hup_ne z, hup_ne y]; exact Zf x y
  obtain ⟨x1, x2, x3, x4, x5, r2, N2, K2⟩ := c_mn0 (lo := 0) (hi := 99) hn hT l2 hb3 o1 (by decide) (by decide) ((Af 98 (by decide) (by decide)).trans h98) A88 (fun z => (K1 z).1)
  generalize hF2 : oo (nf T n (a + 1) 0 11) (nf T n (p2 T n a) 0 99) = F2 at N2 K2 o2
  generalize hG2 : hup (hup G1 88 (oMk (bS S (Q 12 0) (Q 12 1) (Q 12 2) sg co) x1 x2 x3 x4 x5 (nI F2.1) (fI F2.2))) 105 (iA 10 (upd (upd f7 (2 * Q 12 2) r1) (2 * Q 12 2 + 1) r2)) = G2
  have B88 : G2.2.2 88 = some (oMk (bS S (Q 12 0) (Q 12 1) (Q 12 2) sg co) x1 x2 x3 x4 x5 (nI F2.1) (fI F2.2)) := by rw [← hG2, hup_ne (by decide)]; exact hup_get
  have B106 : G2.2.2 105 = some (iA 10 (upd (upd f7 (2 * Q 12 2) r1) (2 * Q 12 2 + 1) r2)) := by rw [← hG2]; exact hup_get
  have Bf : ∀ x, x ≠ 88 → x ≠ 105 → G2.2.2 x = h.2.2 x := fun x y z => by rw [← hG2, hup_ne z, hup_ne y]; exact Af x y z
  generalize hG3 : hup G2 88 (oMk (bS S (Q 12 0) (Q 12 1) (Q 12 2 + 1) sg co) x1 x2 x3 x4 x5 (nI F2.1) (fI F2.2)) = G3
  have C88 : G3.2.2 88 = some (oMk (bS S (Q 12 0) (Q 12 1) (Q 12 2 + 1) sg co) x1 x2 x3 x4 x5 (nI F2.1) (fI F2.2)) := by rw [← hG3]; exact hup_get
  have C106 : G3.2.2 105 = some (iA 10 (upd (upd f7 (2 * Q 12 2) r1) (2 * Q 12 2 + 1) r2)) := by rw [← hG3, hup_ne (by decide)]; exact B106
  have Cf : ∀ x, x ≠ 88 → x ≠ 105 → G3.2.2 x = h.2.2 x := fun x y z => by rw [← hG3, hup_ne y]; exact Bf x y z
  obtain ⟨z1, z2, z3, z4, z5, N3, K3⟩ := c_mstops (b := bS S (Q 12 0) (Q 12 1) (Q 12 2 + 1) sg co) hn hT l3 (by rw [← hSn]; rfl) o2 ((Cf 98 (by decide) (by decide)).trans h98) C88 (fun z => (K2 z).1)
  have eF : oo F2 (cf T n (p3 T n a)) = F2c T n a 11 99 := by rw [← hF2]; rfl
  rw [eF] at N3 K3
  have Df : ∀ X x, x ≠ 88 → x ≠ 105 → (hup G3 88 X).2.2 x = h.2.2 x := fun X x y z => by rw [hup_ne y]; exact Cf x y z
  refine ⟨_, ?_, ⟨z1, z2, z3, z4, z5, Q 12 0, Q 12 1, Q 12 2 + 1, sg, co, hup_get, fun z => ⟨?_, rfl, rfl, rfl, rfl, rfl⟩⟩, ?_, fun z => ?_, fun x u1 u2 => Df _ x u1 (by omega), by rw [hup_1, ← hG3, ← hG2, ← hG1, ← hH0]; rfl, by rw [hup_2, ← hG3, ← hG2, ← hG1, ← hH0]; rfl⟩
  · have N1' : ∀ X, (hup H0 88 X).2.2 105 = some (iA 10 f7) := fun X => (hup_ne (by decide)).trans ((Zf 105 (by decide)).trans q7)
    have N2' : ∀ X, (hup G1 88 X).2.2 105 = _ := fun X => (hup_ne (by decide)).trans A106
    have e88 : pF G2 88 9 29 (.int (nI (Q 12 2 + 1))) = some G3 := by rw [p9_29 B88, ← hG3]; rfl
    show Run M_X9_readTool 0 [.ref 88] [] h = _
    simp only [r_X9_readTool_0, r_X9_readTool_1, r_X9_readTool_2, r_X9_readTool_5, ↓reduceIte, Option.isSome_some, Option.getD_some, rL_v, rL_n, cH_s, List.cons_append, List.nil_append, cat_i, cat_r, cat_n, ofN, g9_0 hm, g9_1 hm, g9_2 hm, g9_3 hm, g9_4 hm, g9_5 hm, g9_6 hm, g9_7 hm, g9_8 hm, g9_9 hm, g9_10 hm, g9_11 hm, g9_12 hm, g9_13 hm, g9_14 hm, g9_15 hm, g9_16 hm, g9_17 hm, g9_18 hm, g9_19 hm, g9_20 hm, g9_21 hm, g9_22 hm, g9_23 hm, g9_24 hm, g9_25 hm, g9_26 hm, g9_27 hm, g9_28 hm, g9_29 hm, g9_30 hm, g9_31 hm, g9_32 hm, g9_33 hm, g9_34 hm, g9_35 hm, g9_36 hm, g9_37 hm, g9_38 hm, g9_39 hm, ro9 hm, bS_6]
    rw [r_X9_readTool_6, if_neg (by rw [e5]; exact y5)]
    simp only [r_X9_readTool_13, r_X9_readTool_14, r_X9_readTool_15, r_X9_readTool_18, r_X9_readTool_21, r_X9_readTool_22, r_X9_readTool_23, r_X9_readTool_26, r_X9_readTool_27, r_X9_readTool_28, r_X9_readTool_31, r_X9_readTool_32, r_X9_readTool_33, r_X9_readTool_34, r_X9_readTool_36, r_X9_readTool_37, ↓reduceIte, Option.isSome_some, Option.getD_some, rL_v, rL_n, cH_s, List.cons_append, List.nil_append, cat_i, cat_r, cat_n, ofN, ro9 hm, n1, ne10, g9_0 Z88, g9_1 Z88, g9_2 Z88, g9_3 Z88, g9_4 Z88, g9_5 Z88, g9_6 Z88, g9_7 Z88, g9_8 Z88, g9_9 Z88, g9_10 Z88, g9_11 Z88, g9_12 Z88, g9_13 Z88, g9_14 Z88, g9_15 Z88, g9_16 Z88, g9_17 Z88, g9_18 Z88, g9_19 Z88, g9_20 Z88, g9_21 Z88, g9_22 Z88, g9_23 Z88, g9_24 Z88, g9_25 Z88, g9_26 Z88, g9_27 Z88, g9_28 Z88, g9_29 Z88, g9_30 Z88, g9_31 Z88, g9_32 Z88, g9_33 Z88, g9_34 Z88, g9_35 Z88, g9_36 Z88, g9_37 Z88, g9_38 Z88, g9_39 Z88, ro9 Z88, bS_6, nI_m, N1]
    simp only [r_X9_readTool_40, r_X9_readTool_41, r_X9_readTool_42, r_X9_readTool_45, r_X9_readTool_46, r_X9_readTool_47, r_X9_readTool_50, r_X9_readTool_51, r_X9_readTool_52, r_X9_readTool_53, r_X9_readTool_54, r_X9_readTool_55, r_X9_readTool_57, r_X9_readTool_58, ↓reduceIte, Option.isSome_some, Option.getD_some, rL_v, rL_n, cH_s, List.cons_append, List.nil_append, cat_i, cat_r, cat_n, ofN, pI_nI (N1' _) (by decide) (show 105 ≠ 0 by decide) (show 2 * Q 12 2 < 10 by omega), hG1, g9_0 A88, g9_1 A88, g9_2 A88, g9_3 A88, g9_4 A88, g9_5 A88, g9_6 A88, g9_7 A88, g9_8 A88, g9_9 A88, g9_10 A88, g9_11 A88, g9_12 A88, g9_13 A88, g9_14 A88, g9_15 A88, g9_16 A88, g9_17 A88, g9_18 A88, g9_19 A88, g9_20 A88, g9_21 A88, g9_22 A88, g9_23 A88, g9_24 A88, g9_25 A88, g9_26 A88, g9_27 A88, g9_28 A88, g9_29 A88, g9_30 A88, g9_31 A88, g9_32 A88, g9_33 A88, g9_34 A88, g9_35 A88, g9_36 A88, g9_37 A88, g9_38 A88, g9_39 A88, ro9 A88, bS_6, nI_m, nI_add, N2]
    simp only [r_X9_readTool_61, r_X9_readTool_62, r_X9_readTool_63, r_X9_readTool_64, r_X9_readTool_67, r_X9_readTool_68, r_X9_readTool_69, r_X9_readTool_72, r_X9_readTool_73, r_X9_readTool_76, ↓reduceIte, Option.isSome_some, Option.getD_some, rL_v, rL_n, cH_s, List.cons_append, List.nil_append, cat_i, cat_r, cat_n, ofN, pI_nI (N2' _) (by decide) (show 105 ≠ 0 by decide) (show 2 * Q 12 2 + 1 < 10 by omega), hG2, g9_0 B88, g9_1 B88, g9_2 B88, g9_3 B88, g9_4 B88, g9_5 B88, g9_6 B88, g9_7 B88, g9_8 B88, g9_9 B88, g9_10 B88, g9_11 B88, g9_12 B88, g9_13 B88, g9_14 B88, g9_15 B88, g9_16 B88, g9_17 B88, g9_18 B88, g9_19 B88, g9_20 B88, g9_21 B88, g9_22 B88, g9_23 B88, g9_24 B88, g9_25 B88, g9_26 B88, g9_27 B88, g9_28 B88, g9_29 B88, g9_30 B88, g9_31 B88, g9_32 B88, g9_33 B88, g9_34 B88, g9_35 B88, g9_36 B88, g9_37 B88, g9_38 B88, g9_39 B88, ro9 B88, bS_6, nI_add, e88, ro9 C88, N3]
  · have y := K3 z
    have c := cf_0 (oo_0 (F := F2) (o := cf T n (p3 T n a)) (by rw [eF]; exact z)).2
    unfold e2c clA'
    rw [if_pos c]
    exact y
  · exact ⟨fun x u1 u2 => by rw [Df _ x (by omega) (by omega)]; exact hX.1 x u1 u2, by rw [Df _ _ (by decide) (by decide)]; exact hX.2.1, by rw [Df _ _ (by decide) (by decide)]; exact hX.2.2.1, ⟨_, (hup_ne (by decide)).trans C106⟩, by rw [Df _ _ (by decide) (by decide)]; exact hX.2.2.2.2⟩
  · have z' : (oo F2 (cf T n (p3 T n a))).1 = 0 := by rw [eF]; exact z
    have u2 := (oo_0 z').1
    have u2' : (oo (nf T n (a + 1) 0 11) (nf T n (p2 T n a) 0 99)).1 = 0 := by rw [hF2]; exact u2
    have u1 := (oo_0 u2').1
    have e1 := (K1 u1).2
    have e2 := (K2 u2).2
    have hg : ∀ x, va_up (va_up (Q 8) (2 * Q 12 2) (vl T n (a + 1))) (2 * Q 12 2 + 1) (vl T n (p2 T n a)) x = if x = 2 * Q 12 2 + 1 then vl T n (p2 T n a) else if x = 2 * Q 12 2 then vl T n (a + 1) else Q 8 x := fun x => rfl
    refine ⟨by rw [Df _ _ (by decide) (by decide)]; exact q1, by rw [Df _ _ (by decide) (by decide)]; exact q2, by rw [Df _ _ (by decide) (by decide)]; exact q3, by rw [Df _ _ (by decide) (by decide)]; exact q4, by rw [Df _ _ (by decide) (by decide)]; exact q5, by rw [Df _ _ (by decide) (by decide)]; exact q6, ⟨_, (hup_ne (by decide)).trans C106, fun p hp => ?_⟩, by rw [Df _ _ (by decide) (by decide)]; exact q8⟩
    have hp' : p < Q 12 2 + 1 := hp
    show upd (upd f7 (2 * Q 12 2) r1) (2 * Q 12 2 + 1) r2 (2 * p) = nI (va_up (va_up (Q 8) (2 * Q 12 2) (vl T n (a + 1))) (2 * Q 12 2 + 1) (vl T n (p2 T n a)) (2 * p)) ∧ upd (upd f7 (2 * Q 12 2) r1) (2 * Q 12 2 + 1) r2 (2 * p + 1) = nI (va_up (va_up (Q 8) (2 * Q 12 2) (vl T n (a + 1))) (2 * Q 12 2 + 1) (vl T n (p2 T n a)) (2 * p + 1))
    rw [hg, hg]
    by_cases e : p = Q 12 2
    · subst e
      rw [pk_un (by omega), pk_us, pk_us, if_neg (by omega), if_pos rfl, if_pos rfl]
      exact ⟨e1, e2⟩
    · rw [pk_un (by omega), pk_un (by omega), pk_un (by omega), pk_un (by omega), if_neg (by omega), if_neg (by omega), if_neg (by omega), if_neg (by omega)]
      exact q7' p (by omega)
