/-! ===== hall: the call ===== -/
/-- both, one behind the other, upon one heap -/
def OpW (mc mm : MI) (av : List Value) (S : SS) : Prop := ∀ h, RepC h S → RepM h S → ∃ (r : Value) (S' : SS) (h1 h2 : AH), Inv S' ∧ Call mc h (.ref 1 :: av) = some (h1, some r) ∧ Call mm h1 (.ref 88 :: av) = some (h2, some r) ∧ RepC h1 S' ∧ RepC h2 S' ∧ RepM h2 S' ∧ frC h h1 ∧ frM h1 h2
theorem OpV.w {mc mm : MI} {av : List Value} {S : SS} (v : OpV mc mm av S) : OpW mc mm av S := by
  obtain ⟨r, S', hI, hC, hM⟩ := v
  intro h rc rm
  obtain ⟨h1, c1, c2, c3⟩ := hC h rc
  obtain ⟨h2, m1, m2, m3⟩ := hM h1 (rm.fr (fun x hx => c3.1 x (Or.inr hx)))
  exact ⟨r, S', h1, h2, hI, c1, m1, c2, c2.fr hI.1.1 (fun a ha => m3.1 a ha), m2, c3, m3⟩
abbrev Ro (S : SS) (x : Nat) : (Nat × Nat) × SS := RO (S 9) (S 12 3) (S 12 3) (sk (S 9) (S 12 3) 0) (Q0 x) 0 0
/-- the state behind a fault -/
def Sft (S : SS) (p : Nat) : SS := va_up S 12 (va_up (va_up (S 12) 3 0) 6 p)
/-- the state of an opened hall -/
def Sop (S Q S' : SS) : Prop := (S' 12 0 = Q 12 0 ∧ S' 12 1 = Q 12 1 ∧ S' 12 2 = Q 12 2 ∧ S' 12 3 = 0 ∧ S' 12 4 = 0 ∧ S' 12 5 = 0 ∧ S' 12 6 = 0) ∧ (∀ p, p < Q 12 0 → S' 3 p = Q 3 p ∧ S' 4 p = Q 4 p ∧ S' 5 p = Q 5 p ∧ S' 6 p = Q 6 p ∧ ∀ i, i < Q 6 p → S' 7 (4 * p + i) = Q 7 (4 * p + i)) ∧ (∀ i, i < Q 12 2 → S' 8 (2 * i) = Q 8 (2 * i) ∧ S' 8 (2 * i + 1) = Q 8 (2 * i + 1)) ∧ (∀ k, k < 5 → S' 0 k = Q 0 k) ∧ (∀ p, p < Q 12 1 → S' 0 (5 + 2 * p) = Q 0 (5 + 2 * p) ∧ S' 0 (5 + 2 * p + 1) = Q 0 (5 + 2 * p + 1)) ∧ (S' 0 15 = 0 ∧ S' 0 16 = 0 ∧ S' 0 17 = 0 ∧ S' 0 18 = S 0 18) ∧ S' 9 = S 9 ∧ S' 2 = va_up (va_up (S 2) 0 0) 1 0
theorem LoX.fr2 {h h' : AH} (hf : ∀ x, 18 ≤ x → x ≤ 31 → h'.2.2 x = h.2.2 x) (r : LoX h) : LoX h' := by
  obtain ⟨h1, h2, h3, h4, h5, h6, h7⟩ := r
  refine ⟨?_, ?_, ?_, ?_, ?_, fun q hq => ?_, ?_⟩
  · rw [hf _ (by omega) (by omega)]; exact h1
  · rw [hf _ (by omega) (by omega)]; exact h2
  · rw [hf _ (by omega) (by omega)]; exact h3
  · rw [hf _ (by omega) (by omega)]; exact h4
  · rw [hf _ (by omega) (by omega)]; exact h5
  · rw [hf _ (by omega) (by omega)]; exact h6 q hq
  · rw [hf _ (by omega) (by omega)]; exact h7
theorem AgR.cg2 {h : AH} {a n : Nat} {g g' : Nat → Nat} (hk : ∀ k, k < 5 → g' k = g k) (hl : ∀ p, p < n → g' (5 + 2 * p) = g (5 + 2 * p) ∧ g' (5 + 2 * p + 1) = g (5 + 2 * p + 1)) (h15 : g' 15 = g 15) (h16 : g' 16 = g 16) (h17 : g' 17 = g 17) (h18 : g' 18 = g 18) (r : AgR h a g n) : AgR h a g' n := by
  obtain ⟨h1, ⟨f1, b1, c1⟩, ⟨f2, b2, c2⟩⟩ := r
  refine ⟨?_, ⟨f1, b1, fun p hp => ?_⟩, ⟨f2, b2, fun p hp => ?_⟩⟩
  · rw [hk 0 (by decide), hk 1 (by decide), hk 2 (by decide), hk 3 (by decide), hk 4 (by decide), h15, h16, h17, h18]; exact h1
  · rw [(hl p hp).1]; exact c1 p hp
  · rw [(hl p hp).2]; exact c2 p hp
set_option maxHeartbeats 2000000 in
theorem c_hall {h : AH} {S : SS} {o : Nat} (hI : Inv S) (hr : RepCo h S o) : ∃ x h1, ((Ro S x).1.1 ≠ 0 → Call M_X8_hall h [.ref 1] = some (h1, some (.int (-10 - nI (Ro S x).1.1))) ∧ RepC h1 (Sft S (Ro S x).1.2)) ∧ ((Ro S x).1.1 = 0 → Call M_X8_hall h [.ref 1] = some (h1, some (.int (nI ((Ro S x).2 12 0)))) ∧ ∀ S', Sop S (Ro S x).2 S' → RepC h1 S') ∧ frC h h1 := by
  obtain ⟨hO, hTo, hG, hImO, hEnO, hBkO, t1, t2, t3⟩ := id hI
  obtain ⟨h0, h1, ⟨⟨fl, a0, na, sg, co, h2⟩, h3⟩, hH, hX, hEo, ⟨hLx, hL⟩, hEn, hBk, hIm⟩ := id hr
  have h7 := hO.1
  have CR : ∃ x H1, Call M_X7_readInto h [.ref 2, .ref (101 - o)] = some (H1, some (.int (nI (Ro S x).1.1))) ∧ ReC h H1 (S 12 3) (101 - o) (Ro S x) := c_readInto (T := S 9) (n := S 12 3) (o := 101 - o) t1 t2 (by omega) h3 h2 hX
  obtain ⟨x, H1, c1, re⟩ := CR
  have ok : FOk (S 12 3) (Ro S x).1 ∧ ((Ro S x).1.1 = 0 → QOk (Ro S x).2) := RO_ok (T := S 9) (n := S 12 3) (S 12 3) (sk (S 9) (S 12 3) 0) (Q0 x) 0 0 (sk_le (Nat.zero_le _)) (QOk_Q0 x)
  refine ⟨x, ?_⟩
  generalize Ro S x = R at *
  obtain ⟨⟨na', a', sg', co', r2⟩, rX, rR, rf, z1, z2⟩ := re
  have z : (nI R.1.1 = nI 0) = (R.1.1 = 0) := nI_inj (by have := ok.1.1; omega) (by decide)
  have h1' := (rf 1 (by decide) (by omega)).trans h1
  generalize hG : hup H1 2 (oRd 3 (nI 0) (fI R.1.2) (nI R.1.1) a' na' sg' co') = G
  have G2 : G.2.2 2 = some (oRd 3 (nI 0) (fI R.1.2) (nI R.1.1) a' na' sg' co') := by rw [← hG]; exact hup_get
  have Gf : ∀ y, y ≠ 2 → y < 101 - o ∨ 101 - o + 20 < y → G.2.2 y = h.2.2 y := fun y u1 u2 => by rw [← hG, hup_ne u1]; exact rf y u1 u2
  have G1 := (Gf 1 (by decide) (by omega)).trans h1
  have s1 : G.1 = h.1 := by rw [← hG]; exact z1
  have s2 : G.2.1 = h.2.1 := by rw [← hG]; exact z2
  have T1 : Call M_X8_hall h [.ref 1] = Run M_X8_hall 20 [.ref 1, .int (nI R.1.1)] [] G := by
    show Run M_X8_hall 0 [.ref 1, .null] [] h = _
    simp only [r_X8_hall_0, r_X8_hall_1, r_X8_hall_4, r_X8_hall_5, r_X8_hall_8, r_X8_hall_11, r_X8_hall_12, r_X8_hall_13, r_X8_hall_16, r_X8_hall_17, ↓reduceIte, Option.isSome_some, Option.getD_some, rL_v, rL_n, cH_s, List.cons_append, List.nil_append, cat_i, cat_r, cat_n, ofN, g8_0 h1, g8_1 h1, g8_2 h1, g8_3 h1, g8_4 h1, g8_5 h1, g8_6 h1, g8_7 h1, g8_8 h1, ro8 h1, ro7 h2, c1, g8_0 h1', g8_1 h1', g8_2 h1', g8_3 h1', g8_4 h1', g8_5 h1', g8_6 h1', g8_7 h1', g8_8 h1', ro8 h1', g7_0 r2, p7_0 r2, g7_1 r2, p7_1 r2, g7_2 r2, p7_2 r2, g7_3 r2, p7_3 r2, g7_4 r2, p7_4 r2, g7_5 r2, p7_5 r2, g7_6 r2, p7_6 r2, g7_7 r2, p7_7 r2, ro7 r2, hG]
  by_cases q : R.1.1 = 0
  · have eR := ok.1.2.1 q
    have oQ := ok.2 q
    have hR := rR q
    have hRG : HallR G (101 - o) R.2 := by rw [← hG]; exact hR.fr oQ.1.1 (fun y _ _ => hup_ne (by omega))
    obtain ⟨hA1, -, -⟩ := id hH.2.2.2.2.1
    have hOG : G.2.2 o = _ := (Gf o (by omega) (by omega)).trans hH.1
    have hAG : G.2.2 (o + 4) = _ := (Gf (o + 4) (by omega) (by omega)).trans hA1
    have e32 := (Gf 32 (by decide) (by omega)).trans hEn.1
    have e35 := (Gf 35 (by decide) (by omega)).trans hBk.1
    have e39 := (Gf 39 (by decide) (by omega)).trans hIm.2.1
    have h17 : ∃ fl, h.2.2 17 = some (oLo 18 19 20 21 22 31 fl) := by
      rcases hL with w | ⟨w, -⟩
      · exact ⟨_, w⟩
      · exact ⟨_, w⟩
    obtain ⟨fl17, h17⟩ := h17
    have e17 := (Gf 17 (by decide) (by omega)).trans h17
    have eoG := (hEo.fr (h' := G) (fun y _ _ => Gf y (by omega) (by omega))).raw
    obtain ⟨h', k1, k2, k3, k4, k5, k6, k7, k8, k9, k10, k11⟩ := c_openSpare (s := S 0 18) (by omega : (o = 40 ∧ 101 - o = 61) ∨ (o = 61 ∧ 101 - o = 40)) oQ.1 oQ.2.1.1 G1 hRG hOG hAG e32 e35 e39 eoG e17
    have kf : ∀ y, y ≠ 1 → y ≠ 2 → y ≠ 17 → y ≠ 32 → y ≠ 35 → y ≠ 39 → y < 4 ∨ 16 < y → y < 101 - o ∨ 101 - o + 20 < y → h'.2.2 y = h.2.2 y := fun y u1 u2 u3 u4 u5 u6 u7 u8 => (k9 y u1 u3 u4 u5 u6 (by omega) u7).trans (Gf y u2 u8)
    refine ⟨h', fun w => absurd q w, fun _ => ⟨?_, fun S' hS' => ?_⟩, fun a ha => kf a (by omega) (by omega) (by omega) (by omega) (by omega) (by omega) (by omega) (by omega), k10.trans s1, k11.trans s2⟩
    · rw [T1]
      have k3' := k3.1
      have e12 : (va_up R.2 0 (va_up (R.2 0) 18 (S 0 18))) 12 0 = R.2 12 0 := rfl
      simp only [r_X8_hall_20, r_X8_hall_21, r_X8_hall_29, r_X8_hall_30, r_X8_hall_33, r_X8_hall_34, r_X8_hall_37, r_X8_hall_40, ↓reduceIte, Option.isSome_some, Option.getD_some, rL_v, rL_n, cH_s, List.cons_append, List.nil_append, cat_i, cat_r, cat_n, ofN, z, q, ro8 G1, k1, g8_0 k2, g8_1 k2, g8_2 k2, g8_3 k2, g8_4 k2, g8_5 k2, g8_6 k2, g8_7 k2, g8_8 k2, ro8 k2, g4_0 k3', g4_1 k3', g4_2 k3', g4_3 k3', g4_4 k3', g4_5 k3', g4_6 k3', ro4 k3', e12]
    · obtain ⟨⟨d0, d1, d2, d3, d4, d5, d6⟩, dp, dt, dk, dl, ⟨d15, d16, d17, d18⟩, d9, dI⟩ := hS'
      have oo : 101 - (101 - o) = o := by omega
      have eo : ∀ p, p < R.2 12 0 → S' 4 p = R.2 4 p ∧ S' 6 p = R.2 6 p ∧ ∀ i, i < R.2 6 p → S' 7 (4 * p + i) = R.2 7 (4 * p + i) := fun p hp => ⟨(dp p hp).2.1, (dp p hp).2.2.2.1, (dp p hp).2.2.2.2⟩
      have ag : AgR h' (101 - o + 4) (S' 0) (R.2 12 1) := by
        have y : AgR h' (101 - o + 4) (va_up (R.2 0) 18 (S 0 18)) (R.2 12 1) := k3.2.2.2.2.1
        have e : ∀ k, k ≠ 18 → va_up (R.2 0) 18 (S 0 18) k = R.2 0 k := fun k hk => va_up_ne _ _ hk
        have p5 := oQ.2.1.1
        refine y.cg2 (fun k hk => by rw [e k (by omega)]; exact dk k hk) (fun p hp => ?_) ?_ ?_ ?_ ?_
        · rw [e _ (by omega), e _ (by omega)]; exact dl p hp
        · rw [e _ (by decide), d15]; exact oQ.2.2.2.2.1.symm
        · rw [e _ (by decide), d16]; exact oQ.2.2.2.2.2.1.symm
        · rw [e _ (by decide), d17]; exact oQ.2.2.2.2.2.2.symm
        · rw [va_up_self]; exact d18
      have i0 : ∀ i, i < 2 → S' 2 i = 0 := fun i hi => by
        rw [dI]
        rcases (show i = 0 ∨ i = 1 by omega) with rfl | rfl
        · rfl
        · rfl
      refine ⟨101 - o, by omega, by rw [oo]; exact k2, ⟨⟨nI R.1.1, a', na', sg', co', ?_⟩, ?_⟩, HallR.cg (S := va_up R.2 0 (va_up (R.2 0) 18 (S 0 18))) d0 d1 d2 dp dt ag k3, ?_, k4.cg d0 eo, ⟨hLx.fr2 (fun y u1 u2 => kf y (by omega) (by omega) (by omega) (by omega) (by omega) (by omega) (by omega) (by omega)), Or.inl k5⟩, ⟨?_, ?_, ?_⟩, ⟨?_, ?_, ?_⟩, ⟨?_, ?_, fun i hi => ⟨?_, fun w => absurd (i0 i hi) (by rw [w]; decide)⟩⟩⟩
      · rw [d3, d6, k9 2 (by decide) (by decide) (by decide) (by decide) (by decide) (by omega) (by decide), G2, eR]
      · rw [d9, kf 3 (by decide) (by decide) (by decide) (by decide) (by decide) (by decide) (by decide) (by omega)]; exact h3
      · rw [oo]; exact hH.x.fr (fun y u1 u2 => kf y (by omega) (by omega) (by omega) (by omega) (by omega) (by omega) (by omega) (by omega))
      · rw [d4]; exact k6
      · obtain ⟨f, y, -⟩ := hEn.2.1
        exact ⟨f, (kf 33 (by decide) (by decide) (by decide) (by decide) (by decide) (by decide) (by decide) (by omega)).trans y, fun i hi => by rw [d4] at hi; omega⟩
      · obtain ⟨f, y, -⟩ := hEn.2.2
        exact ⟨f, (kf 34 (by decide) (by decide) (by decide) (by decide) (by decide) (by decide) (by decide) (by omega)).trans y, fun i hi => by rw [d4] at hi; omega⟩
      · rw [d5]; exact k7
      · obtain ⟨f, y, -⟩ := hBk.2.1
        exact ⟨f, (kf 36 (by decide) (by decide) (by decide) (by decide) (by decide) (by decide) (by decide) (by omega)).trans y, fun i hi => by rw [d5] at hi; omega⟩
      · obtain ⟨f, y, -⟩ := hBk.2.2
        exact ⟨f, (kf 37 (by decide) (by decide) (by decide) (by decide) (by decide) (by decide) (by decide) (by omega)).trans y, fun i hi => by rw [d5] at hi; omega⟩
      · rw [kf 38 (by decide) (by decide) (by decide) (by decide) (by decide) (by decide) (by decide) (by omega)]; exact hIm.1
      · rw [k8, dI, upd_nI, upd_nI]
      · exact (hIm.2.2 i hi).1.fr (fun y u1 u2 => kf y (by omega) (by omega) (by omega) (by omega) (by omega) (by omega) (by omega) (by omega))
  · refine ⟨G, fun _ => ⟨?_, o, ?_⟩, fun w => absurd w q, fun a ha => Gf a (by omega) (by omega), s1, s2⟩
    · rw [T1]
      simp only [r_X8_hall_20, r_X8_hall_21, r_X8_hall_24, r_X8_hall_26, r_X8_hall_27, r_X8_hall_28, ↓reduceIte, Option.isSome_some, Option.getD_some, rL_v, rL_n, cH_s, List.cons_append, List.nil_append, cat_i, cat_r, cat_n, ofN, z, q]
    · have hXG : HallX G (101 - o) := by rw [← hG]; exact rX.fr (fun y _ _ => hup_ne (by omega))
      refine ⟨h0, G1, ⟨⟨_, _, _, _, _, G2⟩, (Gf 3 (by decide) (by omega)).trans h3⟩, hH.fr h7 (fun y _ _ => Gf y (by omega) (by omega)), hXG, EoR.st (S := S) (S' := Sft S R.1.2) rfl rfl rfl rfl (hEo.fr (fun y _ _ => Gf y (by omega) (by omega))), ?_, hEn.fr (fun y _ _ => Gf y (by omega) (by omega)), hBk.fr (fun y _ _ => Gf y (by omega) (by omega)), hIm.fr (fun y _ => Gf y (by omega) (by omega))⟩
      exact LoR.st (S := S) (S' := Sft S R.1.2) rfl rfl rfl rfl (LoR.fr (S := S) (fun y _ _ => Gf y (by omega) (by omega)) ⟨hLx, hL⟩)
