/-! ===== hall: the class begins to read; a hall is opened ===== -/
theorem irep (g : Nat → Int32) (F : Nat → Nat) (P : Nat → Prop) (h : ∀ t, P t → g t = nI (F t)) : ∃ G : Nat → Nat, g = (fun t => nI (G t)) ∧ ∀ t, P t → G t = F t := by
  classical
  have all : ∀ x : Int32, ∃ n : Nat, x = nI n := fun x => ⟨x.toBitVec.toNat, by unfold nI; apply Int32.toBitVec_inj.mp; simp⟩
  refine ⟨fun t => if P t then F t else Classical.choose (all (g t)), ?_, fun t ht => if_pos ht⟩
  funext t
  by_cases ht : P t
  · dsimp only; rw [if_pos ht]; exact h t ht
  · dsimp only; rw [if_neg ht]; exact Classical.choose_spec (all (g t))
theorem nI_all (x : Int32) : ∃ n : Nat, x = nI n := ⟨x.toBitVec.toNat, by unfold nI; apply Int32.toBitVec_inj.mp; simp⟩
/-- before anything is said -/
def Q0 (x k i : Nat) : Nat := if k = 0 then (if i = 0 then 3 else if i = 1 then 2 else if i = 2 then 1 else if i = 3 then 8 else if i = 18 then x else 0) else 0
theorem QOk_Q0 (x : Nat) : QOk (Q0 x) := by
  refine ⟨⟨by show (0 : Nat) ≤ 7; decide, fun p hp => absurd hp (Nat.not_lt_zero _)⟩, ⟨by show (0 : Nat) ≤ 5; decide, by show (0 : Nat) ≤ 5; decide, fun i hi => absurd hi (Nat.not_lt_zero _)⟩, ⟨by show (3 : Nat) ≤ 20; decide, by show (2 : Nat) ≤ 20; decide, by show (1 : Nat) ≤ 20; decide, by show (8 : Nat) ≤ 8; decide, by show (0 : Nat) ≤ 8; decide⟩, fun p hp => absurd hp (Nat.not_lt_zero _), rfl, rfl, rfl⟩
theorem c_setUntold {h : AH} {a f5 f6 : Nat} {f0 f1 f2 f3 f4 f7 f8 f9 f10 : Int32} (ha : h.2.2 a = some (oAg f0 f1 f2 f3 f4 f5 f6 f7 f8 f9 f10)) : Call M_X0_setUntold h [.ref a] = some (hup h a (oAg (nI 3) (nI 2) (nI 1) (nI 8) (nI 0) f5 f6 (nI 0) (nI 0) (nI 0) f10), none) := by
  have c2 := c_setSign (e := nI 8) (l := nI 0) (hup_get (h := h) (a := a) (c := oAg (nI 3) (nI 2) (nI 1) f3 f4 f5 f6 f7 f8 f9 f10))
  rw [hup_hup] at c2
  show Run M_X0_setUntold 0 [.ref a] [] h = _
  simp only [r_X0_setUntold_0, r_X0_setUntold_1, r_X0_setUntold_2, r_X0_setUntold_3, r_X0_setUntold_4, r_X0_setUntold_7, r_X0_setUntold_8, r_X0_setUntold_10, r_X0_setUntold_11, r_X0_setUntold_14, r_X0_setUntold_15, r_X0_setUntold_16, r_X0_setUntold_19, r_X0_setUntold_20, r_X0_setUntold_21, r_X0_setUntold_24, r_X0_setUntold_25, r_X0_setUntold_26, r_X0_setUntold_29, ↓reduceIte, Option.isSome_some, Option.getD_some, rL_v, rL_n, cH_s, List.cons_append, List.nil_append, cat_i, cat_r, cat_n, ofN, ro0 ha, c_setCosts ha, c2, rou0, gu0_0, pu0_0, gu0_1, pu0_1, gu0_2, pu0_2, gu0_3, pu0_3, gu0_4, pu0_4, gu0_5, pu0_5, gu0_6, pu0_6, gu0_7, pu0_7, gu0_8, pu0_8, gu0_9, pu0_9, gu0_10, pu0_10]
theorem c_clear {h : AH} {o : Nat} (ho : 31 < o) (hX : HallX h o) : ∃ x h', Call M_X4_clear h [.ref o] = some (h', none) ∧ HallR h' o (Q0 x) ∧ (∀ y, y ≠ o → y ≠ o + 4 → h'.2.2 y = h.2.2 y) ∧ h'.1 = h.1 ∧ h'.2.1 = h.2.1 := by
  obtain ⟨⟨pt, pl, tl, h1⟩, hR, ⟨f1, t1⟩, ⟨f2, t2⟩, ⟨⟨g0, g1, g2, g3, g4, g7, g8, g9, g10, a1⟩, ⟨s1, a2⟩, ⟨s2, a3⟩⟩, hP⟩ := hX
  obtain ⟨x, rfl⟩ := nI_all g10
  have a1' : ∀ X, (hup h o X).2.2 (o + 4) = _ := fun X => (hup_ne (by omega)).trans a1
  have fr : ∀ X Y y, y ≠ o → y ≠ o + 4 → (hup (hup h o X) (o + 4) Y).2.2 y = h.2.2 y := fun X Y y h1 h2 => by rw [hup_ne h2, hup_ne h1]
  refine ⟨x, hup (hup h o (oHa (nI 0) (o + 1) (nI 0) (nI 0) (o + 2) (o + 3) (o + 4))) (o + 4) (oAg (nI 3) (nI 2) (nI 1) (nI 8) (nI 0) (o + 4 + 1) (o + 4 + 2) (nI 0) (nI 0) (nI 0) (nI x)), ?_, ⟨?_, hR.fr (fr _ _ _ (by omega) (by omega)), ⟨f1, (fr _ _ _ (by omega) (by omega)).trans t1, fun i hi => absurd hi (Nat.not_lt_zero _)⟩, ⟨f2, (fr _ _ _ (by omega) (by omega)).trans t2, fun i hi => absurd hi (Nat.not_lt_zero _)⟩, ⟨hup_get, ⟨s1, (fr _ _ _ (by omega) (by omega)).trans a2, fun i hi => absurd hi (Nat.not_lt_zero _)⟩, ⟨s2, (fr _ _ _ (by omega) (by omega)).trans a3, fun i hi => absurd hi (Nat.not_lt_zero _)⟩⟩, fun p hp => (hP p hp).fr hp (fun y _ _ => fr _ _ y (by omega) (by omega)), fun p hp => absurd hp (Nat.not_lt_zero _)⟩, fr _ _, rfl, rfl⟩
  · show Run M_X4_clear 0 [.ref o] [] h = _
    simp only [r_X4_clear_0, r_X4_clear_1, r_X4_clear_2, r_X4_clear_5, r_X4_clear_6, r_X4_clear_7, r_X4_clear_10, r_X4_clear_11, r_X4_clear_12, r_X4_clear_15, r_X4_clear_16, r_X4_clear_19, r_X4_clear_22, ↓reduceIte, Option.isSome_some, Option.getD_some, rL_v, rL_n, cH_s, List.cons_append, List.nil_append, cat_i, cat_r, cat_n, ofN, g4_0 h1, p4_0 h1, g4_1 h1, p4_1 h1, g4_2 h1, p4_2 h1, g4_3 h1, p4_3 h1, g4_4 h1, p4_4 h1, g4_5 h1, p4_5 h1, g4_6 h1, p4_6 h1, ro4 h1, rou4, gu4_0, pu4_0, gu4_1, pu4_1, gu4_2, pu4_2, gu4_3, pu4_3, gu4_4, pu4_4, gu4_5, pu4_5, gu4_6, pu4_6, ro0 (a1' _), c_setUntold (a1' _)]
  · rw [hup_ne (by omega)]; exact hup_get
theorem c_readInto {h : AH} {T : Nat → Nat} {n o : Nat} {fa fl a0 na sg co : Int32} (hn : n ≤ 250) (hT : ∀ i, i < n → T i < 256) (ho : 31 < o) (h3 : h.2.2 3 = some (iA 250 (fun i => nI (T i)))) (h2 : h.2.2 2 = some (oRd 3 (nI n) fa fl a0 na sg co)) (hX : HallX h o) :
    ∃ x h', Call M_X7_readInto h [.ref 2, .ref o] = some (h', some (.int (nI (RO T n n (sk T n 0) (Q0 x) 0 0).1.1))) ∧ ReC h h' n o (RO T n n (sk T n 0) (Q0 x) 0 0) := by
  generalize hG0 : hup h 2 (oRd 3 (nI n) (fI 0) (nI 0) (nI 0) na (nI 0) (nI 0)) = G0
  have A2 : G0.2.2 2 = some (oRd 3 (nI n) (fI 0) (nI 0) (nI 0) na (nI 0) (nI 0)) := by rw [← hG0]; exact hup_get
  have Af : ∀ y, y ≠ 2 → G0.2.2 y = h.2.2 y := fun y hy => by rw [← hG0]; exact hup_ne hy
  obtain ⟨x, G1, c1, c2, c3, c4, c5⟩ := c_clear ho (hX.fr (h' := G0) (fun y _ _ => Af y (by omega)))
  have B2 := (c3 2 (by omega) (by omega)).trans A2
  have B3 : G1.2.2 3 = some (iA 250 (fun i => nI (T i))) := (c3 3 (by omega) (by omega)).trans ((Af 3 (by decide)).trans h3)
  have K := c_skip hn hT B3 (Nat.zero_le n) B2
  have s0 := sk_le (T := T) (Nat.zero_le n)
  obtain ⟨h', l1, l2, l3, l4, l5, l6, l7⟩ := c_loop hn hT ho n (sk T n 0) (Q0 x) 0 0 0 (hup G1 2 (oRd 3 (nI n) (fI 0) (nI 0) (nI (sk T n 0)) na (nI 0) (nI 0))) na (by omega) s0 (sk_sk (Nat.zero_le n)) (Nat.zero_le _) (by decide) (by decide) (QOk_Q0 x) ((hup_ne (by decide)).trans B3) hup_get (c2.fr (Nat.zero_le 7) (fun y _ _ => hup_ne (by omega)))
  refine ⟨x, h', ?_, l2, l3, l4, fun y u1 u2 => ?_, ?_, ?_⟩
  · have em : (-1 : Int32) = fI 0 := by decide
    have H1 : ∃ pt pl tl, G0.2.2 o = some (oHa pt (o + 1) pl tl (o + 2) (o + 3) (o + 4)) := by
      obtain ⟨⟨pt, pl, tl, q⟩, -⟩ := hX
      exact ⟨pt, pl, tl, (Af o (by omega)).trans q⟩
    obtain ⟨pt, pl, tl, H1⟩ := H1
    show Run M_X7_readInto 0 [.ref 2, .ref o, .null] [] h = _
    simp only [r_X7_readInto_0, r_X7_readInto_1, r_X7_readInto_2, r_X7_readInto_5, r_X7_readInto_6, r_X7_readInto_7, r_X7_readInto_10, r_X7_readInto_11, r_X7_readInto_12, r_X7_readInto_15, r_X7_readInto_16, r_X7_readInto_17_0, r_X7_readInto_17_1, r_X7_readInto_20, r_X7_readInto_21, r_X7_readInto_22_0, r_X7_readInto_22_1, r_X7_readInto_25, r_X7_readInto_26, ↓reduceIte, Option.isSome_some, Option.getD_some, rL_v, rL_n, cH_s, List.cons_append, List.nil_append, cat_i, cat_r, cat_n, ofN, g7_0 h2, p7_0 h2, g7_1 h2, p7_1 h2, g7_2 h2, p7_2 h2, g7_3 h2, p7_3 h2, g7_4 h2, p7_4 h2, g7_5 h2, p7_5 h2, g7_6 h2, p7_6 h2, g7_7 h2, p7_7 h2, ro7 h2, rou7, gu7_0, pu7_0, gu7_1, pu7_1, gu7_2, pu7_2, gu7_3, pu7_3, gu7_4, pu7_4, gu7_5, pu7_5, gu7_6, pu7_6, gu7_7, pu7_7, em, hG0, ro4 H1, c1]
    simp only [r_X7_readInto_29, r_X7_readInto_30, r_X7_readInto_33, r_X7_readInto_34, ↓reduceIte, Option.isSome_some, Option.getD_some, rL_v, rL_n, cH_s, List.cons_append, List.nil_append, cat_i, cat_r, cat_n, ofN, ro7 B2, K]
    exact l1
  · rw [l5 y u1 u2, hup_ne u1, c3 y (by omega) (by omega)]; exact Af y u1
  · rw [l6]; show G1.1 = _; rw [c4, ← hG0]; rfl
  · rw [l7]; show G1.2.1 = _; rw [c5, ← hG0]; rfl
theorem Wt_cg {S S' : SS} : ∀ q, (∀ p, p < q → S' 4 p = S 4 p ∧ S' 6 p = S 6 p ∧ ∀ i, i < S 6 p → S' 7 (4 * p + i) = S 7 (4 * p + i)) → Wt S' q = Wt S q
  | 0, _ => rfl
  | q + 1, h => by
    funext t
    have ih := Wt_cg q (fun p hp => h p (by omega))
    obtain ⟨h4, h6, h7⟩ := h q (by omega)
    simp only [Wt]
    rw [ih, h4, h6]
    congr 1
    apply sm_congr
    intro i hi
    rw [h7 i hi]
theorem Ch_cg {S S' : SS} : ∀ q, (∀ p, p < q → S' 6 p = S 6 p) → Ch S' q = Ch S q
  | 0, _ => rfl
  | q + 1, h => by simp only [Ch]; rw [Ch_cg q (fun p hp => h p (by omega)), h q (by omega)]
theorem EoR.cg {h : AH} {S S' : SS} (h0 : S' 12 0 = S 12 0) (hp : ∀ p, p < S 12 0 → S' 4 p = S 4 p ∧ S' 6 p = S 6 p ∧ ∀ i, i < S 6 p → S' 7 (4 * p + i) = S 7 (4 * p + i)) (r : EoR h S) : EoR h S' := by
  have eW : ∀ q, q ≤ S 12 0 → Wt S' q = Wt S q := fun q hq => Wt_cg q (fun p hp' => hp p (by omega))
  have eC : ∀ q, q ≤ S 12 0 → Ch S' q = Ch S q := fun q hq => Ch_cg q (fun p hp' => (hp p (by omega)).2.1)
  obtain ⟨r1, r2, r3, ⟨g4, r4, r4'⟩, ⟨g5, r5, r5'⟩, ⟨g6, r6, r6'⟩⟩ := r
  unfold EoR
  rw [h0]
  refine ⟨r1, r2, fun q hq => ?_, ⟨g4, r4, fun q hq => by rw [eC q hq]; exact r4' q hq⟩, ⟨g5, r5, fun t ht => by rw [eW _ (Nat.le_refl _)]; exact r5' t ht⟩, ⟨g6, r6, fun t ht => by rw [eW _ (Nat.le_refl _)]; exact r6' t ht⟩⟩
  obtain ⟨g, a, b⟩ := r3 q hq
  exact ⟨g, a, fun hq' t ht => by rw [eW q hq']; exact b hq' t ht⟩
theorem HallR.cg {h : AH} {o : Nat} {S S' : SS} (h0 : S' 12 0 = S 12 0) (h1 : S' 12 1 = S 12 1) (h2 : S' 12 2 = S 12 2) (hp : ∀ p, p < S 12 0 → S' 3 p = S 3 p ∧ S' 4 p = S 4 p ∧ S' 5 p = S 5 p ∧ S' 6 p = S 6 p ∧ ∀ i, i < S 6 p → S' 7 (4 * p + i) = S 7 (4 * p + i)) (ht : ∀ i, i < S 12 2 → S' 8 (2 * i) = S 8 (2 * i) ∧ S' 8 (2 * i + 1) = S 8 (2 * i + 1)) (ha : AgR h (o + 4) (S' 0) (S 12 1)) (r : HallR h o S) : HallR h o S' := by
  obtain ⟨r1, r2, ⟨f1, t1, t1'⟩, ⟨f2, t2, t2'⟩, -, r6, r7⟩ := r
  unfold HallR
  rw [h0, h1, h2]
  refine ⟨r1, r2, ⟨f1, t1, fun i hi => by rw [(ht i hi).1]; exact t1' i hi⟩, ⟨f2, t2, fun i hi => by rw [(ht i hi).2]; exact t2' i hi⟩, ha, r6, fun p hp' => ?_⟩
  obtain ⟨e3, e4, e5, e6, e7⟩ := hp p hp'
  obtain ⟨y1, g, y2, y3⟩ := r7 p hp'
  unfold PartR
  rw [e3, e4, e5, e6]
  exact ⟨y1, g, y2, fun i hi => by rw [y3 i hi]; show nI (S 7 (4 * p + i)) = nI (S' 7 (4 * p + i)); rw [e7 i hi]⟩
set_option maxHeartbeats 2000000 in
theorem c_openSpare {h : AH} {o o' s : Nat} {Q : SS} {e1 e2 fl : Int32} {g : Nat → Int32} {f0 f1 f2 f3 f4 f7 f8 f9 pt pl tl : Int32} (ho : (o = 40 ∧ o' = 61) ∨ (o = 61 ∧ o' = 40)) (hQ : HOk Q) (hQ1 : Q 12 1 ≤ 5) (h1 : h.2.2 1 = some (oCz 2 4 17 32 35 38 39 o o')) (hH : HallR h o' Q) (hO : h.2.2 o = some (oHa pt (o + 1) pl tl (o + 2) (o + 3) (o + 4))) (hA : h.2.2 (o + 4) = some (oAg f0 f1 f2 f3 f4 (o + 4 + 1) (o + 4 + 2) f7 f8 f9 (nI s))) (hE : h.2.2 32 = some (oEn 33 34 e1)) (hB : h.2.2 35 = some (oBk 36 37 e2)) (hK : h.2.2 39 = some (zA 2 g)) (hEo : EoRaw h) (h17 : h.2.2 17 = some (oLo 18 19 20 21 22 31 fl)) :
    ∃ h', Call M_X8_openSpare h [.ref 1] = some (h', none) ∧ h'.2.2 1 = some (oCz 2 4 17 32 35 38 39 o' o) ∧ HallR h' o' (va_up Q 0 (va_up (Q 0) 18 s)) ∧ EoR h' Q ∧ h'.2.2 17 = some (oLo 18 19 20 21 22 31 (nI 0)) ∧ h'.2.2 32 = some (oEn 33 34 (nI 0)) ∧ h'.2.2 35 = some (oBk 36 37 (nI 0)) ∧ h'.2.2 39 = some (zA 2 (upd (upd g 0 (nI 0)) 1 (nI 0))) ∧ (∀ x, x ≠ 1 → x ≠ 17 → x ≠ 32 → x ≠ 35 → x ≠ 39 → x ≠ o' + 4 → x < 4 ∨ 16 < x → h'.2.2 x = h.2.2 x) ∧ h'.1 = h.1 ∧ h'.2.1 = h.2.1 := by
  have h7 := hQ.1
  have hA' := hH.2.2.2.2.1
  have hA1 := hA'.1
  have hH1 := hH.1
  have n00 : nI 0 &&& 1 = nI 0 := by decide
  generalize hG1 : hup h (o' + 4) (oAg (nI (Q 0 0)) (nI (Q 0 1)) (nI (Q 0 2)) (nI (Q 0 3)) (nI (Q 0 4)) (o' + 4 + 1) (o' + 4 + 2) (nI (Q 0 15)) (nI (Q 0 16)) (nI (Q 0 17)) (nI s)) = G1
  have Af : ∀ x, x ≠ o' + 4 → G1.2.2 x = h.2.2 x := fun x hx => by rw [← hG1]; exact hup_ne hx
  have A1 := (Af 1 (by omega)).trans h1
  have AR : AgR G1 (o' + 4) (va_up (Q 0) 18 s) (Q 12 1) := by
    rw [← hG1]
    exact hA'.scal (g' := va_up (Q 0) 18 s) (fun p => by
      by_cases e : p < 5
      · exact Or.inl ⟨va_up_ne _ _ (by omega), va_up_ne _ _ (by omega)⟩
      · exact Or.inr (by omega))
  generalize hG2 : hup G1 1 (oCz 2 4 17 32 35 38 39 o' o) = G2
  have B1 : G2.2.2 1 = some (oCz 2 4 17 32 35 38 39 o' o) := by rw [← hG2]; exact hup_get
  have Bf : ∀ x, x ≠ 1 → G2.2.2 x = G1.2.2 x := fun x hx => by rw [← hG2]; exact hup_ne hx
  generalize hG3 : hup G2 32 (oEn 33 34 (nI 0)) = G3
  have C1 : G3.2.2 1 = some (oCz 2 4 17 32 35 38 39 o' o) := by rw [← hG3, hup_ne (by decide)]; exact B1
  have Cf : ∀ x, x ≠ 32 → G3.2.2 x = G2.2.2 x := fun x hx => by rw [← hG3]; exact hup_ne hx
  generalize hG4 : hup G3 35 (oBk 36 37 (nI 0)) = G4
  have D1 : G4.2.2 1 = some (oCz 2 4 17 32 35 38 39 o' o) := by rw [← hG4, hup_ne (by decide)]; exact C1
  have Df : ∀ x, x ≠ 35 → G4.2.2 x = G3.2.2 x := fun x hx => by rw [← hG4]; exact hup_ne hx
  have D39 : G4.2.2 39 = some (zA 2 g) := by rw [Df 39 (by decide), Cf 39 (by decide), Bf 39 (by decide), Af 39 (by omega)]; exact hK
  have d1 : ∀ Y, (hup G4 39 Y).2.2 1 = _ := fun Y => (hup_ne (by decide)).trans D1
  generalize hG5 : hup G4 39 (zA 2 (upd (upd g 0 (nI 0)) 1 (nI 0))) = G5
  have E1 : G5.2.2 1 = some (oCz 2 4 17 32 35 38 39 o' o) := by rw [← hG5]; exact d1 _
  have Ef : ∀ x, x ≠ 1 → x ≠ 32 → x ≠ 35 → x ≠ 39 → G5.2.2 x = G1.2.2 x := fun x h1 h2 h3 h4 => by rw [← hG5, hup_ne h4, Df x h3, Cf x h2, Bf x h1]
  have Eg : ∀ x, x ≠ 1 → x ≠ 32 → x ≠ 35 → x ≠ 39 → x ≠ o' + 4 → G5.2.2 x = h.2.2 x := fun x h1 h2 h3 h4 h5 => (Ef x h1 h2 h3 h4).trans (Af x h5)
  have HR : HallR G5 o' (va_up Q 0 (va_up (Q 0) 18 s)) := HallR.ag h7 hH (fun x u1 u2 u3 => Eg x (by omega) (by omega) (by omega) (by omega) (by omega)) (AR.fr (fun x u1 u2 => Ef x (by omega) (by omega) (by omega) (by omega)))
  have Eo : EoRaw G5 := by
    obtain ⟨⟨pt, e4⟩, ⟨fb, e5, e5'⟩, eR, ⟨g0, e6, e6'⟩, ⟨g14, e14, e14'⟩, ⟨g15, e15⟩, ⟨g16, e16⟩⟩ := hEo
    exact ⟨⟨pt, (Eg _ (by omega) (by omega) (by omega) (by omega) (by omega)).trans e4⟩, ⟨fb, (Eg _ (by omega) (by omega) (by omega) (by omega) (by omega)).trans e5, e5'⟩, fun q hq => by obtain ⟨g, y⟩ := eR q hq; exact ⟨g, (Eg _ (by omega) (by omega) (by omega) (by omega) (by omega)).trans y⟩, ⟨g0, (Eg _ (by omega) (by omega) (by omega) (by omega) (by omega)).trans e6, e6'⟩, ⟨g14, (Eg _ (by omega) (by omega) (by omega) (by omega) (by omega)).trans e14, e14'⟩, ⟨g15, (Eg _ (by omega) (by omega) (by omega) (by omega) (by omega)).trans e15⟩, ⟨g16, (Eg _ (by omega) (by omega) (by omega) (by omega) (by omega)).trans e16⟩⟩
  obtain ⟨G6, w1, w2, w3, w4, w5⟩ := c_weigh (S := Q) Eo HR.1 HR.2.1 (fun p hp => HR.2.2.2.2.2.2 p hp) hQ (show 31 < o' by omega)
  have F1 := (w3 1 (by omega)).trans E1
  have F17 : G6.2.2 17 = some (oLo 18 19 20 21 22 31 fl) := by rw [w3 17 (by omega), Eg 17 (by omega) (by omega) (by omega) (by omega) (by omega)]; exact h17
  have fg : Call M_X5_forget G6 [.ref 17] = some (hup G6 17 (oLo 18 19 20 21 22 31 (nI 0)), none) := by
    show Run M_X5_forget 0 [.ref 17] [] G6 = _
    simp only [r_X5_forget_0, r_X5_forget_1, r_X5_forget_2_0, r_X5_forget_2_1, r_X5_forget_5, ↓reduceIte, Option.isSome_some, Option.getD_some, rL_v, rL_n, cH_s, List.cons_append, List.nil_append, cat_i, cat_r, cat_n, ofN, g5_0 F17, p5_0 F17, g5_1 F17, p5_1 F17, g5_2 F17, p5_2 F17, g5_3 F17, p5_3 F17, g5_4 F17, p5_4 F17, g5_5 F17, p5_5 F17, g5_6 F17, p5_6 F17, ro5 F17]
  have Gf : ∀ Y x, x ≠ 17 → x < 4 ∨ 16 < x → (hup G6 17 Y).2.2 x = G5.2.2 x := fun Y x u1 u2 => by rw [hup_ne u1]; exact w3 x u2
  refine ⟨hup G6 17 (oLo 18 19 20 21 22 31 (nI 0)), ?_, (hup_ne (by decide)).trans F1, HR.fr h7 (fun x u1 u2 => Gf _ x (by omega) (by omega)), w2.fr (fun x u1 u2 => hup_ne (by omega)), hup_get, ?_, ?_, ?_, fun x u1 u2 u3 u4 u5 u6 u7 => (Gf _ x u2 u7).trans (Eg x u1 u3 u4 u5 u6), ?_, ?_⟩
  · have hE1 : G2.2.2 32 = some (oEn 33 34 e1) := by rw [Bf 32 (by decide), Af 32 (by omega)]; exact hE
    have hB1 : G3.2.2 35 = some (oBk 36 37 e2) := by rw [Cf 35 (by decide), Bf 35 (by decide), Af 35 (by omega)]; exact hB
    have E4 : ∃ pt, G5.2.2 4 = some (oEo 5 14 15 16 pt) := Eo.1
    obtain ⟨pt4, E4⟩ := E4
    have c0 : ¬ nI 2 ≤ nI 0 := by decide
    have c1 : ¬ nI 2 ≤ nI 1 := by decide
    have c2 : nI 2 ≤ nI 2 := by decide
    have s1 : nI 0 + nI 1 = nI 1 := by decide
    have s2 : nI 1 + nI 1 = nI 2 := by decide
    show Run M_X8_openSpare 0 [.ref 1, .null, .null] [] h = _
    simp only [r_X8_openSpare_0, r_X8_openSpare_1, r_X8_openSpare_4, r_X8_openSpare_5, r_X8_openSpare_6, r_X8_openSpare_9, r_X8_openSpare_12, r_X8_openSpare_13, r_X8_openSpare_16, r_X8_openSpare_19, ↓reduceIte, Option.isSome_some, Option.getD_some, rL_v, rL_n, cH_s, List.cons_append, List.nil_append, cat_i, cat_r, cat_n, ofN, g8_0 h1, g8_1 h1, g8_2 h1, g8_3 h1, g8_4 h1, g8_5 h1, g8_6 h1, g8_7 h1, g8_8 h1, ro8 h1, g4_0 hO, g4_1 hO, g4_2 hO, g4_3 hO, g4_4 hO, g4_5 hO, g4_6 hO, ro4 hO, g4_0 hH1, g4_1 hH1, g4_2 hH1, g4_3 hH1, g4_4 hH1, g4_5 hH1, g4_6 hH1, ro4 hH1, g0_0 hA, g0_1 hA, g0_2 hA, g0_3 hA, g0_4 hA, g0_5 hA, g0_6 hA, g0_7 hA, g0_8 hA, g0_9 hA, g0_10 hA, ro0 hA, g0_0 hA1, p0_0 hA1, g0_1 hA1, p0_1 hA1, g0_2 hA1, p0_2 hA1, g0_3 hA1, p0_3 hA1, g0_4 hA1, p0_4 hA1, g0_5 hA1, p0_5 hA1, g0_6 hA1, p0_6 hA1, g0_7 hA1, p0_7 hA1, g0_8 hA1, p0_8 hA1, g0_9 hA1, p0_9 hA1, g0_10 hA1, p0_10 hA1, ro0 hA1, hG1]
    simp only [r_X8_openSpare_22, r_X8_openSpare_23, r_X8_openSpare_24, r_X8_openSpare_27, r_X8_openSpare_30, r_X8_openSpare_31, r_X8_openSpare_32, ↓reduceIte, Option.isSome_some, Option.getD_some, rL_v, rL_n, cH_s, List.cons_append, List.nil_append, cat_i, cat_r, cat_n, ofN, g8_0 A1, p8_0 A1, g8_1 A1, p8_1 A1, g8_2 A1, p8_2 A1, g8_3 A1, p8_3 A1, g8_4 A1, p8_4 A1, g8_5 A1, p8_5 A1, g8_6 A1, p8_6 A1, g8_7 A1, p8_7 A1, g8_8 A1, p8_8 A1, ro8 A1, rou8, gu8_0, pu8_0, gu8_1, pu8_1, gu8_2, pu8_2, gu8_3, pu8_3, gu8_4, pu8_4, gu8_5, pu8_5, gu8_6, pu8_6, gu8_7, pu8_7, gu8_8, pu8_8, hG2]
    simp only [r_X8_openSpare_35, r_X8_openSpare_36, r_X8_openSpare_39, r_X8_openSpare_40, ↓reduceIte, Option.isSome_some, Option.getD_some, rL_v, rL_n, cH_s, List.cons_append, List.nil_append, cat_i, cat_r, cat_n, ofN, g8_0 B1, g8_1 B1, g8_2 B1, g8_3 B1, g8_4 B1, g8_5 B1, g8_6 B1, g8_7 B1, g8_8 B1, ro8 B1, g3_0 hE1, p3_0 hE1, g3_1 hE1, p3_1 hE1, g3_2 hE1, p3_2 hE1, ro3 hE1, hG3]
    simp only [r_X8_openSpare_43, r_X8_openSpare_44, r_X8_openSpare_47, r_X8_openSpare_48, r_X8_openSpare_51, r_X8_openSpare_52, ↓reduceIte, Option.isSome_some, Option.getD_some, rL_v, rL_n, cH_s, List.cons_append, List.nil_append, cat_i, cat_r, cat_n, ofN, g8_0 C1, g8_1 C1, g8_2 C1, g8_3 C1, g8_4 C1, g8_5 C1, g8_6 C1, g8_7 C1, g8_8 C1, ro8 C1, g1_0 hB1, p1_0 hB1, g1_1 hB1, p1_1 hB1, g1_2 hB1, p1_2 hB1, ro1 hB1, hG4]
    rw [r_X8_openSpare_53]
    simp only [r_X8_openSpare_54, r_X8_openSpare_55, r_X8_openSpare_58, r_X8_openSpare_59, r_X8_openSpare_62, r_X8_openSpare_63, r_X8_openSpare_64, r_X8_openSpare_65, r_X8_openSpare_68, ↓reduceIte, Option.isSome_some, Option.getD_some, rL_v, rL_n, cH_s, List.cons_append, List.nil_append, cat_i, cat_r, cat_n, ofN, c0, g8_0 D1, g8_1 D1, g8_2 D1, g8_3 D1, g8_4 D1, g8_5 D1, g8_6 D1, g8_7 D1, g8_8 D1, ro8 D1, n00, pI_nI D39 (by decide) (show 39 ≠ 0 by decide) (show 0 < 2 by decide), s1]
    rw [r_X8_openSpare_53]
    simp only [r_X8_openSpare_54, r_X8_openSpare_55, r_X8_openSpare_58, r_X8_openSpare_59, r_X8_openSpare_62, r_X8_openSpare_63, r_X8_openSpare_64, r_X8_openSpare_65, r_X8_openSpare_68, ↓reduceIte, Option.isSome_some, Option.getD_some, rL_v, rL_n, cH_s, List.cons_append, List.nil_append, cat_i, cat_r, cat_n, ofN, c1, g8_0 (d1 _), g8_1 (d1 _), g8_2 (d1 _), g8_3 (d1 _), g8_4 (d1 _), g8_5 (d1 _), g8_6 (d1 _), g8_7 (d1 _), g8_8 (d1 _), ro8 (d1 _), n00, pI_u (show 2 < 2147483648 by decide) (show 39 ≠ 0 by decide) (show 1 < 2 by decide), s2, hG5]
    rw [r_X8_openSpare_53]
    simp only [r_X8_openSpare_54, r_X8_openSpare_55, r_X8_openSpare_71, r_X8_openSpare_72, r_X8_openSpare_75, r_X8_openSpare_76, r_X8_openSpare_79, r_X8_openSpare_82, r_X8_openSpare_83, r_X8_openSpare_86, r_X8_openSpare_89, ↓reduceIte, Option.isSome_some, Option.getD_some, rL_v, rL_n, cH_s, List.cons_append, List.nil_append, cat_i, cat_r, cat_n, ofN, c2, g8_0 E1, g8_1 E1, g8_2 E1, g8_3 E1, g8_4 E1, g8_5 E1, g8_6 E1, g8_7 E1, g8_8 E1, ro8 E1, ro2 E4, w1, g8_0 F1, g8_1 F1, g8_2 F1, g8_3 F1, g8_4 F1, g8_5 F1, g8_6 F1, g8_7 F1, g8_8 F1, ro8 F1, ro5 F17, fg]
  · rw [Gf _ 32 (by decide) (by decide), ← hG5, hup_ne (by decide), Df 32 (by decide), ← hG3]; exact hup_get
  · rw [Gf _ 35 (by decide) (by decide), ← hG5, hup_ne (by decide), ← hG4]; exact hup_get
  · rw [Gf _ 39 (by decide) (by decide), ← hG5]; exact hup_get
  · show G6.1 = _; rw [w4, ← hG5, ← hG4, ← hG3, ← hG2, ← hG1]; rfl
  · show G6.2.1 = _; rw [w5, ← hG5, ← hG4, ← hG3, ← hG2, ← hG1]; rfl
