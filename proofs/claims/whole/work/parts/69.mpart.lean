/-! ===== hall: the model reads a PART ===== -/
def bS (S : SS) (np npl ntl sg co k : Nat) : Int32 := match k with
  | 0 => nI (S 12 0)
  | 1 => nI (S 12 1)
  | 2 => nI (S 12 2)
  | 3 => nI (S 12 3)
  | 4 => nI np
  | 5 => nI npl
  | 6 => nI ntl
  | 7 => nI sg
  | 8 => nI co
  | 9 => nI (S 12 4)
  | _ => nI (S 12 5)
theorem bS_4 {S : SS} {np npl ntl sg co : Nat} : bS S np npl ntl sg co 4 = nI np := rfl
theorem bS_5 {S : SS} {np npl ntl sg co : Nat} : bS S np npl ntl sg co 5 = nI npl := rfl
theorem bS_6 {S : SS} {np npl ntl sg co : Nat} : bS S np npl ntl sg co 6 = nI ntl := rfl
theorem bS_7 {S : SS} {np npl ntl sg co : Nat} : bS S np npl ntl sg co 7 = nI sg := rfl
theorem bS_8 {S : SS} {np npl ntl sg co : Nat} : bS S np npl ntl sg co 8 = nI co := rfl
theorem oo_assoc {F a b : Nat × Nat} : oo (oo F a) b = oo F (oo a b) := by
  by_cases q : F.1 = 0
  · rw [oo_w q, oo_w q]
  · rw [oo_i q, oo_i q, oo_i q]
theorem FL_ill {T : Nat → Nat} {n a m : Nat} {F : Nat × Nat} (h : ¬ (FL T n a F m).1 = 0) : ∀ k, FL T n a F (m + k) = FL T n a F m
  | 0 => rfl
  | k + 1 => by
    have ih := FL_ill h k
    show oo (FL T n a F (m + k)) _ = _
    rw [ih, oo_i h]
theorem cf_sk {T : Nat → Nat} {n a b : Nat} (h : sk T n a = sk T n b) : cf T n a = cf T n b := by
  unfold cf isC; rw [h]
theorem cl_sk {T : Nat → Nat} {n a b : Nat} (h : sk T n a = sk T n b) : clA' T n a = clA' T n b := by
  unfold clA' isC; rw [h]
theorem cf_0 {T : Nat → Nat} {n a : Nat} (h : (cf T n a).1 = 0) : isC T n a 59 := by
  unfold cf at h
  by_cases q : isC T n a 59
  · exact q
  · rw [if_neg q] at h; exact absurd h (show ¬ (1 : Nat) = 0 by decide)
theorem m_fin {H : AH} {T : Nat → Nat} {n a p npl ntl sg co : Nat} {S : SS} {F : Nat × Nat} {at' pl tk v f : Int32} (hn : n ≤ 250) (hT : ∀ i, i < n → T i < 256) (ha : a ≤ n) (hSn : S 12 3 = n) (hF : FOk n F) (h98 : H.2.2 98 = some (iA 250 (fun i => nI (T i)))) (hm : H.2.2 88 = some (oMk (bS S p npl ntl sg co) at' pl tk v f (nI F.1) (fI F.2))) (hk : F.1 = 0 → MTk T n a at' pl tk v f) :
    ∃ at2 pl2 tk2 v2 f2, Run M_X9_readPart 209 [.ref 88, .int (nI p)] [] H = some (hup H 88 (oMk (bS S (p + 1) npl ntl sg co) at2 pl2 tk2 v2 f2 (nI (oo F (cf T n a)).1) (fI (oo F (cf T n a)).2)), none) ∧ ((oo F (cf T n a)).1 = 0 → MTk T n (clA' T n a) at2 pl2 tk2 v2 f2) := by
  obtain ⟨at2, pl2, tk2, v2, f2, s1, s2⟩ := c_mstops (b := bS S p npl ntl sg co) hn hT ha (by rw [← hSn]; rfl) hF h98 hm hk
  refine ⟨at2, pl2, tk2, v2, f2, ?_, fun z => ?_⟩
  · simp only [r_X9_readPart_209, r_X9_readPart_210, r_X9_readPart_213, r_X9_readPart_214, r_X9_readPart_215, r_X9_readPart_218, r_X9_readPart_219, r_X9_readPart_220, r_X9_readPart_223, ↓reduceIte, Option.isSome_some, Option.getD_some, rL_v, rL_n, cH_s, List.cons_append, List.nil_append, cat_i, cat_r, cat_n, ofN, ro9 hm, s1, rou9, gu9_0, gu9_1, gu9_2, gu9_3, pu9_3, gu9_4, gu9_5, gu9_6, gu9_7, gu9_8, gu9_9, pu9_9, gu9_10, pu9_10, gu9_11, gu9_12, gu9_13, pu9_13, gu9_14, pu9_14, gu9_15, pu9_15, gu9_16, pu9_16, gu9_17, pu9_17, gu9_18, pu9_18, gu9_19, pu9_19, gu9_20, pu9_20, gu9_21, pu9_21, gu9_22, gu9_23, gu9_24, gu9_25, gu9_26, gu9_27, pu9_27, gu9_28, gu9_29, pu9_29, gu9_30, gu9_31, gu9_32, pu9_32, gu9_33, pu9_33, gu9_34, gu9_35, gu9_36, pu9_36, gu9_37, gu9_38, pu9_38, gu9_39, bS_4, nI_add]
    rfl
  · have := s2 z
    have c := cf_0 (oo_0 z).2
    unfold clA'
    rw [if_pos c]
    exact this
set_option maxHeartbeats 4000000 in
theorem m_lens {T : Nat → Nat} {n a p npl ntl sg co : Nat} {S : SS} {F0 : Nat × Nat} (hn : n ≤ 250) (hT : ∀ i, i < n → T i < 256) (ha : a ≤ n) (hSn : S 12 3 = n) (hF0 : FOk n F0) (hp : p < 7) :
    ∀ (k m : Nat) (H : AH) (at' pl tk v f : Int32) (g L : Nat → Int32), m + k = cL T n a → 1 ≤ m → H.2.2 98 = some (iA 250 (fun i => nI (T i))) → H.2.2 88 = some (oMk (bS S p npl ntl sg co) at' pl tk v f (nI (FL T n a F0 m).1) (fI (FL T n a F0 m).2)) → ((FL T n a F0 m).1 = 0 → MTk T n (nb T n (pL T n a (m - 1))) at' pl tk v f) → H.2.2 102 = some (iA 7 g) → g p = nI m → H.2.2 103 = some (iA 28 L) → ((FL T n a F0 m).1 = 0 → ∀ j, j < m → L (4 * p + j) = nI (vl T n (pL T n a j))) →
      ∃ h' at2 pl2 tk2 v2 f2 g' L', Run M_X9_readPart 136 [.ref 88, .int (nI p)] [] H = some (h', none) ∧ h'.2.2 88 = some (oMk (bS S (p + 1) npl ntl sg co) at2 pl2 tk2 v2 f2 (nI (oo (FL T n a F0 (cL T n a)) (cf T n (eL T n a))).1) (fI (oo (FL T n a F0 (cL T n a)) (cf T n (eL T n a))).2)) ∧ h'.2.2 102 = some (iA 7 g') ∧ h'.2.2 103 = some (iA 28 L') ∧ ((oo (FL T n a F0 (cL T n a)) (cf T n (eL T n a))).1 = 0 → MTk T n (clA' T n (eL T n a)) at2 pl2 tk2 v2 f2 ∧ g' p = nI (cL T n a) ∧ ∀ j, j < cL T n a → L' (4 * p + j) = nI (vl T n (pL T n a j))) ∧ (∀ q, q ≠ p → g' q = g q) ∧ (∀ i, i < 4 * p ∨ 4 * p + 4 ≤ i → L' i = L i) ∧ (∀ x, x ≠ 88 → x ≠ 102 → x ≠ 103 → h'.2.2 x = H.2.2 x) ∧ h'.1 = H.1 ∧ h'.2.1 = H.2.1 := by
  obtain ⟨c1, c2, c3, c4⟩ := cL_p T n a
  have el := eL_sk (T := T) ha
  intro k
  induction k with
  | zero =>
    intro m H at' pl tk v f g L hmk m1 h98 hm hk h102 hg h103 hL
    have hmc : m = cL T n a := by omega
    have hpm := pL_le (T := T) ha (m - 1) (by omega)
    have hnb := nb_le (T := T) hpm
    have hFm := FOk_FL (T := T) ha hF0 m (by omega)
    have ecf : cf T n (eL T n a) = cf T n (nb T n (pL T n a (m - 1))) := cf_sk (by rw [hmc]; exact el.1)
    have ecl : clA' T n (eL T n a) = clA' T n (nb T n (pL T n a (m - 1))) := cl_sk (by rw [hmc]; exact el.1)
    have wl := c_isWell hFm.1 hm
    by_cases q : (FL T n a F0 m).1 = 0
    · have kk := hk q
      rw [bI_t q] at wl
      have t4 := kk.tc (k := 4) (c := 44) (Or.inr ⟨rfl, rfl⟩)
      by_cases qc : isC T n (nb T n (pL T n a (m - 1))) 44
      · have m4 : m = 4 := by
          by_cases y : m < 4
          · exact absurd qc (by have := c4 (by omega); rw [← hmc] at this; exact this)
          · omega
        have hg4 : g p = nI 4 := by rw [hg, m4]
        have eF := hFm.2.1 q
        rw [← hmc, ecf, ecl]
        rw [eF] at hm ⊢
        have epl := kk.1
        subst epl
        have cW := c_failsW (x := nI 1) hm
        have hmX : (hup H 88 (oMk (bS S p npl ntl sg co) at' (nI (sk T n (nb T n (pL T n a (m - 1))))) tk v f (nI 1) (fI (sk T n (nb T n (pL T n a (m - 1))) + 1)))).2.2 88 = _ := hup_get
        have w2 := c_isWell (F := (1, sk T n (nb T n (pL T n a (m - 1))) + 1)) (show (1 : Nat) < 5 by decide) hmX
        rw [bI_f (show ¬ (1 : Nat) = 0 by decide)] at w2
        obtain ⟨at2, pl2, tk2, v2, f2, s1, s2⟩ := m_fin (F := (1, sk T n (nb T n (pL T n a (m - 1))) + 1)) hn hT hnb hSn (FOk.mk (by decide) (by decide) (sk_le hnb)) ((hup_ne (by decide)).trans h98) hmX (fun z => absurd z (show ¬ (1 : Nat) = 0 by decide))
        have nc : ¬ isC T n (nb T n (pL T n a (m - 1))) 59 := fun z => by have := z.2; have := qc.2; omega
        have ecf2 : cf T n (nb T n (pL T n a (m - 1))) = (1, sk T n (nb T n (pL T n a (m - 1))) + 1) := by unfold cf; rw [if_neg nc]
        rw [oo_i (show ¬ (1 : Nat) = 0 by decide), hup_hup] at s1
        rw [oo_w rfl, ecf2]
        have qct : isC T n (nb T n (pL T n a (m - 1))) 44 = True := eq_true qc
        refine ⟨_, at2, pl2, tk2, v2, f2, g, L, ?_, hup_get, (hup_ne (by decide)).trans h102, (hup_ne (by decide)).trans h103, fun z => absurd z (show ¬ (1 : Nat) = 0 by decide), fun _ _ => rfl, fun _ _ => rfl, fun x h1 h2 h3 => hup_ne h1, rfl, rfl⟩
        rw [← s1]
        rw [r_X9_readPart_136]
        simp only [r_X9_readPart_137, r_X9_readPart_140, r_X9_readPart_143, r_X9_readPart_144, r_X9_readPart_147, r_X9_readPart_148, r_X9_readPart_151, r_X9_readPart_152, r_X9_readPart_155, r_X9_readPart_156, r_X9_readPart_157, r_X9_readPart_158, r_X9_readPart_161, r_X9_readPart_162, r_X9_readPart_163, r_X9_readPart_166, ↓reduceIte, Option.isSome_some, Option.getD_some, rL_v, rL_n, cH_s, List.cons_append, List.nil_append, cat_i, cat_r, cat_n, ofN, ro9 hm, wl, ne10, g9_0 hm, g9_1 hm, g9_2 hm, g9_3 hm, g9_4 hm, g9_5 hm, g9_6 hm, g9_7 hm, g9_8 hm, g9_9 hm, g9_10 hm, g9_11 hm, g9_12 hm, g9_13 hm, g9_14 hm, g9_15 hm, g9_16 hm, g9_17 hm, g9_18 hm, g9_19 hm, g9_20 hm, g9_21 hm, g9_22 hm, g9_23 hm, g9_24 hm, g9_25 hm, g9_26 hm, g9_27 hm, g9_28 hm, g9_29 hm, g9_30 hm, g9_31 hm, g9_32 hm, g9_33 hm, g9_34 hm, g9_35 hm, g9_36 hm, g9_37 hm, g9_38 hm, g9_39 hm, ro9 hm, t4, qct, gI_nI h102 (by decide) hp, hg4, cW]
        rw [r_X9_readPart_136]
        simp only [r_X9_readPart_137, r_X9_readPart_140, ↓reduceIte, Option.isSome_some, Option.getD_some, rL_v, rL_n, cH_s, List.cons_append, List.nil_append, cat_i, cat_r, cat_n, ofN, ro9 hmX, w2]
      · obtain ⟨at2, pl2, tk2, v2, f2, s1, s2⟩ := m_fin hn hT hnb hSn hFm h98 hm (fun _ => kk)
        rw [← hmc, ecf, ecl]
        refine ⟨_, at2, pl2, tk2, v2, f2, g, L, ?_, hup_get, (hup_ne (by decide)).trans h102, (hup_ne (by decide)).trans h103, fun z => ⟨s2 z, hg, hL q⟩, fun _ _ => rfl, fun _ _ => rfl, fun x h1 h2 h3 => hup_ne h1, rfl, rfl⟩
        rw [← s1]
        simp only [r_X9_readPart_136, r_X9_readPart_137, r_X9_readPart_140, r_X9_readPart_143, r_X9_readPart_144, r_X9_readPart_147, r_X9_readPart_148, ↓reduceIte, Option.isSome_some, Option.getD_some, rL_v, rL_n, cH_s, List.cons_append, List.nil_append, cat_i, cat_r, cat_n, ofN, ro9 hm, wl, ne10, g9_0 hm, g9_1 hm, g9_2 hm, g9_3 hm, g9_4 hm, g9_5 hm, g9_6 hm, g9_7 hm, g9_8 hm, g9_9 hm, g9_10 hm, g9_11 hm, g9_12 hm, g9_13 hm, g9_14 hm, g9_15 hm, g9_16 hm, g9_17 hm, g9_18 hm, g9_19 hm, g9_20 hm, g9_21 hm, g9_22 hm, g9_23 hm, g9_24 hm, g9_25 hm, g9_26 hm, g9_27 hm, g9_28 hm, g9_29 hm, g9_30 hm, g9_31 hm, g9_32 hm, g9_33 hm, g9_34 hm, g9_35 hm, g9_36 hm, g9_37 hm, g9_38 hm, g9_39 hm, ro9 hm, t4, qc]
    · rw [bI_f q] at wl
      obtain ⟨at2, pl2, tk2, v2, f2, s1, s2⟩ := m_fin hn hT hnb hSn hFm h98 hm (fun z => absurd z q)
      rw [← hmc, ecf, ecl]
      refine ⟨_, at2, pl2, tk2, v2, f2, g, L, ?_, hup_get, (hup_ne (by decide)).trans h102, (hup_ne (by decide)).trans h103, fun z => absurd (oo_0 z).1 q, fun _ _ => rfl, fun _ _ => rfl, fun x h1 h2 h3 => hup_ne h1, rfl, rfl⟩
      rw [← s1]
      simp only [r_X9_readPart_136, r_X9_readPart_137, r_X9_readPart_140, ↓reduceIte, Option.isSome_some, Option.getD_some, rL_v, rL_n, cH_s, List.cons_append, List.nil_append, cat_i, cat_r, cat_n, ofN, ro9 hm, wl]
  | succ k ih =>
    intro m H at' pl tk v f g L hmk m1 h98 hm hk h102 hg h103 hL
    have hpm := pL_le (T := T) ha (m - 1) (by omega)
    have hpm2 := pL_le (T := T) ha m (by omega)
    have hnb := nb_le (T := T) hpm
    have hFm := FOk_FL (T := T) ha hF0 m (by omega)
    have wl := c_isWell hFm.1 hm
    have qc : isC T n (nb T n (pL T n a (m - 1))) 44 := c3 (m - 1) (by omega)
    have epm : sk T n (nb T n (pL T n a (m - 1))) + 1 = pL T n a m := by
      rw [show pL T n a m = pL T n a ((m - 1) + 1) by rw [show m - 1 + 1 = m by omega]]
      rfl
    by_cases q : (FL T n a F0 m).1 = 0
    · have kk := hk q
      rw [bI_t q] at wl
      have t4 := kk.tc (k := 4) (c := 44) (Or.inr ⟨rfl, rfl⟩)
      have qct : isC T n (nb T n (pL T n a (m - 1))) 44 = True := eq_true qc
      obtain ⟨e1, -, -⟩ := kk.a1 (by decide) qc
      rw [epm] at e1
      subst e1
      obtain ⟨at2, pl2, tk2, v2, f2, n1, n2⟩ := c_next (b := bS S p npl ntl sg co) hn hT hpm2 (by rw [← hSn]; rfl) h98 hm
      generalize hG1 : hup H 88 (oMk (bS S p npl ntl sg co) at2 pl2 tk2 v2 f2 (nI (FL T n a F0 m).1) (fI (FL T n a F0 m).2)) = G1 at n1
      have A88 : G1.2.2 88 = some (oMk (bS S p npl ntl sg co) at2 pl2 tk2 v2 f2 (nI (FL T n a F0 m).1) (fI (FL T n a F0 m).2)) := by rw [← hG1]; exact hup_get
      have Af : ∀ x, x ≠ 88 → G1.2.2 x = H.2.2 x := fun x hx => by rw [← hG1]; exact hup_ne hx
      obtain ⟨at3, pl3, tk3, v3, f3, r, u1, u2⟩ := c_mnum (b := bS S p npl ntl sg co) (lo := 1) (hi := 60) (no := 0) hn hT hpm2 (by rw [← hSn]; rfl) hFm (by decide) (by decide) (by decide) ((Af 98 (by decide)).trans h98) A88 (fun _ => n2)
      rw [nfm_0] at u1 u2
      have eFL : oo (FL T n a F0 m) (nf T n (pL T n a m) 1 60) = FL T n a F0 (m + 1) := rfl
      rw [eFL] at u1 u2
      generalize hG2 : hup G1 88 (oMk (bS S p npl ntl sg co) at3 pl3 tk3 v3 f3 (nI (FL T n a F0 (m + 1)).1) (fI (FL T n a F0 (m + 1)).2)) = G2 at u1
      have B88 : G2.2.2 88 = some (oMk (bS S p npl ntl sg co) at3 pl3 tk3 v3 f3 (nI (FL T n a F0 (m + 1)).1) (fI (FL T n a F0 (m + 1)).2)) := by rw [← hG2]; exact hup_get
      have Bf : ∀ x, x ≠ 88 → G2.2.2 x = H.2.2 x := fun x hx => by rw [← hG2, hup_ne hx]; exact Af x hx
      generalize hG3 : hup G2 103 (iA 28 (upd L (4 * p + m) r)) = G3
      have C88 : G3.2.2 88 = some (oMk (bS S p npl ntl sg co) at3 pl3 tk3 v3 f3 (nI (FL T n a F0 (m + 1)).1) (fI (FL T n a F0 (m + 1)).2)) := by rw [← hG3, hup_ne (by decide)]; exact B88
      have C102 : G3.2.2 102 = some (iA 7 g) := by rw [← hG3, hup_ne (by decide), Bf 102 (by decide)]; exact h102
      have C103 : G3.2.2 103 = some (iA 28 (upd L (4 * p + m) r)) := by rw [← hG3]; exact hup_get
      generalize hG4 : hup G3 102 (iA 7 (upd g p (nI (m + 1)))) = G4
      have D88 : G4.2.2 88 = some (oMk (bS S p npl ntl sg co) at3 pl3 tk3 v3 f3 (nI (FL T n a F0 (m + 1)).1) (fI (FL T n a F0 (m + 1)).2)) := by rw [← hG4, hup_ne (by decide), ← hG3, hup_ne (by decide)]; exact B88
      have D102 : G4.2.2 102 = some (iA 7 (upd g p (nI (m + 1)))) := by rw [← hG4]; exact hup_get
      have D103 : G4.2.2 103 = some (iA 28 (upd L (4 * p + m) r)) := by rw [← hG4, hup_ne (by decide)]; exact C103
      have Df : ∀ x, x ≠ 88 → x ≠ 102 → x ≠ 103 → G4.2.2 x = H.2.2 x := fun x h1 h2 h3 => by rw [← hG4, hup_ne h2, ← hG3, hup_ne h3]; exact Bf x h1
      obtain ⟨h', a5, p5, t5, v5, f5, g', L', i1, i2, i3, i4, i5, i6, i7, i8, i9, i10⟩ := ih (m + 1) G4 at3 pl3 tk3 v3 f3 (upd g p (nI (m + 1))) (upd L (4 * p + m) r) (by omega) (by omega) ((Df 98 (by decide) (by decide) (by decide)).trans h98) D88 (fun z => (u2 z).1) D102 pk_us D103 (fun z j hj => by
        have y := oo_0 (F := FL T n a F0 m) (o := nf T n (pL T n a m) 1 60) z
        by_cases e : j = m
        · subst e; rw [pk_us]; exact (u2 z).2
        · rw [pk_un (by omega)]; exact hL y.1 j (by omega))
      refine ⟨h', a5, p5, t5, v5, f5, g', L', ?_, i2, i3, i4, i5, fun q hq => by rw [i6 q hq, pk_un hq], fun i hi => by rw [i7 i hi, pk_un (by omega)], fun x h1 h2 h3 => by rw [i8 x h1 h2 h3]; exact Df x h1 h2 h3, by rw [i9, ← hG4, ← hG3, ← hG2, ← hG1]; rfl, by rw [i10, ← hG4, ← hG3, ← hG2, ← hG1]; rfl⟩
      rw [← i1]
      have cm4 : (nI m = nI 4) = (m = 4) := nI_inj (by omega) (by decide)
      have m4 : ¬ m = 4 := by omega
      have hm2 := (Af 102 (by decide)).trans h102
      have B103 : G2.2.2 103 = some (iA 28 L) := (Bf 103 (by decide)).trans h103
      rw [r_X9_readPart_136]
      simp only [r_X9_readPart_137, r_X9_readPart_140, r_X9_readPart_143, r_X9_readPart_144, r_X9_readPart_147, r_X9_readPart_148, r_X9_readPart_151, r_X9_readPart_152, r_X9_readPart_155, r_X9_readPart_156, r_X9_readPart_157, r_X9_readPart_158, r_X9_readPart_161, r_X9_readPart_162, r_X9_readPart_163, r_X9_readPart_166, r_X9_readPart_169, r_X9_readPart_170, ↓reduceIte, Option.isSome_some, Option.getD_some, rL_v, rL_n, cH_s, List.cons_append, List.nil_append, cat_i, cat_r, cat_n, ofN, ro9 hm, wl, ne10, g9_0 hm, g9_1 hm, g9_2 hm, g9_3 hm, g9_4 hm, g9_5 hm, g9_6 hm, g9_7 hm, g9_8 hm, g9_9 hm, g9_10 hm, g9_11 hm, g9_12 hm, g9_13 hm, g9_14 hm, g9_15 hm, g9_16 hm, g9_17 hm, g9_18 hm, g9_19 hm, g9_20 hm, g9_21 hm, g9_22 hm, g9_23 hm, g9_24 hm, g9_25 hm, g9_26 hm, g9_27 hm, g9_28 hm, g9_29 hm, g9_30 hm, g9_31 hm, g9_32 hm, g9_33 hm, g9_34 hm, g9_35 hm, g9_36 hm, g9_37 hm, g9_38 hm, g9_39 hm, ro9 hm, t4, qct, gI_nI h102 (by decide) hp, hg, cm4, m4, n1]
      simp only [r_X9_readPart_173, r_X9_readPart_174, r_X9_readPart_177, r_X9_readPart_178, r_X9_readPart_179, r_X9_readPart_180, r_X9_readPart_181, r_X9_readPart_184, r_X9_readPart_185, r_X9_readPart_186, r_X9_readPart_187, r_X9_readPart_188, r_X9_readPart_189, r_X9_readPart_191, r_X9_readPart_192, ↓reduceIte, Option.isSome_some, Option.getD_some, rL_v, rL_n, cH_s, List.cons_append, List.nil_append, cat_i, cat_r, cat_n, ofN, g9_0 A88, g9_1 A88, g9_2 A88, g9_3 A88, g9_4 A88, g9_5 A88, g9_6 A88, g9_7 A88, g9_8 A88, g9_9 A88, g9_10 A88, g9_11 A88, g9_12 A88, g9_13 A88, g9_14 A88, g9_15 A88, g9_16 A88, g9_17 A88, g9_18 A88, g9_19 A88, g9_20 A88, g9_21 A88, g9_22 A88, g9_23 A88, g9_24 A88, g9_25 A88, g9_26 A88, g9_27 A88, g9_28 A88, g9_29 A88, g9_30 A88, g9_31 A88, g9_32 A88, g9_33 A88, g9_34 A88, g9_35 A88, g9_36 A88, g9_37 A88, g9_38 A88, g9_39 A88, ro9 A88, nI_m, gI_nI hm2 (by decide) hp, hg, nI_add, u1]
      simp only [r_X9_readPart_195, r_X9_readPart_196, r_X9_readPart_197, r_X9_readPart_200, r_X9_readPart_201, r_X9_readPart_202, r_X9_readPart_203, r_X9_readPart_204, r_X9_readPart_205, r_X9_readPart_206, ↓reduceIte, Option.isSome_some, Option.getD_some, rL_v, rL_n, cH_s, List.cons_append, List.nil_append, cat_i, cat_r, cat_n, ofN, pI_nI B103 (by decide) (show 103 ≠ 0 by decide) (show 4 * p + m < 28 by omega), hG3, g9_0 C88, g9_1 C88, g9_2 C88, g9_3 C88, g9_4 C88, g9_5 C88, g9_6 C88, g9_7 C88, g9_8 C88, g9_9 C88, g9_10 C88, g9_11 C88, g9_12 C88, g9_13 C88, g9_14 C88, g9_15 C88, g9_16 C88, g9_17 C88, g9_18 C88, g9_19 C88, g9_20 C88, g9_21 C88, g9_22 C88, g9_23 C88, g9_24 C88, g9_25 C88, g9_26 C88, g9_27 C88, g9_28 C88, g9_29 C88, g9_30 C88, g9_31 C88, g9_32 C88, g9_33 C88, g9_34 C88, g9_35 C88, g9_36 C88, g9_37 C88, g9_38 C88, g9_39 C88, ro9 C88, gI_nI C102 (by decide) hp, hg, nI_add, pI_nI C102 (by decide) (show 102 ≠ 0 by decide) hp, hG4]
    · rw [bI_f q] at wl
      have eC : FL T n a F0 (cL T n a) = FL T n a F0 m := by rw [← hmk]; exact FL_ill q _
      obtain ⟨at2, pl2, tk2, v2, f2, s1, s2⟩ := m_fin hn hT hnb hSn hFm h98 hm (fun z => absurd z q)
      rw [oo_i q] at s1
      rw [eC, oo_i q]
      refine ⟨_, at2, pl2, tk2, v2, f2, g, L, ?_, hup_get, (hup_ne (by decide)).trans h102, (hup_ne (by decide)).trans h103, fun z => absurd z q, fun _ _ => rfl, fun _ _ => rfl, fun x h1 h2 h3 => hup_ne h1, rfl, rfl⟩
      rw [← s1]
      simp only [r_X9_readPart_136, r_X9_readPart_137, r_X9_readPart_140, ↓reduceIte, Option.isSome_some, Option.getD_some, rL_v, rL_n, cH_s, List.cons_append, List.nil_append, cat_i, cat_r, cat_n, ofN, ro9 hm, wl]
/-! what the model has been told so far -/
def SaX (h : AH) : Prop := (∀ a, 99 ≤ a → a ≤ 102 → ∃ f, h.2.2 a = some (iA 7 f)) ∧ (∃ f, h.2.2 103 = some (iA 28 f)) ∧ (∃ f, h.2.2 104 = some (iA 10 f)) ∧ (∃ f, h.2.2 105 = some (iA 10 f)) ∧ ∃ f, h.2.2 106 = some (iA 5 f)
def SaR (h : AH) (Q : SS) : Prop := (∃ f, h.2.2 99 = some (iA 7 f) ∧ ∀ p, p < Q 12 0 → f p = nI (Q 3 p)) ∧ (∃ f, h.2.2 100 = some (iA 7 f) ∧ ∀ p, p < Q 12 0 → f p = nI (Q 4 p)) ∧ (∃ f, h.2.2 101 = some (iA 7 f) ∧ ∀ p, p < Q 12 0 → f p = nI (Q 5 p)) ∧ (∃ f, h.2.2 102 = some (iA 7 f) ∧ ∀ p, p < Q 12 0 → f p = nI (Q 6 p)) ∧ (∃ f, h.2.2 103 = some (iA 28 f) ∧ ∀ p, p < Q 12 0 → ∀ i, i < Q 6 p → f (4 * p + i) = nI (Q 7 (4 * p + i))) ∧ (∃ f, h.2.2 104 = some (iA 10 f) ∧ ∀ p, p < Q 12 1 → f (2 * p) = nI (Q 0 (5 + 2 * p)) ∧ f (2 * p + 1) = nI (Q 0 (5 + 2 * p + 1))) ∧ (∃ f, h.2.2 105 = some (iA 10 f) ∧ ∀ i, i < Q 12 2 → f (2 * i) = nI (Q 8 (2 * i)) ∧ f (2 * i + 1) = nI (Q 8 (2 * i + 1))) ∧ ∃ f, h.2.2 106 = some (iA 5 f) ∧ ∀ k, k < 5 → f k = nI (Q 0 k)
theorem SaR.x {h : AH} {Q : SS} (r : SaR h Q) : SaX h := by
  obtain ⟨⟨f1, a1, -⟩, ⟨f2, a2, -⟩, ⟨f3, a3, -⟩, ⟨f4, a4, -⟩, ⟨f5, a5, -⟩, ⟨f6, a6, -⟩, ⟨f7, a7, -⟩, ⟨f8, a8, -⟩⟩ := r
  refine ⟨fun a h1 h2 => ?_, ⟨f5, a5⟩, ⟨f6, a6⟩, ⟨f7, a7⟩, ⟨f8, a8⟩⟩
  rcases (show a = 99 ∨ a = 100 ∨ a = 101 ∨ a = 102 by omega) with rfl | rfl | rfl | rfl
  · exact ⟨f1, a1⟩
  · exact ⟨f2, a2⟩
  · exact ⟨f3, a3⟩
  · exact ⟨f4, a4⟩
theorem SaX.fr {h h' : AH} (hf : ∀ x, 99 ≤ x → x ≤ 106 → h'.2.2 x = h.2.2 x) (r : SaX h) : SaX h' := by
  obtain ⟨r1, r2, r3, r4, r5⟩ := r
  refine ⟨fun a h1 h2 => ?_, ?_, ?_, ?_, ?_⟩
  · rw [hf a h1 (by omega)]; exact r1 a h1 h2
  · rw [hf _ (by omega) (by omega)]; exact r2
  · rw [hf _ (by omega) (by omega)]; exact r3
  · rw [hf _ (by omega) (by omega)]; exact r4
  · rw [hf _ (by omega) (by omega)]; exact r5
theorem SaR.fr {h h' : AH} {Q : SS} (hf : ∀ x, 99 ≤ x → x ≤ 106 → h'.2.2 x = h.2.2 x) (r : SaR h Q) : SaR h' Q := by
  unfold SaR
  rw [hf 99 (by omega) (by omega), hf 100 (by omega) (by omega), hf 101 (by omega) (by omega), hf 102 (by omega) (by omega), hf 103 (by omega) (by omega), hf 104 (by omega) (by omega), hf 105 (by omega) (by omega), hf 106 (by omega) (by omega)]
  exact r
/-- what a clause leaves of the model -/
def ClM (h h' : AH) (T : Nat → Nat) (n : Nat) (S : SS) (F : Nat × Nat) (a : Nat) (Q : SS) (sg co : Nat) : Prop := (∃ at' pl tk v f np npl ntl sg' co', h'.2.2 88 = some (oMk (bS S np npl ntl sg' co') at' pl tk v f (nI F.1) (fI F.2)) ∧ (F.1 = 0 → MTk T n a at' pl tk v f ∧ np = Q 12 0 ∧ npl = Q 12 1 ∧ ntl = Q 12 2 ∧ sg' = sg ∧ co' = co)) ∧ SaX h' ∧ (F.1 = 0 → SaR h' Q) ∧ (∀ x, x ≠ 88 → x < 99 ∨ 106 < x → h'.2.2 x = h.2.2 x) ∧ h'.1 = h.1 ∧ h'.2.1 = h.2.1
theorem ClM.fail {h : AH} {T : Nat → Nat} {n : Nat} {S : SS} {F : Nat × Nat} {a : Nat} {Q : SS} {sg co np npl ntl sg' co' : Nat} {at' pl tk v f : Int32} (hF : F.1 ≠ 0) (hX : SaX h) : ClM h (hup h 88 (oMk (bS S np npl ntl sg' co') at' pl tk v f (nI F.1) (fI F.2))) T n S F a Q sg co :=
  ⟨⟨at', pl, tk, v, f, np, npl, ntl, sg', co', hup_get, fun e => absurd e hF⟩, hX.fr (fun x _ _ => hup_ne (by omega)), fun e => absurd e hF, fun x h1 _ => hup_ne h1, rfl, rfl⟩
theorem c_mostP {h : AH} {q : Nat} (hq : q < 100) : Call M_X9_most h [.int (nI q), .int (nI 0)] = some (h, some (.int (nI q))) := by
  have z : (nI q ≤ nI 0) = (q ≤ 0) := nI_le' (by omega) (by decide)
  show Run M_X9_most 0 [.int (nI q), .int (nI 0)] [] h = _
  by_cases y : q ≤ 0
  · have e : q = 0 := by omega
    subst e
    have z2 : nI 0 ≤ nI 0 := by decide
    simp only [r_X9_most_0, r_X9_most_1, r_X9_most_2, r_X9_most_5, r_X9_most_6, r_X9_most_9, r_X9_most_10, ↓reduceIte, Option.isSome_some, Option.getD_some, rL_v, rL_n, cH_s, List.cons_append, List.nil_append, cat_i, cat_r, cat_n, ofN, z2]
  · simp only [r_X9_most_0, r_X9_most_1, r_X9_most_2, r_X9_most_5, r_X9_most_6, r_X9_most_10, ↓reduceIte, Option.isSome_some, Option.getD_some, rL_v, rL_n, cH_s, List.cons_append, List.nil_append, cat_i, cat_r, cat_n, ofN, z, y]
set_option maxHeartbeats 4000000 in
theorem m_readPart {h : AH} {T : Nat → Nat} {n a sg co : Nat} {S Q : SS} {at' pl tk v f : Int32} (hn : n ≤ 250) (hT : ∀ i, i < n → T i < 256) (ha : a < n) (hTa : T a = 112) (hSn : S 12 3 = n) (hQ : HOk Q) (h98 : h.2.2 98 = some (iA 250 (fun i => nI (T i)))) (hm : h.2.2 88 = some (oMk (bS S (Q 12 0) (Q 12 1) (Q 12 2) sg co) at' pl tk v f (nI 0) (fI 0))) (k : MTk T n a at' pl tk v f) (hS : SaR h Q) :
    ∃ h', Call M_X9_readPart h [.ref 88] = some (h', none) ∧ ClM h h' T n S (Fp T n a Q) (apt T n a) (Qpt T n a Q) sg co := by
  have h7 := hQ.1
  have sa : sk T n a = a := sk_n (fun z => by have := z.2; omega)
  have hC : isC T n a 112 := ⟨by rw [sa]; exact ha, by rw [sa]; exact hTa⟩
  have hX := hS.x
  obtain ⟨⟨f1, q1, q1'⟩, ⟨f2, q2, q2'⟩, ⟨f3, q3, q3'⟩, ⟨f4, q4, q4'⟩, ⟨f5, q5, q5'⟩, q6, q7, q8⟩ := id hS
  generalize hfu : (if 7 ≤ Q 12 0 then 1 else 0) = fu
  generalize hbe : (if 0 < Q 12 0 ∧ Q 3 (Q 12 0 - 1) = 3 then 1 else 0) = be
  have fu1 : fu ≤ 1 := by rw [← hfu]; split <;> omega
  have be1 : be ≤ 1 := by rw [← hbe]; split <;> omega
  obtain ⟨at2, pl2, tk2, v2, f2', n1, n2⟩ := c_begins (b := bS S (Q 12 0) (Q 12 1) (Q 12 2) sg co) (c := 112) hn hT (by omega) (by rw [← hSn]; rfl) (by decide) hC fu1 be1 h98 hm k
  rw [sa] at n1 n2
  have T0 : Run M_X9_readPart 0 [.ref 88, .null] [] h = Run M_X9_readPart 46 [.ref 88, .null] [.int (nI be), .int (nI fu), .ref 88] h := by
    have e7 : (nI (Q 12 0) = nI 7) = (Q 12 0 = 7) := nI_inj (by omega) (by decide)
    have e0 : (nI (Q 12 0) ≤ nI 0) = (Q 12 0 ≤ 0) := nI_le' (by omega) (by decide)
    have T1 : Run M_X9_readPart 0 [.ref 88, .null] [] h = Run M_X9_readPart 15 [.ref 88, .null] [.int (nI fu), .ref 88] h := by
      by_cases y : Q 12 0 = 7
      · rw [if_pos (by omega)] at hfu
        subst hfu
        rw [r_X9_readPart_0]
        simp only [r_X9_readPart_1, r_X9_readPart_2, r_X9_readPart_5, ↓reduceIte, Option.isSome_some, Option.getD_some, rL_v, rL_n, cH_s, List.cons_append, List.nil_append, cat_i, cat_r, cat_n, ofN, g9_0 hm, g9_1 hm, g9_2 hm, g9_3 hm, g9_4 hm, g9_5 hm, g9_6 hm, g9_7 hm, g9_8 hm, g9_9 hm, g9_10 hm, g9_11 hm, g9_12 hm, g9_13 hm, g9_14 hm, g9_15 hm, g9_16 hm, g9_17 hm, g9_18 hm, g9_19 hm, g9_20 hm, g9_21 hm, g9_22 hm, g9_23 hm, g9_24 hm, g9_25 hm, g9_26 hm, g9_27 hm, g9_28 hm, g9_29 hm, g9_30 hm, g9_31 hm, g9_32 hm, g9_33 hm, g9_34 hm, g9_35 hm, g9_36 hm, g9_37 hm, g9_38 hm, g9_39 hm, ro9 hm, bS_4]
        rw [r_X9_readPart_7, if_pos (by rw [e7]; exact y)]
        simp only [r_X9_readPart_10, r_X9_readPart_11, ↓reduceIte, Option.isSome_some, Option.getD_some, rL_v, rL_n, cH_s, List.cons_append, List.nil_append, cat_i, cat_r, cat_n, ofN]
      · rw [if_neg (by omega)] at hfu
        subst hfu
        rw [r_X9_readPart_0]
        simp only [r_X9_readPart_1, r_X9_readPart_2, r_X9_readPart_5, ↓reduceIte, Option.isSome_some, Option.getD_some, rL_v, rL_n, cH_s, List.cons_append, List.nil_append, cat_i, cat_r, cat_n, ofN, g9_0 hm, g9_1 hm, g9_2 hm, g9_3 hm, g9_4 hm, g9_5 hm, g9_6 hm, g9_7 hm, g9_8 hm, g9_9 hm, g9_10 hm, g9_11 hm, g9_12 hm, g9_13 hm, g9_14 hm, g9_15 hm, g9_16 hm, g9_17 hm, g9_18 hm, g9_19 hm, g9_20 hm, g9_21 hm, g9_22 hm, g9_23 hm, g9_24 hm, g9_25 hm, g9_26 hm, g9_27 hm, g9_28 hm, g9_29 hm, g9_30 hm, g9_31 hm, g9_32 hm, g9_33 hm, g9_34 hm, g9_35 hm, g9_36 hm, g9_37 hm, g9_38 hm, g9_39 hm, ro9 hm, bS_4]
        rw [r_X9_readPart_7, if_neg (by rw [e7]; exact y)]
        simp only [r_X9_readPart_14, ↓reduceIte, Option.isSome_some, Option.getD_some, rL_v, rL_n, cH_s, List.cons_append, List.nil_append, cat_i, cat_r, cat_n, ofN]
    rw [T1]
    by_cases y : Q 12 0 ≤ 0
    · rw [if_neg (by omega)] at hbe
      subst hbe
      simp only [r_X9_readPart_15, r_X9_readPart_16, r_X9_readPart_19, r_X9_readPart_45, ↓reduceIte, Option.isSome_some, Option.getD_some, rL_v, rL_n, cH_s, List.cons_append, List.nil_append, cat_i, cat_r, cat_n, ofN, g9_0 hm, g9_1 hm, g9_2 hm, g9_3 hm, g9_4 hm, g9_5 hm, g9_6 hm, g9_7 hm, g9_8 hm, g9_9 hm, g9_10 hm, g9_11 hm, g9_12 hm, g9_13 hm, g9_14 hm, g9_15 hm, g9_16 hm, g9_17 hm, g9_18 hm, g9_19 hm, g9_20 hm, g9_21 hm, g9_22 hm, g9_23 hm, g9_24 hm, g9_25 hm, g9_26 hm, g9_27 hm, g9_28 hm, g9_29 hm, g9_30 hm, g9_31 hm, g9_32 hm, g9_33 hm, g9_34 hm, g9_35 hm, g9_36 hm, g9_37 hm, g9_38 hm, g9_39 hm, ro9 hm, bS_4, e0, y]
    · have hq3 := (hQ.2 (Q 12 0 - 1) (by omega)).1
      have e3 : (nI (Q 3 (Q 12 0 - 1)) = nI 3) = (Q 3 (Q 12 0 - 1) = 3) := nI_inj (by omega) (by decide)
      by_cases z : Q 3 (Q 12 0 - 1) = 3
      · rw [if_pos ⟨by omega, z⟩] at hbe
        subst hbe
        simp only [r_X9_readPart_15, r_X9_readPart_16, r_X9_readPart_19, r_X9_readPart_22, r_X9_readPart_23, r_X9_readPart_26, r_X9_readPart_27, r_X9_readPart_30, r_X9_readPart_31, r_X9_readPart_32, r_X9_readPart_33, r_X9_readPart_36, r_X9_readPart_37, r_X9_readPart_38, r_X9_readPart_41, r_X9_readPart_42, ↓reduceIte, Option.isSome_some, Option.getD_some, rL_v, rL_n, cH_s, List.cons_append, List.nil_append, cat_i, cat_r, cat_n, ofN, g9_0 hm, g9_1 hm, g9_2 hm, g9_3 hm, g9_4 hm, g9_5 hm, g9_6 hm, g9_7 hm, g9_8 hm, g9_9 hm, g9_10 hm, g9_11 hm, g9_12 hm, g9_13 hm, g9_14 hm, g9_15 hm, g9_16 hm, g9_17 hm, g9_18 hm, g9_19 hm, g9_20 hm, g9_21 hm, g9_22 hm, g9_23 hm, g9_24 hm, g9_25 hm, g9_26 hm, g9_27 hm, g9_28 hm, g9_29 hm, g9_30 hm, g9_31 hm, g9_32 hm, g9_33 hm, g9_34 hm, g9_35 hm, g9_36 hm, g9_37 hm, g9_38 hm, g9_39 hm, ro9 hm, bS_4, e0, y, nI_s (show 1 ≤ Q 12 0 by omega), c_mostP (show Q 12 0 - 1 < 100 by omega), gI_nI q1 (by decide) (show Q 12 0 - 1 < 7 by omega), q1' (Q 12 0 - 1) (by omega), e3, z]
      · rw [if_neg (fun w => z w.2)] at hbe
        subst hbe
        simp only [r_X9_readPart_15, r_X9_readPart_16, r_X9_readPart_19, r_X9_readPart_22, r_X9_readPart_23, r_X9_readPart_26, r_X9_readPart_27, r_X9_readPart_30, r_X9_readPart_31, r_X9_readPart_32, r_X9_readPart_33, r_X9_readPart_36, r_X9_readPart_37, r_X9_readPart_38, r_X9_readPart_45, ↓reduceIte, Option.isSome_some, Option.getD_some, rL_v, rL_n, cH_s, List.cons_append, List.nil_append, cat_i, cat_r, cat_n, ofN, g9_0 hm, g9_1 hm, g9_2 hm, g9_3 hm, g9_4 hm, g9_5 hm, g9_6 hm, g9_7 hm, g9_8 hm, g9_9 hm, g9_10 hm, g9_11 hm, g9_12 hm, g9_13 hm, g9_14 hm, g9_15 hm, g9_16 hm, g9_17 hm, g9_18 hm, g9_19 hm, g9_20 hm, g9_21 hm, g9_22 hm, g9_23 hm, g9_24 hm, g9_25 hm, g9_26 hm, g9_27 hm, g9_28 hm, g9_29 hm, g9_30 hm, g9_31 hm, g9_32 hm, g9_33 hm, g9_34 hm, g9_35 hm, g9_36 hm, g9_37 hm, g9_38 hm, g9_39 hm, ro9 hm, bS_4, e0, y, nI_s (show 1 ≤ Q 12 0 by omega), c_mostP (show Q 12 0 - 1 < 100 by omega), gI_nI q1 (by decide) (show Q 12 0 - 1 < 7 by omega), q1' (Q 12 0 - 1) (by omega), e3, z]
  have E : Call M_X9_readPart h [.ref 88] = Run M_X9_readPart 46 [.ref 88, .null] [.int (nI be), .int (nI fu), .ref 88] h := T0
  rw [E]
  clear E T0
  unfold Fp
  by_cases y7 : 7 ≤ Q 12 0
  · rw [if_pos y7] at hfu ⊢
    subst hfu
    rw [show Fbe 1 be (a + 1) = (3, a + 1) from rfl, bI_f (show ¬ (3 : Nat) = 0 by decide)] at n1
    refine ⟨_, ?_, ClM.fail (F := (3, a + 1)) (np := Q 12 0) (npl := Q 12 1) (ntl := Q 12 2) (sg' := sg) (co' := co) (at' := at2) (pl := pl2) (tk := tk2) (v := v2) (f := f2') (show (3 : Nat) ≠ 0 by decide) hX⟩
    simp only [r_X9_readPart_46, r_X9_readPart_49, r_X9_readPart_52, ↓reduceIte, Option.isSome_some, Option.getD_some, rL_v, rL_n, cH_s, List.cons_append, List.nil_append, cat_i, cat_r, cat_n, ofN, ro9 hm, n1]
  rw [if_neg y7] at hfu ⊢
  subst hfu
  by_cases yt : 0 < Q 12 0 ∧ Q 3 (Q 12 0 - 1) = 3
  · rw [if_pos yt] at hbe ⊢
    subst hbe
    rw [show Fbe 0 1 (a + 1) = (4, a + 1) from rfl, bI_f (show ¬ (4 : Nat) = 0 by decide)] at n1
    refine ⟨_, ?_, ClM.fail (F := (4, a + 1)) (np := Q 12 0) (npl := Q 12 1) (ntl := Q 12 2) (sg' := sg) (co' := co) (at' := at2) (pl := pl2) (tk := tk2) (v := v2) (f := f2') (show (4 : Nat) ≠ 0 by decide) hX⟩
    simp only [r_X9_readPart_46, r_X9_readPart_49, r_X9_readPart_52, ↓reduceIte, Option.isSome_some, Option.getD_some, rL_v, rL_n, cH_s, List.cons_append, List.nil_append, cat_i, cat_r, cat_n, ofN, ro9 hm, n1]
  rw [if_neg yt] at hbe ⊢
  subst hbe
  rw [show Fbe 0 0 (a + 1) = (0, 0) from rfl, bI_t rfl] at n1
  have k1 : MTk T n (a + 1) at2 pl2 tk2 v2 f2' := n2 rfl
  obtain ⟨l2, l3, l4, l5, l6, l7⟩ := p_le (T := T) ha
  have hp : Q 12 0 < 7 := by omega
  have o1 := FOk_nf (T := T) (n := n) (a := a + 1) (lo := 0) (hi := 3) (by omega)
  have o2 := (o1.oo (FOk_nf (T := T) (lo := 0) (hi := 7) l2)).oo (FOk_tf (T := T) (v := vl T n (a + 1)) l2)
  have o3 : FOk n (F3p T n a) := FOk_F3p ha
  have hb3 : bS S (Q 12 0) (Q 12 1) (Q 12 2) sg co 3 = nI n := by rw [← hSn]; rfl
  generalize hb : bS S (Q 12 0) (Q 12 1) (Q 12 2) sg co = b at hm n1 hb3
  have hb4 : b 4 = nI (Q 12 0) := by rw [← hb]; rfl
  generalize hH0 : hup h 88 (oMk b at2 pl2 tk2 v2 f2' (nI 0) (fI 0)) = H0 at n1
  have Z88 : H0.2.2 88 = some (oMk b at2 pl2 tk2 v2 f2' (nI 0) (fI 0)) := by rw [← hH0]; exact hup_get
  have Zf : ∀ x, x ≠ 88 → H0.2.2 x = h.2.2 x := fun x hx => by rw [← hH0]; exact hup_ne hx
  obtain ⟨w1, w2, w3, w4, w5, r1, N1, K1⟩ := c_mnum (b := b) (F := (0, 0)) (lo := 0) (hi := 3) (no := 0) hn hT (show a + 1 ≤ n by omega) hb3 FOk.z (by decide) (by decide) (by decide) ((Zf 98 (by decide)).trans h98) Z88 (fun _ => k1)
  rw [nfm_0, oo_w rfl] at N1 K1
  generalize hG1 : hup (hup H0 88 (oMk b w1 w2 w3 w4 w5 (nI (nf T n (a + 1) 0 3).1) (fI (nf T n (a + 1) 0 3).2))) 99 (iA 7 (upd f1 (Q 12 0) r1)) = G1
  have A88 : G1.2.2 88 = some (oMk b w1 w2 w3 w4 w5 (nI (nf T n (a + 1) 0 3).1) (fI (nf T n (a + 1) 0 3).2)) := by rw [← hG1, hup_ne (by decide)]; exact hup_get
  have A99 : G1.2.2 99 = some (iA 7 (upd f1 (Q 12 0) r1)) := by rw [← hG1]; exact hup_get
  have Af : ∀ x, x ≠ 88 → x ≠ 99 → G1.2.2 x = h.2.2 x := fun x y z => by rw [← hG1, hup_ne z, hup_ne y]; exact Zf x y
  generalize hno : (if r1 = nI 3 then 4 else 0) = no
  have no5 : no < 5 := by rw [← hno]; split <;> omega
  obtain ⟨x1, x2, x3, x4, x5, r2, N2, K2⟩ := c_mnum (b := b) (lo := 0) (hi := 7) (no := no) hn hT l2 hb3 o1 (by decide) (by decide) no5 ((Af 98 (by decide) (by decide)).trans h98) A88 (fun z => (K1 z).1)
  have eF2 : oo (nf T n (a + 1) 0 3) (nfm T n (p2 T n a) 0 7 no) = oo (oo (nf T n (a + 1) 0 3) (nf T n (p2 T n a) 0 7)) (tf T n (vl T n (a + 1)) (p2 T n a)) := by
    by_cases z : (nf T n (a + 1) 0 3).1 = 0
    · have e := (K1 z).2
      have v9 := vl_le (T := T) (n := n) (a := a + 1) (by omega)
      have e2 : no = if vl T n (a + 1) = 3 then 4 else 0 := by
        rw [← hno, e]
        by_cases y : vl T n (a + 1) = 3
        · rw [if_pos y, if_pos (by rw [y])]
        · rw [if_neg y, if_neg (by rw [nI_inj (by omega) (by decide)]; exact y)]
      rw [e2, nfm_t, oo_assoc]
    · rw [oo_i z, oo_i z, oo_i z]
  rw [eF2] at N2 K2
  generalize hF2 : oo (oo (nf T n (a + 1) 0 3) (nf T n (p2 T n a) 0 7)) (tf T n (vl T n (a + 1)) (p2 T n a)) = F2 at N2 K2 o2
  generalize hG2 : hup (hup G1 88 (oMk b x1 x2 x3 x4 x5 (nI F2.1) (fI F2.2))) 100 (iA 7 (upd f2 (Q 12 0) r2)) = G2
  have B88 : G2.2.2 88 = some (oMk b x1 x2 x3 x4 x5 (nI F2.1) (fI F2.2)) := by rw [← hG2, hup_ne (by decide)]; exact hup_get
  have B100 : G2.2.2 100 = some (iA 7 (upd f2 (Q 12 0) r2)) := by rw [← hG2]; exact hup_get
  have Bf : ∀ x, x ≠ 88 → x ≠ 100 → G2.2.2 x = G1.2.2 x := fun x y z => by rw [← hG2, hup_ne z, hup_ne y]
  obtain ⟨y1, y2, y3, y4, y5, r3, N3, K3⟩ := c_mnum (b := b) (lo := 0) (hi := 11) (no := 0) hn hT l3 hb3 o2 (by decide) (by decide) (by decide) ((Bf 98 (by decide) (by decide)).trans ((Af 98 (by decide) (by decide)).trans h98)) B88 (fun z => (K2 z).1)
  have eF3 : oo F2 (nf T n (p3 T n a) 0 11) = F3p T n a := by rw [← hF2]; rfl
  rw [nfm_0, eF3] at N3 K3
  generalize hG3 : hup (hup G2 88 (oMk b y1 y2 y3 y4 y5 (nI (F3p T n a).1) (fI (F3p T n a).2))) 101 (iA 7 (upd f3 (Q 12 0) r3)) = G3
  have C88 : G3.2.2 88 = some (oMk b y1 y2 y3 y4 y5 (nI (F3p T n a).1) (fI (F3p T n a).2)) := by rw [← hG3, hup_ne (by decide)]; exact hup_get
  have C101 : G3.2.2 101 = some (iA 7 (upd f3 (Q 12 0) r3)) := by rw [← hG3]; exact hup_get
  have Cf : ∀ x, x ≠ 88 → x ≠ 101 → G3.2.2 x = G2.2.2 x := fun x y z => by rw [← hG3, hup_ne z, hup_ne y]
  have C98 : G3.2.2 98 = some (iA 250 (fun i => nI (T i))) := (Cf 98 (by decide) (by decide)).trans ((Bf 98 (by decide) (by decide)).trans ((Af 98 (by decide) (by decide)).trans h98))
  obtain ⟨z1, z2, z3, z4, z5, r4, N4, K4⟩ := c_mnum (b := b) (lo := 1) (hi := 60) (no := 0) hn hT l4 hb3 o3 (by decide) (by decide) (by decide) C98 C88 (fun z => (K3 z).1)
  rw [nfm_0] at N4 K4
  have eF4 : oo (F3p T n a) (nf T n (p4 T n a) 1 60) = FL T n (p4 T n a) (F3p T n a) 1 := rfl
  rw [eF4] at N4 K4
  generalize hG4 : hup (hup G3 88 (oMk b z1 z2 z3 z4 z5 (nI (FL T n (p4 T n a) (F3p T n a) 1).1) (fI (FL T n (p4 T n a) (F3p T n a) 1).2))) 103 (iA 28 (upd f5 (4 * Q 12 0) r4)) = G4
  have D88 : G4.2.2 88 = some (oMk b z1 z2 z3 z4 z5 (nI (FL T n (p4 T n a) (F3p T n a) 1).1) (fI (FL T n (p4 T n a) (F3p T n a) 1).2)) := by rw [← hG4, hup_ne (by decide)]; exact hup_get
  have D103 : G4.2.2 103 = some (iA 28 (upd f5 (4 * Q 12 0) r4)) := by rw [← hG4]; exact hup_get
  have Df : ∀ x, x ≠ 88 → x ≠ 103 → G4.2.2 x = G3.2.2 x := fun x y z => by rw [← hG4, hup_ne z, hup_ne y]
  have D102 : G4.2.2 102 = some (iA 7 f4) := by rw [Df 102 (by decide) (by decide), Cf 102 (by decide) (by decide), Bf 102 (by decide) (by decide), Af 102 (by decide) (by decide)]; exact q4
  generalize hG5 : hup G4 102 (iA 7 (upd f4 (Q 12 0) (nI 1))) = G5
  have E88 : G5.2.2 88 = some (oMk b z1 z2 z3 z4 z5 (nI (FL T n (p4 T n a) (F3p T n a) 1).1) (fI (FL T n (p4 T n a) (F3p T n a) 1).2)) := by rw [← hG5, hup_ne (by decide)]; exact D88
  have E102 : G5.2.2 102 = some (iA 7 (upd f4 (Q 12 0) (nI 1))) := by rw [← hG5]; exact hup_get
  have E103 : G5.2.2 103 = some (iA 28 (upd f5 (4 * Q 12 0) r4)) := by rw [← hG5, hup_ne (by decide)]; exact D103
  have Ef : ∀ x, x ≠ 102 → G5.2.2 x = G4.2.2 x := fun x y => by rw [← hG5, hup_ne y]
  have E98 : G5.2.2 98 = some (iA 250 (fun i => nI (T i))) := (Ef 98 (by decide)).trans ((Df 98 (by decide) (by decide)).trans C98)
  have cp := cL_p T n (p4 T n a)
  rw [← hb] at E88
  obtain ⟨h', a5, p5, t5, v5, e5, g', L', i1, i2, i3, i4, i5, i6, i7, i8, i9, i10⟩ := m_lens (S := S) hn hT l4 hSn o3 hp (cL T n (p4 T n a) - 1) 1 G5 z1 z2 z3 z4 z5 (upd f4 (Q 12 0) (nI 1)) (upd f5 (4 * Q 12 0) r4) (by omega) (by omega) E98 E88 (fun z => (K4 z).1) E102 pk_us E103 (fun z j hj => by
    have : j = 0 := by omega
    subst this
    rw [Nat.add_zero, pk_us]
    exact (K4 z).2)
  have eFp : oo (FL T n (p4 T n a) (F3p T n a) (cL T n (p4 T n a))) (cf T n (eL T n (p4 T n a))) = Fpt T n a := rfl
  rw [eFp] at i2 i5
  have J99 : h'.2.2 99 = some (iA 7 (upd f1 (Q 12 0) r1)) := by rw [i8 99 (by decide) (by decide) (by decide), Ef 99 (by decide), Df 99 (by decide) (by decide), Cf 99 (by decide) (by decide), Bf 99 (by decide) (by decide)]; exact A99
  have J100 : h'.2.2 100 = some (iA 7 (upd f2 (Q 12 0) r2)) := by rw [i8 100 (by decide) (by decide) (by decide), Ef 100 (by decide), Df 100 (by decide) (by decide), Cf 100 (by decide) (by decide)]; exact B100
  have J101 : h'.2.2 101 = some (iA 7 (upd f3 (Q 12 0) r3)) := by rw [i8 101 (by decide) (by decide) (by decide), Ef 101 (by decide), Df 101 (by decide) (by decide)]; exact C101
  have Jf : ∀ x, x ≠ 88 → x < 99 ∨ 103 < x → h'.2.2 x = h.2.2 x := fun x y z => by rw [i8 x y (by omega) (by omega), Ef x (by omega), Df x y (by omega), Cf x y (by omega), Bf x y (by omega), Af x y (by omega)]
  have SX : SaX h' := by
    refine ⟨fun x u1 u2 => ?_, ⟨_, i4⟩, ?_, ?_, ?_⟩
    · rcases (show x = 99 ∨ x = 100 ∨ x = 101 ∨ x = 102 by omega) with rfl | rfl | rfl | rfl
      · exact ⟨_, J99⟩
      · exact ⟨_, J100⟩
      · exact ⟨_, J101⟩
      · exact ⟨_, i3⟩
    · rw [Jf _ (by omega) (by omega)]; exact hX.2.2.1
    · rw [Jf _ (by omega) (by omega)]; exact hX.2.2.2.1
    · rw [Jf _ (by omega) (by omega)]; exact hX.2.2.2.2
  have W : ∀ m, m ≤ cL T n (p4 T n a) → (FL T n (p4 T n a) (F3p T n a) m).1 = 0 → (F3p T n a).1 = 0 := by
    intro m
    induction m with
    | zero => intro _ z; exact z
    | succ m ih => intro u z; exact ih (by omega) (oo_0 (F := FL T n (p4 T n a) (F3p T n a) m) z).1
  refine ⟨h', ?_, ⟨a5, p5, t5, v5, e5, Q 12 0 + 1, Q 12 1, Q 12 2, sg, co, i2, fun z => ⟨(i5 z).1, rfl, rfl, rfl, rfl, rfl⟩⟩, SX, fun z => ?_, fun x u1 u2 => Jf x u1 (by omega), ?_, ?_⟩
  · have q1a := (Zf 99 (by decide)).trans q1
    have N1' : ∀ X, (hup H0 88 X).2.2 99 = _ := fun X => (hup_ne (by decide)).trans q1a
    have N2' : ∀ X, (hup G1 88 X).2.2 100 = some (iA 7 f2) := fun X => (hup_ne (by decide)).trans ((Af 100 (by decide) (by decide)).trans q2)
    have N3' : ∀ X, (hup G2 88 X).2.2 101 = some (iA 7 f3) := fun X => (hup_ne (by decide)).trans ((Bf 101 (by decide) (by decide)).trans ((Af 101 (by decide) (by decide)).trans q3))
    have N4' : ∀ X, (hup G3 88 X).2.2 103 = some (iA 28 f5) := fun X => (hup_ne (by decide)).trans ((Cf 103 (by decide) (by decide)).trans ((Bf 103 (by decide) (by decide)).trans ((Af 103 (by decide) (by decide)).trans q5)))
    rw [← i1]
    simp only [r_X9_readPart_46, r_X9_readPart_49, r_X9_readPart_52, r_X9_readPart_53, r_X9_readPart_54, r_X9_readPart_57, r_X9_readPart_58, r_X9_readPart_59, r_X9_readPart_62, r_X9_readPart_63, r_X9_readPart_64, r_X9_readPart_65, r_X9_readPart_66, r_X9_readPart_67, ↓reduceIte, Option.isSome_some, Option.getD_some, rL_v, rL_n, cH_s, List.cons_append, List.nil_append, cat_i, cat_r, cat_n, ofN, ro9 hm, n1, ne10, g9_0 Z88, g9_1 Z88, g9_2 Z88, g9_3 Z88, g9_4 Z88, g9_5 Z88, g9_6 Z88, g9_7 Z88, g9_8 Z88, g9_9 Z88, g9_10 Z88, g9_11 Z88, g9_12 Z88, g9_13 Z88, g9_14 Z88, g9_15 Z88, g9_16 Z88, g9_17 Z88, g9_18 Z88, g9_19 Z88, g9_20 Z88, g9_21 Z88, g9_22 Z88, g9_23 Z88, g9_24 Z88, g9_25 Z88, g9_26 Z88, g9_27 Z88, g9_28 Z88, g9_29 Z88, g9_30 Z88, g9_31 Z88, g9_32 Z88, g9_33 Z88, g9_34 Z88, g9_35 Z88, g9_36 Z88, g9_37 Z88, g9_38 Z88, g9_39 Z88, ro9 Z88, hb4, N1]
    simp only [r_X9_readPart_70, r_X9_readPart_71, r_X9_readPart_72, r_X9_readPart_75, r_X9_readPart_76, r_X9_readPart_77, r_X9_readPart_78, r_X9_readPart_80, r_X9_readPart_81, r_X9_readPart_84, ↓reduceIte, Option.isSome_some, Option.getD_some, rL_v, rL_n, cH_s, List.cons_append, List.nil_append, cat_i, cat_r, cat_n, ofN, pI_nI (N1' _) (by decide) (show 99 ≠ 0 by decide) hp, hG1, g9_0 A88, g9_1 A88, g9_2 A88, g9_3 A88, g9_4 A88, g9_5 A88, g9_6 A88, g9_7 A88, g9_8 A88, g9_9 A88, g9_10 A88, g9_11 A88, g9_12 A88, g9_13 A88, g9_14 A88, g9_15 A88, g9_16 A88, g9_17 A88, g9_18 A88, g9_19 A88, g9_20 A88, g9_21 A88, g9_22 A88, g9_23 A88, g9_24 A88, g9_25 A88, g9_26 A88, g9_27 A88, g9_28 A88, g9_29 A88, g9_30 A88, g9_31 A88, g9_32 A88, g9_33 A88, g9_34 A88, g9_35 A88, g9_36 A88, g9_37 A88, g9_38 A88, g9_39 A88, ro9 A88]
    have TT : Run M_X9_readPart 85 [.ref 88, .int (nI (Q 12 0))] [.int (nI (Q 12 0)), .ref 99, .int (nI 7), .int (nI 0), .ref 88, .int (nI (Q 12 0)), .ref 100] G1 = Run M_X9_readPart 95 [.ref 88, .int (nI (Q 12 0))] [.int (nI no), .int (nI 7), .int (nI 0), .ref 88, .int (nI (Q 12 0)), .ref 100] G1 := by
      by_cases u : r1 = nI 3
      · rw [if_pos u] at hno
        subst hno
        simp only [r_X9_readPart_85, r_X9_readPart_86, r_X9_readPart_87, r_X9_readPart_90, r_X9_readPart_91, ↓reduceIte, Option.isSome_some, Option.getD_some, rL_v, rL_n, cH_s, List.cons_append, List.nil_append, cat_i, cat_r, cat_n, ofN, gI_nI A99 (by decide) hp, pk_us, u]
      · rw [if_neg u] at hno
        subst hno
        simp only [r_X9_readPart_85, r_X9_readPart_86, r_X9_readPart_87, r_X9_readPart_94, ↓reduceIte, Option.isSome_some, Option.getD_some, rL_v, rL_n, cH_s, List.cons_append, List.nil_append, cat_i, cat_r, cat_n, ofN, gI_nI A99 (by decide) hp, pk_us, u]
    rw [TT]
    simp only [r_X9_readPart_95, r_X9_readPart_98, ↓reduceIte, Option.isSome_some, Option.getD_some, rL_v, rL_n, cH_s, List.cons_append, List.nil_append, cat_i, cat_r, cat_n, ofN, ro9 A88, N2, pI_nI (N2' _) (by decide) (show 100 ≠ 0 by decide) hp, hG2]
    simp only [r_X9_readPart_99, r_X9_readPart_100, r_X9_readPart_103, r_X9_readPart_104, r_X9_readPart_105, r_X9_readPart_106, r_X9_readPart_108, r_X9_readPart_109, r_X9_readPart_112, ↓reduceIte, Option.isSome_some, Option.getD_some, rL_v, rL_n, cH_s, List.cons_append, List.nil_append, cat_i, cat_r, cat_n, ofN, g9_0 B88, g9_1 B88, g9_2 B88, g9_3 B88, g9_4 B88, g9_5 B88, g9_6 B88, g9_7 B88, g9_8 B88, g9_9 B88, g9_10 B88, g9_11 B88, g9_12 B88, g9_13 B88, g9_14 B88, g9_15 B88, g9_16 B88, g9_17 B88, g9_18 B88, g9_19 B88, g9_20 B88, g9_21 B88, g9_22 B88, g9_23 B88, g9_24 B88, g9_25 B88, g9_26 B88, g9_27 B88, g9_28 B88, g9_29 B88, g9_30 B88, g9_31 B88, g9_32 B88, g9_33 B88, g9_34 B88, g9_35 B88, g9_36 B88, g9_37 B88, g9_38 B88, g9_39 B88, ro9 B88, N3, pI_nI (N3' _) (by decide) (show 101 ≠ 0 by decide) hp, hG3]
    simp only [r_X9_readPart_113, r_X9_readPart_114, r_X9_readPart_117, r_X9_readPart_118, r_X9_readPart_119, r_X9_readPart_120, r_X9_readPart_121, r_X9_readPart_122, r_X9_readPart_124, r_X9_readPart_125, r_X9_readPart_128, ↓reduceIte, Option.isSome_some, Option.getD_some, rL_v, rL_n, cH_s, List.cons_append, List.nil_append, cat_i, cat_r, cat_n, ofN, g9_0 C88, g9_1 C88, g9_2 C88, g9_3 C88, g9_4 C88, g9_5 C88, g9_6 C88, g9_7 C88, g9_8 C88, g9_9 C88, g9_10 C88, g9_11 C88, g9_12 C88, g9_13 C88, g9_14 C88, g9_15 C88, g9_16 C88, g9_17 C88, g9_18 C88, g9_19 C88, g9_20 C88, g9_21 C88, g9_22 C88, g9_23 C88, g9_24 C88, g9_25 C88, g9_26 C88, g9_27 C88, g9_28 C88, g9_29 C88, g9_30 C88, g9_31 C88, g9_32 C88, g9_33 C88, g9_34 C88, g9_35 C88, g9_36 C88, g9_37 C88, g9_38 C88, g9_39 C88, ro9 C88, nI_m, N4, pI_nI (N4' _) (by decide) (show 103 ≠ 0 by decide) (show 4 * Q 12 0 < 28 by omega), hG4]
    simp only [r_X9_readPart_129, r_X9_readPart_130, r_X9_readPart_133, r_X9_readPart_134, r_X9_readPart_135, ↓reduceIte, Option.isSome_some, Option.getD_some, rL_v, rL_n, cH_s, List.cons_append, List.nil_append, cat_i, cat_r, cat_n, ofN, g9_0 D88, g9_1 D88, g9_2 D88, g9_3 D88, g9_4 D88, g9_5 D88, g9_6 D88, g9_7 D88, g9_8 D88, g9_9 D88, g9_10 D88, g9_11 D88, g9_12 D88, g9_13 D88, g9_14 D88, g9_15 D88, g9_16 D88, g9_17 D88, g9_18 D88, g9_19 D88, g9_20 D88, g9_21 D88, g9_22 D88, g9_23 D88, g9_24 D88, g9_25 D88, g9_26 D88, g9_27 D88, g9_28 D88, g9_29 D88, g9_30 D88, g9_31 D88, g9_32 D88, g9_33 D88, g9_34 D88, g9_35 D88, g9_36 D88, g9_37 D88, g9_38 D88, g9_39 D88, ro9 D88, pI_nI D102 (by decide) (show 102 ≠ 0 by decide) hp, hG5]
  · have zz := i5 z
    have u4 := (oo_0 (F := FL T n (p4 T n a) (F3p T n a) (cL T n (p4 T n a))) z).1
    have u3 := W _ (Nat.le_refl _) u4
    have u3' : (oo F2 (nf T n (p3 T n a) 0 11)).1 = 0 := by rw [eF3]; exact u3
    have u2 := (oo_0 u3').1
    have u2' : (oo (oo (nf T n (a + 1) 0 3) (nf T n (p2 T n a) 0 7)) (tf T n (vl T n (a + 1)) (p2 T n a))).1 = 0 := by rw [hF2]; exact u2
    have u1 := (oo_0 (oo_0 u2').1).1
    have e3 : Qpt T n a Q 3 = va_up (Q 3) (Q 12 0) (vl T n (a + 1)) := rfl
    have e4 : Qpt T n a Q 4 = va_up (Q 4) (Q 12 0) (vl T n (p2 T n a)) := rfl
    have e5 : Qpt T n a Q 5 = va_up (Q 5) (Q 12 0) (vl T n (p3 T n a)) := rfl
    have e6 : Qpt T n a Q 6 = va_up (Q 6) (Q 12 0) (cL T n (p4 T n a)) := rfl
    have e7 : Qpt T n a Q 7 = lnN T n (p4 T n a) (Q 12 0) (Q 7) := rfl
    have e12 : Qpt T n a Q 12 0 = Q 12 0 + 1 := rfl
    have up : ∀ (f : Nat → Int32) (g : Nat → Nat) (x : Int32) (y : Nat), (∀ p, p < Q 12 0 → f p = nI (g p)) → x = nI y → ∀ p, p < Q 12 0 + 1 → upd f (Q 12 0) x p = nI (va_up g (Q 12 0) y p) := fun f g x y hf hxy p hp' => by
      by_cases e : p = Q 12 0
      · subst e; rw [pk_us, va_up_self]; exact hxy
      · rw [pk_un e, va_up_ne _ _ e]; exact hf p (by omega)
    refine ⟨⟨_, J99, ?_⟩, ⟨_, J100, ?_⟩, ⟨_, J101, ?_⟩, ⟨_, i3, ?_⟩, ⟨_, i4, ?_⟩, ?_, ?_, ?_⟩
    · rw [e12, e3]; exact up f1 (Q 3) r1 _ q1' (K1 u1).2
    · rw [e12, e4]; exact up f2 (Q 4) r2 _ q2' (K2 u2).2
    · rw [e12, e5]; exact up f3 (Q 5) r3 _ q3' (K3 u3).2
    · rw [e12, e6]
      intro p hp'
      by_cases e : p = Q 12 0
      · subst e; rw [va_up_self]; exact zz.2.1
      · rw [i6 p e, pk_un e, va_up_ne _ _ e]; exact q4' p (by omega)
    · rw [e12, e6, e7]
      intro p hp' i hi
      by_cases e : p = Q 12 0
      · subst e
        rw [va_up_self] at hi
        rw [zz.2.2 i hi]
        unfold lnN
        rw [if_pos (by omega), show 4 * Q 12 0 + i - 4 * Q 12 0 = i by omega]
      · rw [va_up_ne _ _ e] at hi
        have k5 := (hQ.2 p (by omega)).2.2.2.2.1
        rw [i7 _ (by omega), pk_un (by omega), q5' p (by omega) i hi]
        unfold lnN
        rw [if_neg (by omega)]
    · rw [Jf _ (by omega) (by omega)]; exact q6
    · rw [Jf _ (by omega) (by omega)]; exact q7
    · rw [Jf _ (by omega) (by omega)]; exact q8
  · rw [i9, ← hG5, ← hG4, ← hG3, ← hG2, ← hG1, ← hH0]; rfl
  · rw [i10, ← hG5, ← hG4, ← hG3, ← hG2, ← hG1, ← hH0]; rfl
