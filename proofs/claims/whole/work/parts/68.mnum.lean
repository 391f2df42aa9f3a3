/-! ===== hall: the model's numbers and ends ===== -/
theorem tkN_b (c : Nat) : tkN c ≤ 5 ∧ tkN c ≠ 2 ∧ tkN c ≠ 0 ∧ (tkN c = 3 ↔ c = 59) ∧ (tkN c = 4 ↔ c = 44) ∧ (tkN c = 1 ↔ isW c) := by
  unfold tkN isW
  by_cases w : c = 112 ∨ c = 115 ∨ c = 99 ∨ c = 108 ∨ c = 105
  · rw [if_pos w]; omega
  · rw [if_neg w]
    by_cases e1 : c = 59
    · rw [if_pos e1]; omega
    · rw [if_neg e1]
      by_cases e2 : c = 44
      · rw [if_pos e2]; omega
      · rw [if_neg e2]; omega
theorem MTk.t2 {T : Nat → Nat} {n a : Nat} {at' pl tk v f : Int32} (m : MTk T n a at' pl tk v f) : (tk = nI 2) = fig T n (sk T n a) := by
  rcases m.2 with ⟨q, e, -⟩ | ⟨q, e, -⟩ | ⟨q1, q2, e, -⟩
  · rw [e]; exact propext ⟨fun z => absurd z (by decide), fun z => absurd z.1 q⟩
  · rw [e]; exact propext ⟨fun _ => q, fun _ => rfl⟩
  · have b := tkN_b (T (sk T n a))
    rw [e, nI_inj (by omega) (by decide)]; exact propext ⟨fun z => absurd z b.2.1, fun z => absurd z q2⟩
theorem MTk.t0 {T : Nat → Nat} {n a : Nat} {at' pl tk v f : Int32} (m : MTk T n a at' pl tk v f) : (tk = nI 0) = ¬ sk T n a < n := by
  rcases m.2 with ⟨q, e, -⟩ | ⟨q, e, -⟩ | ⟨q1, q2, e, -⟩
  · rw [e]; exact propext ⟨fun _ => q, fun _ => rfl⟩
  · rw [e]; exact propext ⟨fun z => absurd z (by decide), fun z => absurd q.1 z⟩
  · have b := tkN_b (T (sk T n a))
    rw [e, nI_inj (by omega) (by decide)]; exact propext ⟨fun z => absurd z b.2.2.1, fun z => absurd q1 z⟩
theorem MTk.tc {T : Nat → Nat} {n a c k : Nat} {at' pl tk v f : Int32} (hk : k = 3 ∧ c = 59 ∨ k = 4 ∧ c = 44) (m : MTk T n a at' pl tk v f) : (tk = nI k) = isC T n a c := by
  rcases m.2 with ⟨q, e, -⟩ | ⟨q, e, -⟩ | ⟨q1, q2, e, -⟩
  · rw [e, nI_inj (by decide) (by omega)]
    exact propext ⟨fun z => by omega, fun z => absurd z.1 q⟩
  · rw [e, nI_inj (by decide) (by omega)]
    exact propext ⟨fun z => by omega, fun z => by have := q.2; have := z.2; omega⟩
  · have b := tkN_b (T (sk T n a))
    rw [e, nI_inj (by omega) (by omega)]
    refine propext ⟨fun z => ⟨q1, ?_⟩, fun z => ?_⟩
    · rcases hk with ⟨rfl, rfl⟩ | ⟨rfl, rfl⟩
      · exact b.2.2.2.1.mp z
      · exact b.2.2.2.2.1.mp z
    · rcases hk with ⟨rfl, rfl⟩ | ⟨rfl, rfl⟩
      · exact b.2.2.2.1.mpr z.2
      · exact b.2.2.2.2.1.mpr z.2
theorem MTk.a1 {T : Nat → Nat} {n a c : Nat} {at' pl tk v f : Int32} (hc : ¬ (48 ≤ c ∧ c ≤ 57)) (m : MTk T n a at' pl tk v f) (h : isC T n a c) : at' = nI (sk T n a + 1) ∧ v = nI c ∧ tk = nI (tkN c) := by
  rcases m.2 with ⟨q, e, -⟩ | ⟨q, e, -⟩ | ⟨q1, q2, e1, e2, e3⟩
  · exact absurd h.1 q
  · exact absurd q.2 (by rw [h.2]; exact hc)
  · rw [h.2] at e1 e3; exact ⟨e2, e3, e1⟩
theorem c_isWell {h : AH} {b : Nat → Int32} {F : Nat × Nat} {at' pl tk v f fa : Int32} (hF : F.1 < 5) (hm : h.2.2 88 = some (oMk b at' pl tk v f (nI F.1) fa)) : Call M_X9_isWell h [.ref 88] = some (h, some (.int (bI (F.1 = 0)))) := by
  have z : (nI F.1 = nI 0) = (F.1 = 0) := nI_inj (by omega) (by decide)
  show Run M_X9_isWell 0 [.ref 88] [] h = _
  by_cases q : F.1 = 0
  · rw [bI_t q]
    simp only [r_X9_isWell_0, r_X9_isWell_1, r_X9_isWell_4, r_X9_isWell_7, r_X9_isWell_8, r_X9_isWell_12_0, r_X9_isWell_12_1, r_X9_isWell_12_c, ↓reduceIte, Option.isSome_some, Option.getD_some, rL_v, rL_n, cH_s, List.cons_append, List.nil_append, cat_i, cat_r, cat_n, ofN, g9_0 hm, g9_1 hm, g9_2 hm, g9_3 hm, g9_4 hm, g9_5 hm, g9_6 hm, g9_7 hm, g9_8 hm, g9_9 hm, g9_10 hm, g9_11 hm, g9_12 hm, g9_13 hm, g9_14 hm, g9_15 hm, g9_16 hm, g9_17 hm, g9_18 hm, g9_19 hm, g9_20 hm, g9_21 hm, g9_22 hm, g9_23 hm, g9_24 hm, g9_25 hm, g9_26 hm, g9_27 hm, g9_28 hm, g9_29 hm, g9_30 hm, g9_31 hm, g9_32 hm, g9_33 hm, g9_34 hm, g9_35 hm, g9_36 hm, g9_37 hm, g9_38 hm, g9_39 hm, ro9 hm, z, q]
  · rw [bI_f q]
    simp only [r_X9_isWell_0, r_X9_isWell_1, r_X9_isWell_4, r_X9_isWell_11, r_X9_isWell_12_0, r_X9_isWell_12_1, r_X9_isWell_12_c, ↓reduceIte, Option.isSome_some, Option.getD_some, rL_v, rL_n, cH_s, List.cons_append, List.nil_append, cat_i, cat_r, cat_n, ofN, g9_0 hm, g9_1 hm, g9_2 hm, g9_3 hm, g9_4 hm, g9_5 hm, g9_6 hm, g9_7 hm, g9_8 hm, g9_9 hm, g9_10 hm, g9_11 hm, g9_12 hm, g9_13 hm, g9_14 hm, g9_15 hm, g9_16 hm, g9_17 hm, g9_18 hm, g9_19 hm, g9_20 hm, g9_21 hm, g9_22 hm, g9_23 hm, g9_24 hm, g9_25 hm, g9_26 hm, g9_27 hm, g9_28 hm, g9_29 hm, g9_30 hm, g9_31 hm, g9_32 hm, g9_33 hm, g9_34 hm, g9_35 hm, g9_36 hm, g9_37 hm, g9_38 hm, g9_39 hm, ro9 hm, z, q]
theorem c_failsI {h : AH} {b : Nat → Int32} {F : Nat × Nat} {at' pl tk v f fa x : Int32} (hF : F.1 < 5) (q : ¬ F.1 = 0) (hm : h.2.2 88 = some (oMk b at' pl tk v f (nI F.1) fa)) : Call M_X9_fails h [.ref 88, .int x] = some (h, none) := by
  have w := c_isWell hF hm
  rw [bI_f q] at w
  show Run M_X9_fails 0 [.ref 88, .int x] [] h = _
  simp only [r_X9_fails_0, r_X9_fails_1, r_X9_fails_4, r_X9_fails_20, ↓reduceIte, Option.isSome_some, Option.getD_some, rL_v, rL_n, cH_s, List.cons_append, List.nil_append, cat_i, cat_r, cat_n, ofN, ro9 hm, w]
theorem c_failsW {h : AH} {b : Nat → Int32} {at' tk v f fa x : Int32} {p : Nat} (hm : h.2.2 88 = some (oMk b at' (nI p) tk v f (nI 0) fa)) : Call M_X9_fails h [.ref 88, .int x] = some (hup h 88 (oMk b at' (nI p) tk v f x (fI (p + 1))), none) := by
  have w := c_isWell (F := (0, 0)) (by decide) hm
  rw [bI_t rfl] at w
  show Run M_X9_fails 0 [.ref 88, .int x] [] h = _
  simp only [r_X9_fails_0, r_X9_fails_1, r_X9_fails_4, r_X9_fails_7, r_X9_fails_8, r_X9_fails_9, r_X9_fails_12, r_X9_fails_13, r_X9_fails_14, r_X9_fails_17, r_X9_fails_20, ↓reduceIte, Option.isSome_some, Option.getD_some, rL_v, rL_n, cH_s, List.cons_append, List.nil_append, cat_i, cat_r, cat_n, ofN, g9_0 hm, g9_1 hm, g9_2 hm, g9_3 hm, p9_3 hm, g9_4 hm, g9_5 hm, g9_6 hm, g9_7 hm, g9_8 hm, g9_9 hm, p9_9 hm, g9_10 hm, p9_10 hm, g9_11 hm, g9_12 hm, g9_13 hm, p9_13 hm, g9_14 hm, p9_14 hm, g9_15 hm, p9_15 hm, g9_16 hm, p9_16 hm, g9_17 hm, p9_17 hm, g9_18 hm, p9_18 hm, g9_19 hm, p9_19 hm, g9_20 hm, p9_20 hm, g9_21 hm, p9_21 hm, g9_22 hm, g9_23 hm, g9_24 hm, g9_25 hm, g9_26 hm, g9_27 hm, p9_27 hm, g9_28 hm, g9_29 hm, p9_29 hm, g9_30 hm, g9_31 hm, g9_32 hm, p9_32 hm, g9_33 hm, p9_33 hm, g9_34 hm, g9_35 hm, g9_36 hm, p9_36 hm, g9_37 hm, g9_38 hm, p9_38 hm, g9_39 hm, ro9 hm, w, ne10, rou9, gu9_0, gu9_1, gu9_2, gu9_3, pu9_3, gu9_4, gu9_5, gu9_6, gu9_7, gu9_8, gu9_9, pu9_9, gu9_10, pu9_10, gu9_11, gu9_12, gu9_13, pu9_13, gu9_14, pu9_14, gu9_15, pu9_15, gu9_16, pu9_16, gu9_17, pu9_17, gu9_18, pu9_18, gu9_19, pu9_19, gu9_20, pu9_20, gu9_21, pu9_21, gu9_22, gu9_23, gu9_24, gu9_25, gu9_26, gu9_27, pu9_27, gu9_28, gu9_29, pu9_29, gu9_30, gu9_31, gu9_32, pu9_32, gu9_33, pu9_33, gu9_34, gu9_35, gu9_36, pu9_36, gu9_37, gu9_38, pu9_38, gu9_39, fI_s]
def nfm (T : Nat → Nat) (n a lo hi no : Nat) : Nat × Nat := if fg T n a = 0 then (1, sk T n a + 1) else if badN T n a lo hi then (2, sk T n a + 1) else if 0 < no ∧ 0 < vl T n a then (no, sk T n a + 1) else (0, 0)
theorem nfm_0 (T : Nat → Nat) (n a lo hi : Nat) : nfm T n a lo hi 0 = nf T n a lo hi := by
  unfold nfm nf
  rw [if_neg (show ¬ (0 < 0 ∧ 0 < vl T n a) from fun z => absurd z.1 (by decide))]
theorem nfm_t (T : Nat → Nat) (n a lo hi v : Nat) : nfm T n a lo hi (if v = 3 then 4 else 0) = oo (nf T n a lo hi) (tf T n v a) := by
  unfold nfm nf tf
  by_cases q0 : fg T n a = 0
  · rw [if_pos q0, if_pos q0, oo_i (show ¬ (1 : Nat) = 0 by decide)]
  · rw [if_neg q0, if_neg q0]
    by_cases q1 : badN T n a lo hi
    · rw [if_pos q1, if_pos q1, oo_i (show ¬ (2 : Nat) = 0 by decide)]
    · rw [if_neg q1, if_neg q1, oo_w rfl]
      by_cases q2 : v = 3
      · rw [if_pos q2]
        by_cases q3 : 0 < vl T n a
        · rw [if_pos ⟨by decide, q3⟩, if_pos ⟨q2, by omega⟩]
        · rw [if_neg (fun z => q3 z.2), if_neg (fun z => by have := z.2; omega)]
      · rw [if_neg q2, if_neg (fun z => absurd z.1 (by decide)), if_neg (fun z => q2 z.1)]
theorem FOk_nfm {T : Nat → Nat} {n a lo hi no : Nat} (ha : a ≤ n) (hno : no < 5) : FOk n (nfm T n a lo hi no) := by
  have := sk_le (T := T) ha
  unfold nfm
  split
  · exact FOk.mk (by decide) (by decide) this
  · split
    · exact FOk.mk (by decide) (by decide) this
    · split
      · rename_i z; exact FOk.mk z.1 hno this
      · exact FOk.z
set_option maxHeartbeats 2000000 in
theorem c_mnum {h : AH} {T : Nat → Nat} {n a lo hi no : Nat} {b : Nat → Int32} {F : Nat × Nat} {at' pl tk v f : Int32} (hn : n ≤ 250) (hT : ∀ i, i < n → T i < 256) (ha : a ≤ n) (hb : b 3 = nI n) (hF : FOk n F) (hlo : lo ≤ 1000) (hhi : hi ≤ 1000) (hno : no < 5) (h98 : h.2.2 98 = some (iA 250 (fun i => nI (T i)))) (hm : h.2.2 88 = some (oMk b at' pl tk v f (nI F.1) (fI F.2))) (hk : F.1 = 0 → MTk T n a at' pl tk v f) :
    ∃ at2 pl2 tk2 v2 f2 r, Call M_X9_number h [.ref 88, .int (nI lo), .int (nI hi), .int (nI no)] = some (hup h 88 (oMk b at2 pl2 tk2 v2 f2 (nI (oo F (nfm T n a lo hi no)).1) (fI (oo F (nfm T n a lo hi no)).2)), some (.int r)) ∧ ((oo F (nfm T n a lo hi no)).1 = 0 → MTk T n (nb T n a) at2 pl2 tk2 v2 f2 ∧ r = nI (vl T n a)) := by
  have h98' : ∀ X, (hup h 88 X).2.2 98 = _ := fun X => (hup_ne (by decide)).trans h98
  by_cases q : F.1 = 0
  · have eF := hF.2.1 q
    subst eF
    have k := hk rfl
    have t2 := k.t2
    have epl := k.1
    subst epl
    have hs := sk_le (T := T) ha
    have f0 := fg_0 (T := T) ha
    have v9 := vl_le (T := T) ha
    have hd : dg T n (sk T n a) ≤ n := nb_le (T := T) ha
    rw [oo_w rfl]
    have bad : ∀ (c : Nat), 0 < c → c < 5 → ∀ X, X = hup h 88 (oMk b at' (nI (sk T n a)) tk v f (nI c) (fI (sk T n a + 1))) → Run M_X9_number 60 [.ref 88, .int (nI lo), .int (nI hi), .int (nI no), .null] [] X = some (X, some (.int (nI lo))) := by
      intro c c0 c5 X hX
      have hmX : X.2.2 88 = some (oMk b at' (nI (sk T n a)) tk v f (nI c) (fI (sk T n a + 1))) := by rw [hX]; exact hup_get
      have w := c_isWell (F := (c, sk T n a + 1)) c5 hmX
      rw [bI_f (show ¬ c = 0 by omega)] at w
      simp only [r_X9_number_60, r_X9_number_61, r_X9_number_64, r_X9_number_74, r_X9_number_75, r_X9_number_77, r_X9_number_78, r_X9_number_81, r_X9_number_88, r_X9_number_90, ↓reduceIte, Option.isSome_some, Option.getD_some, rL_v, rL_n, cH_s, List.cons_append, List.nil_append, cat_i, cat_r, cat_n, ofN, ro9 hmX, w]
    have cW := fun (x : Int32) => c_failsW (x := x) hm
    unfold nfm
    by_cases q0 : fg T n a = 0
    · have nfig := f0.mp q0
      rw [if_pos q0]
      refine ⟨at', nI (sk T n a), tk, v, f, nI lo, ?_, fun z => absurd z (show ¬ (1 : Nat) = 0 by decide)⟩
      rw [← bad 1 (by decide) (by decide) _ rfl]
      show Run M_X9_number 0 [.ref 88, .int (nI lo), .int (nI hi), .int (nI no), .null] [] h = _
      simp only [r_X9_number_0, r_X9_number_1, r_X9_number_4, r_X9_number_5, r_X9_number_8, r_X9_number_9, r_X9_number_10, r_X9_number_13, ↓reduceIte, Option.isSome_some, Option.getD_some, rL_v, rL_n, cH_s, List.cons_append, List.nil_append, cat_i, cat_r, cat_n, ofN, g9_0 hm, g9_1 hm, g9_2 hm, g9_3 hm, g9_4 hm, g9_5 hm, g9_6 hm, g9_7 hm, g9_8 hm, g9_9 hm, g9_10 hm, g9_11 hm, g9_12 hm, g9_13 hm, g9_14 hm, g9_15 hm, g9_16 hm, g9_17 hm, g9_18 hm, g9_19 hm, g9_20 hm, g9_21 hm, g9_22 hm, g9_23 hm, g9_24 hm, g9_25 hm, g9_26 hm, g9_27 hm, g9_28 hm, g9_29 hm, g9_30 hm, g9_31 hm, g9_32 hm, g9_33 hm, g9_34 hm, g9_35 hm, g9_36 hm, g9_37 hm, g9_38 hm, g9_39 hm, ro9 hm, t2, nfig, cW]
    · rw [if_neg q0]
      have yfig : fig T n (sk T n a) := Classical.byContradiction (fun z => q0 (f0.mpr z))
      have yf : fig T n (sk T n a) = True := eq_true yfig
      rcases k.2 with ⟨z, -⟩ | ⟨-, e1, e2, e3, e4⟩ | ⟨-, z, -⟩
      · exact absurd yfig.1 z
      rotate_left
      · exact absurd yfig z
      subst e3 e4
      have fgl : fg T n a ≤ 250 := by show dg T n (sk T n a) - sk T n a ≤ 250; omega
      have z3 : (nI 3 < nI (fg T n a)) = (3 < fg T n a) := nI_lt' (by decide) (by omega)
      have wi : (nI lo ≤ nI (vl T n a) ∧ nI (vl T n a) ≤ nI hi) = (lo ≤ vl T n a ∧ vl T n a ≤ hi) := by rw [nI_le' (by omega) (by omega), nI_le' (by omega) (by omega)]
      have zn : (nI no ≤ nI 0) = (no ≤ 0) := nI_le' (by omega) (by decide)
      have zv : (nI (vl T n a) ≤ nI 0) = (vl T n a ≤ 0) := nI_le' (by omega) (by decide)
      by_cases q1 : badN T n a lo hi
      · rw [if_pos q1]
        refine ⟨at', nI (sk T n a), tk, nI (vl T n a), nI (fg T n a), nI lo, ?_, fun z => absurd z (show ¬ (2 : Nat) = 0 by decide)⟩
        rw [← bad 2 (by decide) (by decide) _ rfl]
        show Run M_X9_number 0 [.ref 88, .int (nI lo), .int (nI hi), .int (nI no), .null] [] h = _
        by_cases q2 : 3 < fg T n a
        · simp only [r_X9_number_0, r_X9_number_1, r_X9_number_4, r_X9_number_5, r_X9_number_16, r_X9_number_17, r_X9_number_20, r_X9_number_21, r_X9_number_36, r_X9_number_37, r_X9_number_38, r_X9_number_41, ↓reduceIte, Option.isSome_some, Option.getD_some, rL_v, rL_n, cH_s, List.cons_append, List.nil_append, cat_i, cat_r, cat_n, ofN, g9_0 hm, g9_1 hm, g9_2 hm, g9_3 hm, g9_4 hm, g9_5 hm, g9_6 hm, g9_7 hm, g9_8 hm, g9_9 hm, g9_10 hm, g9_11 hm, g9_12 hm, g9_13 hm, g9_14 hm, g9_15 hm, g9_16 hm, g9_17 hm, g9_18 hm, g9_19 hm, g9_20 hm, g9_21 hm, g9_22 hm, g9_23 hm, g9_24 hm, g9_25 hm, g9_26 hm, g9_27 hm, g9_28 hm, g9_29 hm, g9_30 hm, g9_31 hm, g9_32 hm, g9_33 hm, g9_34 hm, g9_35 hm, g9_36 hm, g9_37 hm, g9_38 hm, g9_39 hm, ro9 hm, t2, yf, z3, q2, cW]
        · have q3 : ¬ (lo ≤ vl T n a ∧ vl T n a ≤ hi) := q1.resolve_left q2
          simp only [r_X9_number_0, r_X9_number_1, r_X9_number_4, r_X9_number_5, r_X9_number_16, r_X9_number_17, r_X9_number_20, r_X9_number_21, r_X9_number_24, r_X9_number_25, r_X9_number_28, r_X9_number_29, r_X9_number_30, r_X9_number_33, r_X9_number_36, r_X9_number_37, r_X9_number_38, r_X9_number_41, ↓reduceIte, Option.isSome_some, Option.getD_some, rL_v, rL_n, cH_s, List.cons_append, List.nil_append, cat_i, cat_r, cat_n, ofN, g9_0 hm, g9_1 hm, g9_2 hm, g9_3 hm, g9_4 hm, g9_5 hm, g9_6 hm, g9_7 hm, g9_8 hm, g9_9 hm, g9_10 hm, g9_11 hm, g9_12 hm, g9_13 hm, g9_14 hm, g9_15 hm, g9_16 hm, g9_17 hm, g9_18 hm, g9_19 hm, g9_20 hm, g9_21 hm, g9_22 hm, g9_23 hm, g9_24 hm, g9_25 hm, g9_26 hm, g9_27 hm, g9_28 hm, g9_29 hm, g9_30 hm, g9_31 hm, g9_32 hm, g9_33 hm, g9_34 hm, g9_35 hm, g9_36 hm, g9_37 hm, g9_38 hm, g9_39 hm, ro9 hm, t2, yf, z3, q2, c_in, ite_bI, wi, q3, cW]
      · rw [if_neg q1]
        have q2 : ¬ 3 < fg T n a := fun z => q1 (Or.inl z)
        have q3 : lo ≤ vl T n a ∧ vl T n a ≤ hi := Classical.byContradiction (fun z => q1 (Or.inr z))
        have q3' : (lo ≤ vl T n a ∧ vl T n a ≤ hi) = True := eq_true q3
        by_cases q4 : 0 < no ∧ 0 < vl T n a
        · have y1 : ¬ no ≤ 0 := by omega
          have y2 : ¬ vl T n a ≤ 0 := by omega
          rw [if_pos q4]
          refine ⟨at', nI (sk T n a), tk, nI (vl T n a), nI (fg T n a), nI lo, ?_, fun z => absurd z (show ¬ no = 0 by omega)⟩
          rw [← bad no (by omega) (by omega) _ rfl]
          show Run M_X9_number 0 [.ref 88, .int (nI lo), .int (nI hi), .int (nI no), .null] [] h = _
          simp only [r_X9_number_0, r_X9_number_1, r_X9_number_4, r_X9_number_5, r_X9_number_16, r_X9_number_17, r_X9_number_20, r_X9_number_21, r_X9_number_24, r_X9_number_25, r_X9_number_28, r_X9_number_29, r_X9_number_30, r_X9_number_33, r_X9_number_44, r_X9_number_45, r_X9_number_48, r_X9_number_49, r_X9_number_52, r_X9_number_55, r_X9_number_56, r_X9_number_57, ↓reduceIte, Option.isSome_some, Option.getD_some, rL_v, rL_n, cH_s, List.cons_append, List.nil_append, cat_i, cat_r, cat_n, ofN, g9_0 hm, g9_1 hm, g9_2 hm, g9_3 hm, g9_4 hm, g9_5 hm, g9_6 hm, g9_7 hm, g9_8 hm, g9_9 hm, g9_10 hm, g9_11 hm, g9_12 hm, g9_13 hm, g9_14 hm, g9_15 hm, g9_16 hm, g9_17 hm, g9_18 hm, g9_19 hm, g9_20 hm, g9_21 hm, g9_22 hm, g9_23 hm, g9_24 hm, g9_25 hm, g9_26 hm, g9_27 hm, g9_28 hm, g9_29 hm, g9_30 hm, g9_31 hm, g9_32 hm, g9_33 hm, g9_34 hm, g9_35 hm, g9_36 hm, g9_37 hm, g9_38 hm, g9_39 hm, ro9 hm, t2, yf, z3, q2, c_in, ite_bI, wi, q3', zn, y1, zv, y2, cW]
        · rw [if_neg q4]
          have w := c_isWell (F := (0, 0)) (by decide) hm
          rw [bI_t rfl] at w
          subst e2
          obtain ⟨at2, pl2, tk2, v2, f2, n1, n2⟩ := c_next (a := nb T n a) hn hT hd hb h98 hm
          have T1 : Run M_X9_number 0 [.ref 88, .int (nI lo), .int (nI hi), .int (nI no), .null] [] h = Run M_X9_number 60 [.ref 88, .int (nI lo), .int (nI hi), .int (nI no), .null] [] h := by
            by_cases y1 : no ≤ 0
            · simp only [r_X9_number_0, r_X9_number_1, r_X9_number_4, r_X9_number_5, r_X9_number_16, r_X9_number_17, r_X9_number_20, r_X9_number_21, r_X9_number_24, r_X9_number_25, r_X9_number_28, r_X9_number_29, r_X9_number_30, r_X9_number_33, r_X9_number_44, r_X9_number_45, ↓reduceIte, Option.isSome_some, Option.getD_some, rL_v, rL_n, cH_s, List.cons_append, List.nil_append, cat_i, cat_r, cat_n, ofN, g9_0 hm, g9_1 hm, g9_2 hm, g9_3 hm, g9_4 hm, g9_5 hm, g9_6 hm, g9_7 hm, g9_8 hm, g9_9 hm, g9_10 hm, g9_11 hm, g9_12 hm, g9_13 hm, g9_14 hm, g9_15 hm, g9_16 hm, g9_17 hm, g9_18 hm, g9_19 hm, g9_20 hm, g9_21 hm, g9_22 hm, g9_23 hm, g9_24 hm, g9_25 hm, g9_26 hm, g9_27 hm, g9_28 hm, g9_29 hm, g9_30 hm, g9_31 hm, g9_32 hm, g9_33 hm, g9_34 hm, g9_35 hm, g9_36 hm, g9_37 hm, g9_38 hm, g9_39 hm, ro9 hm, t2, yf, z3, q2, c_in, ite_bI, wi, q3', zn, y1]
            · have y2 : vl T n a ≤ 0 := by omega
              simp only [r_X9_number_0, r_X9_number_1, r_X9_number_4, r_X9_number_5, r_X9_number_16, r_X9_number_17, r_X9_number_20, r_X9_number_21, r_X9_number_24, r_X9_number_25, r_X9_number_28, r_X9_number_29, r_X9_number_30, r_X9_number_33, r_X9_number_44, r_X9_number_45, r_X9_number_48, r_X9_number_49, r_X9_number_52, ↓reduceIte, Option.isSome_some, Option.getD_some, rL_v, rL_n, cH_s, List.cons_append, List.nil_append, cat_i, cat_r, cat_n, ofN, g9_0 hm, g9_1 hm, g9_2 hm, g9_3 hm, g9_4 hm, g9_5 hm, g9_6 hm, g9_7 hm, g9_8 hm, g9_9 hm, g9_10 hm, g9_11 hm, g9_12 hm, g9_13 hm, g9_14 hm, g9_15 hm, g9_16 hm, g9_17 hm, g9_18 hm, g9_19 hm, g9_20 hm, g9_21 hm, g9_22 hm, g9_23 hm, g9_24 hm, g9_25 hm, g9_26 hm, g9_27 hm, g9_28 hm, g9_29 hm, g9_30 hm, g9_31 hm, g9_32 hm, g9_33 hm, g9_34 hm, g9_35 hm, g9_36 hm, g9_37 hm, g9_38 hm, g9_39 hm, ro9 hm, t2, yf, z3, q2, c_in, ite_bI, wi, q3', zn, y1, zv, y2]
          refine ⟨at2, pl2, tk2, v2, f2, nI (vl T n a), ?_, fun _ => ⟨n2, rfl⟩⟩
          show Run M_X9_number 0 [.ref 88, .int (nI lo), .int (nI hi), .int (nI no), .null] [] h = _
          rw [T1]
          simp only [r_X9_number_60, r_X9_number_61, r_X9_number_64, r_X9_number_67, r_X9_number_68, r_X9_number_71, r_X9_number_75, r_X9_number_77, r_X9_number_78, r_X9_number_81, r_X9_number_84, r_X9_number_85, r_X9_number_88, r_X9_number_90, ↓reduceIte, Option.isSome_some, Option.getD_some, rL_v, rL_n, cH_s, List.cons_append, List.nil_append, cat_i, cat_r, cat_n, ofN, g9_0 hm, g9_1 hm, g9_2 hm, g9_3 hm, g9_4 hm, g9_5 hm, g9_6 hm, g9_7 hm, g9_8 hm, g9_9 hm, g9_10 hm, g9_11 hm, g9_12 hm, g9_13 hm, g9_14 hm, g9_15 hm, g9_16 hm, g9_17 hm, g9_18 hm, g9_19 hm, g9_20 hm, g9_21 hm, g9_22 hm, g9_23 hm, g9_24 hm, g9_25 hm, g9_26 hm, g9_27 hm, g9_28 hm, g9_29 hm, g9_30 hm, g9_31 hm, g9_32 hm, g9_33 hm, g9_34 hm, g9_35 hm, g9_36 hm, g9_37 hm, g9_38 hm, g9_39 hm, ro9 hm, w, ne10, n1]
  · rw [oo_i q]
    have w := c_isWell hF.1 hm
    rw [bI_f q] at w
    have cI := fun (x : Int32) => c_failsI (x := x) hF.1 q hm
    refine ⟨at', pl, tk, v, f, nI lo, ?_, fun z => absurd z q⟩
    rw [hup_same hm]
    show Run M_X9_number 0 [.ref 88, .int (nI lo), .int (nI hi), .int (nI no), .null] [] h = _
    simp only [r_X9_number_0, r_X9_number_1, r_X9_number_4, r_X9_number_5, r_X9_number_8, r_X9_number_9, r_X9_number_10, r_X9_number_13, r_X9_number_16, r_X9_number_17, r_X9_number_20, r_X9_number_21, r_X9_number_24, r_X9_number_25, r_X9_number_28, r_X9_number_29, r_X9_number_30, r_X9_number_33, r_X9_number_36, r_X9_number_37, r_X9_number_38, r_X9_number_41, r_X9_number_44, r_X9_number_45, r_X9_number_48, r_X9_number_49, r_X9_number_52, r_X9_number_55, r_X9_number_56, r_X9_number_57, r_X9_number_60, r_X9_number_61, r_X9_number_64, r_X9_number_74, r_X9_number_75, r_X9_number_77, r_X9_number_78, r_X9_number_81, r_X9_number_88, r_X9_number_90, ↓reduceIte, Option.isSome_some, Option.getD_some, rL_v, rL_n, cH_s, List.cons_append, List.nil_append, cat_i, cat_r, cat_n, ofN, g9_0 hm, g9_1 hm, g9_2 hm, g9_3 hm, g9_4 hm, g9_5 hm, g9_6 hm, g9_7 hm, g9_8 hm, g9_9 hm, g9_10 hm, g9_11 hm, g9_12 hm, g9_13 hm, g9_14 hm, g9_15 hm, g9_16 hm, g9_17 hm, g9_18 hm, g9_19 hm, g9_20 hm, g9_21 hm, g9_22 hm, g9_23 hm, g9_24 hm, g9_25 hm, g9_26 hm, g9_27 hm, g9_28 hm, g9_29 hm, g9_30 hm, g9_31 hm, g9_32 hm, g9_33 hm, g9_34 hm, g9_35 hm, g9_36 hm, g9_37 hm, g9_38 hm, g9_39 hm, ro9 hm, w, cI, c_in, ite_bI, ite_self]
theorem c_mstops {h : AH} {T : Nat → Nat} {n a : Nat} {b : Nat → Int32} {F : Nat × Nat} {at' pl tk v f : Int32} (hn : n ≤ 250) (hT : ∀ i, i < n → T i < 256) (ha : a ≤ n) (hb : b 3 = nI n) (hF : FOk n F) (h98 : h.2.2 98 = some (iA 250 (fun i => nI (T i)))) (hm : h.2.2 88 = some (oMk b at' pl tk v f (nI F.1) (fI F.2))) (hk : F.1 = 0 → MTk T n a at' pl tk v f) :
    ∃ at2 pl2 tk2 v2 f2, Call M_X9_stops h [.ref 88] = some (hup h 88 (oMk b at2 pl2 tk2 v2 f2 (nI (oo F (cf T n a)).1) (fI (oo F (cf T n a)).2)), none) ∧ ((oo F (cf T n a)).1 = 0 → MTk T n (sk T n a + 1) at2 pl2 tk2 v2 f2) := by
  by_cases q : F.1 = 0
  · have eF := hF.2.1 q
    subst eF
    have k := hk rfl
    have t3 := k.tc (k := 3) (c := 59) (Or.inl ⟨rfl, rfl⟩)
    have epl := k.1
    subst epl
    rw [oo_w rfl]
    unfold cf
    by_cases z : isC T n a 59
    · rw [if_pos z]
      obtain ⟨e1, -, -⟩ := k.a1 (by decide) z
      subst e1
      have z1 := z.1
      obtain ⟨at2, pl2, tk2, v2, f2, n1, n2⟩ := c_next (a := sk T n a + 1) hn hT (by omega) hb h98 hm
      have w := c_isWell (F := (0, 0)) (by decide) hm
      rw [bI_t rfl] at w
      refine ⟨at2, pl2, tk2, v2, f2, ?_, fun _ => n2⟩
      have zt : isC T n a 59 = True := eq_true z
      show Run M_X9_stops 0 [.ref 88] [] h = _
      simp only [r_X9_stops_0, r_X9_stops_1, r_X9_stops_4, r_X9_stops_5, r_X9_stops_13, r_X9_stops_14, r_X9_stops_17, r_X9_stops_20, r_X9_stops_21, r_X9_stops_24, ↓reduceIte, Option.isSome_some, Option.getD_some, rL_v, rL_n, cH_s, List.cons_append, List.nil_append, cat_i, cat_r, cat_n, ofN, g9_0 hm, g9_1 hm, g9_2 hm, g9_3 hm, g9_4 hm, g9_5 hm, g9_6 hm, g9_7 hm, g9_8 hm, g9_9 hm, g9_10 hm, g9_11 hm, g9_12 hm, g9_13 hm, g9_14 hm, g9_15 hm, g9_16 hm, g9_17 hm, g9_18 hm, g9_19 hm, g9_20 hm, g9_21 hm, g9_22 hm, g9_23 hm, g9_24 hm, g9_25 hm, g9_26 hm, g9_27 hm, g9_28 hm, g9_29 hm, g9_30 hm, g9_31 hm, g9_32 hm, g9_33 hm, g9_34 hm, g9_35 hm, g9_36 hm, g9_37 hm, g9_38 hm, g9_39 hm, ro9 hm, t3, zt, w, ne10, n1]
    · rw [if_neg z]
      have hmX : (hup h 88 (oMk b at' (nI (sk T n a)) tk v f (nI 1) (fI (sk T n a + 1)))).2.2 88 = _ := hup_get
      have w := c_isWell (F := (1, sk T n a + 1)) (show (1 : Nat) < 5 by decide) hmX
      rw [bI_f (show ¬ (1 : Nat) = 0 by decide)] at w
      refine ⟨at', nI (sk T n a), tk, v, f, ?_, fun y => absurd y (show ¬ (1 : Nat) = 0 by decide)⟩
      show Run M_X9_stops 0 [.ref 88] [] h = _
      simp only [r_X9_stops_0, r_X9_stops_1, r_X9_stops_4, r_X9_stops_5, r_X9_stops_8, r_X9_stops_9, r_X9_stops_10, r_X9_stops_13, r_X9_stops_14, r_X9_stops_17, r_X9_stops_24, ↓reduceIte, Option.isSome_some, Option.getD_some, rL_v, rL_n, cH_s, List.cons_append, List.nil_append, cat_i, cat_r, cat_n, ofN, g9_0 hm, g9_1 hm, g9_2 hm, g9_3 hm, g9_4 hm, g9_5 hm, g9_6 hm, g9_7 hm, g9_8 hm, g9_9 hm, g9_10 hm, g9_11 hm, g9_12 hm, g9_13 hm, g9_14 hm, g9_15 hm, g9_16 hm, g9_17 hm, g9_18 hm, g9_19 hm, g9_20 hm, g9_21 hm, g9_22 hm, g9_23 hm, g9_24 hm, g9_25 hm, g9_26 hm, g9_27 hm, g9_28 hm, g9_29 hm, g9_30 hm, g9_31 hm, g9_32 hm, g9_33 hm, g9_34 hm, g9_35 hm, g9_36 hm, g9_37 hm, g9_38 hm, g9_39 hm, ro9 hm, t3, z, c_failsW hm, ro9 hmX, w]
  · rw [oo_i q]
    have w := c_isWell hF.1 hm
    rw [bI_f q] at w
    have cI := fun (x : Int32) => c_failsI (x := x) hF.1 q hm
    refine ⟨at', pl, tk, v, f, ?_, fun z => absurd z q⟩
    rw [hup_same hm]
    show Run M_X9_stops 0 [.ref 88] [] h = _
    simp only [r_X9_stops_0, r_X9_stops_1, r_X9_stops_4, r_X9_stops_5, r_X9_stops_8, r_X9_stops_9, r_X9_stops_10, r_X9_stops_13, r_X9_stops_14, r_X9_stops_17, r_X9_stops_24, ↓reduceIte, Option.isSome_some, Option.getD_some, rL_v, rL_n, cH_s, List.cons_append, List.nil_append, cat_i, cat_r, cat_n, ofN, g9_0 hm, g9_1 hm, g9_2 hm, g9_3 hm, g9_4 hm, g9_5 hm, g9_6 hm, g9_7 hm, g9_8 hm, g9_9 hm, g9_10 hm, g9_11 hm, g9_12 hm, g9_13 hm, g9_14 hm, g9_15 hm, g9_16 hm, g9_17 hm, g9_18 hm, g9_19 hm, g9_20 hm, g9_21 hm, g9_22 hm, g9_23 hm, g9_24 hm, g9_25 hm, g9_26 hm, g9_27 hm, g9_28 hm, g9_29 hm, g9_30 hm, g9_31 hm, g9_32 hm, g9_33 hm, g9_34 hm, g9_35 hm, g9_36 hm, g9_37 hm, g9_38 hm, g9_39 hm, ro9 hm, w, cI, ite_self]
def Fbe (fu be p : Nat) : Nat × Nat := if fu = 1 then (3, p) else if be = 1 then (4, p) else (0, 0)
theorem c_begins {h : AH} {T : Nat → Nat} {n a c fu be : Nat} {b : Nat → Int32} {at' pl tk v f : Int32} (hn : n ≤ 250) (hT : ∀ i, i < n → T i < 256) (ha : a ≤ n) (hb : b 3 = nI n) (hc : ¬ (48 ≤ c ∧ c ≤ 57)) (hC : isC T n a c) (hfu : fu ≤ 1) (hbe : be ≤ 1) (h98 : h.2.2 98 = some (iA 250 (fun i => nI (T i)))) (hm : h.2.2 88 = some (oMk b at' pl tk v f (nI 0) (fI 0))) (k : MTk T n a at' pl tk v f) :
    ∃ at2 pl2 tk2 v2 f2, Call M_X9_begins h [.ref 88, .int (nI fu), .int (nI be)] = some (hup h 88 (oMk b at2 pl2 tk2 v2 f2 (nI (Fbe fu be (sk T n a + 1)).1) (fI (Fbe fu be (sk T n a + 1)).2)), some (.int (bI ((Fbe fu be (sk T n a + 1)).1 = 0)))) ∧ ((Fbe fu be (sk T n a + 1)).1 = 0 → MTk T n (sk T n a + 1) at2 pl2 tk2 v2 f2) := by
  obtain ⟨e1, -, -⟩ := k.a1 hc hC
  have epl := k.1
  subst e1 epl
  have z1 := hC.1
  unfold Fbe
  have bad : ∀ (c : Nat), 0 < c → c < 5 → ∀ X, X = hup h 88 (oMk b (nI (sk T n a + 1)) (nI (sk T n a)) tk v f (nI c) (fI (sk T n a + 1))) → ∀ y1 y2, Run M_X9_begins 28 [.ref 88, y1, y2] [] X = some (X, some (.int (nI 0))) := by
    intro c c0 c5 X hX y1 y2
    have hmX : X.2.2 88 = some (oMk b (nI (sk T n a + 1)) (nI (sk T n a)) tk v f (nI c) (fI (sk T n a + 1))) := by rw [hX]; exact hup_get
    have w := c_isWell (F := (c, sk T n a + 1)) c5 hmX
    rw [bI_f (show ¬ c = 0 by omega)] at w
    simp only [r_X9_begins_28, r_X9_begins_29, r_X9_begins_32_0, r_X9_begins_32_1, r_X9_begins_32_c, ↓reduceIte, Option.isSome_some, Option.getD_some, rL_v, rL_n, cH_s, List.cons_append, List.nil_append, cat_i, cat_r, cat_n, ofN, ro9 hmX, w]
  by_cases q1 : fu = 1
  · subst q1
    rw [if_pos rfl, bI_f (show ¬ (3 : Nat) = 0 by decide)]
    refine ⟨nI (sk T n a + 1), nI (sk T n a), tk, v, f, ?_, fun z => absurd z (show ¬ (3 : Nat) = 0 by decide)⟩
    rw [← bad 3 (by decide) (by decide) _ rfl (.int (nI 1)) (.int (nI be))]
    show Run M_X9_begins 0 [.ref 88, .int (nI 1), .int (nI be)] [] h = _
    simp only [r_X9_begins_0, r_X9_begins_1, r_X9_begins_4, r_X9_begins_5, r_X9_begins_6, r_X9_begins_9, ↓reduceIte, Option.isSome_some, Option.getD_some, rL_v, rL_n, cH_s, List.cons_append, List.nil_append, cat_i, cat_r, cat_n, ofN, ne10, ro9 hm, c_failsW hm]
  · have q1' : fu = 0 := by omega
    subst q1'
    rw [if_neg q1]
    by_cases q2 : be = 1
    · subst q2
      rw [if_pos rfl, bI_f (show ¬ (4 : Nat) = 0 by decide)]
      refine ⟨nI (sk T n a + 1), nI (sk T n a), tk, v, f, ?_, fun z => absurd z (show ¬ (4 : Nat) = 0 by decide)⟩
      rw [← bad 4 (by decide) (by decide) _ rfl (.int (nI 0)) (.int (nI 1))]
      show Run M_X9_begins 0 [.ref 88, .int (nI 0), .int (nI 1)] [] h = _
      simp only [r_X9_begins_0, r_X9_begins_1, r_X9_begins_12, r_X9_begins_13, r_X9_begins_16, r_X9_begins_17, r_X9_begins_18, r_X9_begins_21, ↓reduceIte, Option.isSome_some, Option.getD_some, rL_v, rL_n, cH_s, List.cons_append, List.nil_append, cat_i, cat_r, cat_n, ofN, ne10, ro9 hm, c_failsW hm]
    · have q2' : be = 0 := by omega
      subst q2'
      rw [if_neg q2, bI_t rfl]
      obtain ⟨at2, pl2, tk2, v2, f2, n1, n2⟩ := c_next (a := sk T n a + 1) hn hT (by omega) hb h98 hm
      have w := c_isWell (h := hup h 88 (oMk b at2 pl2 tk2 v2 f2 (nI 0) (fI 0))) (F := (0, 0)) (by decide) hup_get
      rw [bI_t rfl] at w
      refine ⟨at2, pl2, tk2, v2, f2, ?_, fun _ => n2⟩
      show Run M_X9_begins 0 [.ref 88, .int (nI 0), .int (nI 0)] [] h = _
      simp only [r_X9_begins_0, r_X9_begins_1, r_X9_begins_12, r_X9_begins_13, r_X9_begins_24, r_X9_begins_25, r_X9_begins_28, r_X9_begins_29, r_X9_begins_32_0, r_X9_begins_32_1, r_X9_begins_32_c, ↓reduceIte, Option.isSome_some, Option.getD_some, rL_v, rL_n, cH_s, List.cons_append, List.nil_append, cat_i, cat_r, cat_n, ofN, ro9 hm, n1, rou9, gu9_0, gu9_1, gu9_2, gu9_3, pu9_3, gu9_4, gu9_5, gu9_6, gu9_7, gu9_8, gu9_9, pu9_9, gu9_10, pu9_10, gu9_11, gu9_12, gu9_13, pu9_13, gu9_14, pu9_14, gu9_15, pu9_15, gu9_16, pu9_16, gu9_17, pu9_17, gu9_18, pu9_18, gu9_19, pu9_19, gu9_20, pu9_20, gu9_21, pu9_21, gu9_22, gu9_23, gu9_24, gu9_25, gu9_26, gu9_27, pu9_27, gu9_28, gu9_29, pu9_29, gu9_30, gu9_31, gu9_32, pu9_32, gu9_33, pu9_33, gu9_34, gu9_35, gu9_36, pu9_36, gu9_37, gu9_38, pu9_38, gu9_39, w]
