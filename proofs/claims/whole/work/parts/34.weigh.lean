/-! ===== the mathematical state, and EndOdds.weigh =====
S k i: k = 0 agreed (E L H A B, lags T M by player at 5 + 2p, 6 + 2p, 15 lead, 16 paid, 17 nights, 18 seed), 1 images (19 each), 2 kept, 3 sort, 4 out, 5 key, 6 many, 7 lengths (4p + i), 8 tools (2i, 2i + 1), 9 text, 10 entries (2i, 2i + 1), 11 lines, 12: 0 parts, 1 players, 2 tools, 3 texted, 4 entries, 5 lines, 6 fault's place + 1 -/
abbrev SS : Type := Nat → Nat → Nat
def HOk (S : SS) : Prop := S 12 0 ≤ 7 ∧ ∀ p, p < S 12 0 → S 3 p ≤ 3 ∧ S 4 p ≤ 7 ∧ S 5 p ≤ 11 ∧ 1 ≤ S 6 p ∧ S 6 p ≤ 4 ∧ ∀ i, i < S 6 p → 1 ≤ S 7 (4 * p + i) ∧ S 7 (4 * p + i) ≤ 60
abbrev lenP (S : SS) (p : Nat) : Nat → Nat := fun i => S 7 (4 * p + i)
/-- weights of the ways by which the first p PARTS come to tenth t -/
def Wt (S : SS) : Nat → Nat → Nat
  | 0, t => if t = 0 then 1 else 0
  | p + 1, t => Wt S p t * (S 4 p * S 6 p) + sm (fun i => if S 7 (4 * p + i) ≤ t then Wt S p (t - S 7 (4 * p + i)) * (8 - S 4 p) else 0) (S 6 p)
def rch (S : SS) : Nat → Nat
  | 0 => 0
  | p + 1 => rch S p + mxL (lenP S p) (S 6 p)
def Ch (S : SS) : Nat → Nat
  | 0 => 1
  | p + 1 => Ch S p * (8 * S 6 p)
theorem mxL_ge {f : Nat → Nat} : ∀ c i, i < c → f i ≤ mxL f c
  | 0, i, h => by omega
  | c + 1, i, h => by
    simp only [mxL]
    by_cases e : i = c
    · subst e; omega
    · have := mxL_ge c i (by omega) (f := f); omega
theorem sm_zero {g : Nat → Nat} : ∀ n, (∀ i, i < n → g i = 0) → sm g n = 0
  | 0, _ => rfl
  | n + 1, h => by simp only [sm]; rw [sm_zero n (fun i hi => h i (by omega)), h n (by omega)]
theorem Wt_zero (S : SS) : ∀ p t, rch S p < t → Wt S p t = 0
  | 0, t, h => by simp only [Wt]; rw [if_neg (by simp [rch] at h; omega)]
  | p + 1, t, h => by
    simp only [rch] at h
    simp only [Wt]
    rw [Wt_zero S p t (by omega), Nat.zero_mul, sm_zero]
    intro i hi
    have hm : S 7 (4 * p + i) ≤ mxL (lenP S p) (S 6 p) := mxL_ge (f := lenP S p) (S 6 p) i hi
    split
    · rw [Wt_zero S p _ (by omega), Nat.zero_mul]
    · rfl
theorem rch_le {S : SS} (hS : HOk S) : ∀ p, p ≤ S 12 0 → rch S p ≤ 60 * p
  | 0, _ => Nat.le_refl _
  | p + 1, h => by
    have h1 := rch_le hS p (by omega)
    have h2 := mxL_lt (f := lenP S p) (B := 61) (by decide) (S 6 p) (fun i hi => by have := (hS.2 p (by omega)).2.2.2.2.2 i hi; show S 7 (4 * p + i) < 61; omega)
    simp only [rch]; omega
theorem lN_all (x : Int64) : ∃ n : Nat, x = lN n := ⟨x.toBitVec.toNat, by
  unfold lN
  apply Int64.toBitVec_inj.mp
  simp⟩
theorem jrep (g : Nat → Int64) (F : Nat → Nat) (n : Nat) (h : ∀ t, t < n → g t = lN (F t)) : ∃ G : Nat → Nat, g = (fun t => lN (G t)) ∧ ∀ t, t < n → G t = F t := by
  refine ⟨fun t => if t < n then F t else Classical.choose (lN_all (g t)), ?_, fun t ht => if_pos ht⟩
  funext t
  by_cases ht : t < n
  · dsimp only; rw [if_pos ht]; exact h t ht
  · dsimp only; rw [if_neg ht]; exact Classical.choose_spec (lN_all (g t))
/-! representations -/
def PartR (h : AH) (o : Nat) (S : SS) (p : Nat) : Prop := h.2.2 (o + 7 + 2 * p) = some (oPa (nI (S 3 p)) (nI (S 4 p)) (nI (S 5 p)) (nI (S 6 p)) (o + 8 + 2 * p)) ∧ ∃ g, h.2.2 (o + 8 + 2 * p) = some (iA 4 g) ∧ ∀ i, i < S 6 p → g i = nI (lenP S p i)
def RowR (h : AH) (o : Nat) : Prop := ∃ f, h.2.2 (o + 1) = some (rA 4 7 f) ∧ ∀ p, p < 7 → f p = some (o + 7 + 2 * p)
def BegR (h : AH) : Prop := ∃ f, h.2.2 5 = some (rA 3 8 f) ∧ ∀ q, q < 8 → f q = some (6 + q)
def EoRaw (h : AH) : Prop := (∃ pt, h.2.2 4 = some (oEo 5 14 15 16 pt)) ∧ BegR h ∧ (∀ q, q < 8 → ∃ g, h.2.2 (6 + q) = some (jA 421 g)) ∧ (∃ g, h.2.2 6 = some (jA 421 g) ∧ ∀ t, t < 421 → g t = lN (if t = 0 then 1 else 0)) ∧ (∃ g, h.2.2 14 = some (jA 8 g) ∧ g 0 = lN 1) ∧ (∃ g, h.2.2 15 = some (jA 421 g)) ∧ ∃ g, h.2.2 16 = some (jA 421 g)
def EoR (h : AH) (S : SS) : Prop := h.2.2 4 = some (oEo 5 14 15 16 (nI (S 12 0))) ∧ BegR h ∧ (∀ q, q < 8 → ∃ g, h.2.2 (6 + q) = some (jA 421 g) ∧ (q ≤ S 12 0 → ∀ t, t < 421 → g t = lN (Wt S q t))) ∧ (∃ g, h.2.2 14 = some (jA 8 g) ∧ ∀ q, q ≤ S 12 0 → g q = lN (Ch S q)) ∧ (∃ g, h.2.2 15 = some (jA 421 g) ∧ ∀ t, t < 421 → g t = lN (sm (Wt S (S 12 0)) (t + 1))) ∧ ∃ g, h.2.2 16 = some (jA 421 g) ∧ ∀ t, t < 421 → g t = lN (sm (fun u => Wt S (S 12 0) u * u) (t + 1))
theorem EoR.raw {h : AH} {S : SS} (e : EoR h S) : EoRaw h := by
  obtain ⟨h1, h2, h3, ⟨g4, h4, h4'⟩, ⟨g5, h5, -⟩, ⟨g6, h6, -⟩⟩ := e
  refine ⟨⟨_, h1⟩, h2, fun q hq => ?_, ?_, ⟨_, h4, h4' 0 (Nat.zero_le _)⟩, ⟨_, h5⟩, ⟨_, h6⟩⟩
  · obtain ⟨g, a, -⟩ := h3 q hq; exact ⟨g, a⟩
  · obtain ⟨g, a, b⟩ := h3 0 (by decide)
    exact ⟨g, a, fun t ht => b (Nat.zero_le _) t ht⟩
/-- one PART more -/
theorem Wt_step {S : SS} {p u : Nat} {F G : Nat → Nat} (hF : ∀ t, t < 421 → F t = Wt S p t) (hG : G u = 0) (hu : u < 421) :
    (G u + if u ≤ rch S p then F u * (S 4 p * S 6 p) else 0) + sm (fun i => tm F (8 - S 4 p) (rch S p) (lenP S p i) u) (S 6 p) = Wt S (p + 1) u := by
  simp only [Wt]
  rw [hG, Nat.zero_add]
  congr 1
  · by_cases h1 : u ≤ rch S p
    · rw [if_pos h1, hF u hu]
    · rw [if_neg h1, Wt_zero S p u (by omega), Nat.zero_mul]
  · apply sm_congr
    intro i hi
    unfold tm
    by_cases h1 : S 7 (4 * p + i) ≤ u
    · rw [if_pos h1]
      by_cases h2 : u ≤ rch S p + S 7 (4 * p + i)
      · rw [if_pos ⟨h1, h2, hu⟩, hF _ (by omega)]
      · rw [if_neg (fun q => h2 q.2.1), Wt_zero S p _ (by omega), Nat.zero_mul]
    · rw [if_neg h1, if_neg (fun q => h1 q.1)]
set_option maxHeartbeats 4000000 in
theorem c_weigh {h : AH} {o : Nat} {S : SS} {pl tl : Int32} {ck nt ag : Nat} (hE : EoRaw h) (hH : h.2.2 o = some (oHa (nI (S 12 0)) (o + 1) pl tl ck nt ag)) (hR : RowR h o) (hP : ∀ p, p < S 12 0 → PartR h o S p) (hS : HOk S) (ho : 31 < o) :
    ∃ h', Call M_X2_weigh h [.ref 4, .ref o] = some (h', none) ∧ EoR h' S ∧ (∀ a, a < 4 ∨ 16 < a → h'.2.2 a = h.2.2 a) ∧ h'.1 = h.1 ∧ h'.2.1 = h.2.1 := by
  obtain ⟨⟨pt, e4⟩, ⟨fb, e5, e5'⟩, eR, ⟨g0, e6, e6'⟩, ⟨g14, e14, e14'⟩, ⟨g15, e15⟩, ⟨g16, e16⟩⟩ := hE
  obtain ⟨fr, hr, hr'⟩ := hR
  have hn := hS.1
  have hmin : min (S 12 0) 7 = S 12 0 := by omega
  -- the loop
  have L : ∀ (k p : Nat) (H : AH) (x4 : Value), p + k = S 12 0 → H.1 = h.1 ∧ H.2.1 = h.2.1 → (∀ a, a < 4 ∨ 16 < a → H.2.2 a = h.2.2 a) → H.2.2 4 = some (oEo 5 14 15 16 (nI (S 12 0))) → H.2.2 5 = some (rA 3 8 fb) → (∀ q, q < 8 → ∃ g, H.2.2 (6 + q) = some (jA 421 g) ∧ (q ≤ p → ∀ t, t < 421 → g t = lN (Wt S q t))) → (∃ g, H.2.2 14 = some (jA 8 g) ∧ ∀ q, q ≤ p → g q = lN (Ch S q)) → (∃ g, H.2.2 15 = some (jA 421 g)) → (∃ g, H.2.2 16 = some (jA 421 g)) →
      ∃ h', Run M_X2_weigh 17 [.ref 4, .ref o, .int (nI (rch S p)), .int (nI p), x4] [] H = some (h', none) ∧ EoR h' S ∧ (∀ a, a < 4 ∨ 16 < a → h'.2.2 a = h.2.2 a) ∧ h'.1 = h.1 ∧ h'.2.1 = h.2.1 := by
    intro k
    induction k with
    | zero =>
      intro p H x4 hp hz hfr q4 q5 qR qC q15 q16
      have hp : p = S 12 0 := by omega
      subst hp
      obtain ⟨gr, b1, b2⟩ := qR (S 12 0) (by omega)
      obtain ⟨G, hG, hG2⟩ := jrep gr _ 421 (b2 (Nat.le_refl _))
      rw [hG] at b1
      obtain ⟨c15, q15⟩ := q15
      obtain ⟨c16, q16⟩ := q16
      have cs := c_sumUp (e := 4) q4 b1 q15 q16 (by decide) (by omega) (by omega) (by decide) (by decide) (by omega)
      simp only [r_X2_weigh_17, r_X2_weigh_18, r_X2_weigh_19, r_X2_weigh_22, r_X2_weigh_25, r_X2_weigh_26, r_X2_weigh_29, r_X2_weigh_30, r_X2_weigh_31, r_X2_weigh_33, r_X2_weigh_34, r_X2_weigh_37, r_X2_weigh_38, r_X2_weigh_39, r_X2_weigh_40, r_X2_weigh_41, r_X2_weigh_42, r_X2_weigh_45, r_X2_weigh_47, r_X2_weigh_48, r_X2_weigh_51, r_X2_weigh_52, r_X2_weigh_53, r_X2_weigh_54, r_X2_weigh_57, r_X2_weigh_58, r_X2_weigh_59, r_X2_weigh_60, r_X2_weigh_61, r_X2_weigh_62, r_X2_weigh_65, r_X2_weigh_67, r_X2_weigh_68, r_X2_weigh_71, r_X2_weigh_72, r_X2_weigh_73, r_X2_weigh_74, r_X2_weigh_77, r_X2_weigh_78, r_X2_weigh_79, r_X2_weigh_80, r_X2_weigh_81, r_X2_weigh_82, r_X2_weigh_85, r_X2_weigh_86, r_X2_weigh_89, r_X2_weigh_90, r_X2_weigh_91, r_X2_weigh_92, r_X2_weigh_93, r_X2_weigh_96, r_X2_weigh_97, r_X2_weigh_98, r_X2_weigh_100, r_X2_weigh_103, r_X2_weigh_104, r_X2_weigh_105, r_X2_weigh_106, r_X2_weigh_107, r_X2_weigh_109, r_X2_weigh_112, r_X2_weigh_113, r_X2_weigh_114, r_X2_weigh_117, r_X2_weigh_120, r_X2_weigh_121, r_X2_weigh_122, r_X2_weigh_125, r_X2_weigh_126, r_X2_weigh_129, r_X2_weigh_130, r_X2_weigh_133, ↓reduceIte, Option.isSome_some, Option.getD_some, rL_v, rL_n, cH_s, List.cons_append, List.nil_append, cat_i, cat_r, cat_n, ofN, g2_0 q4, g2_1 q4, g2_2 q4, g2_3 q4, g2_4 q4, ro2 q4, Int32.le_refl, gR_nI q5 (Or.inl rfl) (by decide) (by decide) (e5' (S 12 0) (by omega)) (show S 12 0 < 8 by omega), cs]
      refine ⟨_, rfl, ⟨?_, ⟨fb, ?_, e5'⟩, fun q hq => ?_, ?_, ⟨_, (hup_ne (by decide)).trans hup_get, fun t ht => ?_⟩, ⟨_, hup_get, fun t ht => ?_⟩⟩, fun a ha => ?_, hz.1, hz.2⟩
      · rw [hup_ne (by decide), hup_ne (by decide)]; exact q4
      · rw [hup_ne (by decide), hup_ne (by decide)]; exact q5
      · rw [hup_ne (by omega), hup_ne (by omega)]; exact qR q hq
      · rw [hup_ne (by decide), hup_ne (by decide)]; exact qC
      · rw [if_pos ht, sm_congr (t + 1) (fun i hi => hG2 i (by omega))]
      · rw [if_pos ht, sm_congr (t + 1) (fun i hi => by rw [hG2 i (by omega)])]
      · rw [hup_ne (by omega), hup_ne (by omega)]; exact hfr a ha
    | succ k ih =>
      intro p H x4 hp hz hfr q4 q5 qR qC q15 q16
      have hpn : p < S 12 0 := by omega
      obtain ⟨k1, k2, k3, k4, k5, k6⟩ := hS.2 p hpn
      obtain ⟨hpa, gl, hla, hgl⟩ := hP p hpn
      have hrl := rch_le hS p (by omega)
      have cmp : ¬ nI (S 12 0) ≤ nI p := by rw [nI_le' (by omega) (by omega)]; omega
      have qo : H.2.2 o = some (oHa (nI (S 12 0)) (o + 1) pl tl ck nt ag) := by rw [hfr o (by omega)]; exact hH
      have qr : H.2.2 (o + 1) = some (rA 4 7 fr) := by rw [hfr (o + 1) (by omega)]; exact hr
      obtain ⟨gp, b1, b2⟩ := qR p (by omega)
      obtain ⟨F, hF, hF2⟩ := jrep gp _ 421 (b2 (Nat.le_refl _))
      rw [hF] at b1
      obtain ⟨gq, d1, -⟩ := qR (p + 1) (by omega)
      obtain ⟨gc, qC1, qC2⟩ := qC
      -- fill
      have cf := c_fillJ (v := lN 0) d1 (by decide) (by omega)
      obtain ⟨G, hG, hG2⟩ := jrep (fun t => if t < 421 then lN 0 else gq t) (fun _ => 0) 421 (fun t ht => by rw [if_pos ht])
      rw [hG] at cf
      generalize hH1 : hup H (6 + (p + 1)) (jA 421 (fun t => lN (G t))) = H1 at cf
      have r1 : ∀ a, a ≠ 6 + (p + 1) → H1.2.2 a = H.2.2 a := fun a ha => by rw [← hH1, hup_ne ha]
      have p1 : H1.2.2 (o + 7 + 2 * p) = some (oPa (nI (S 3 p)) (nI (S 4 p)) (nI (S 5 p)) (nI (S 6 p)) (o + 8 + 2 * p)) := by rw [r1 _ (by omega), hfr _ (by omega)]; exact hpa
      have t1 : H1.2.2 (6 + (p + 1)) = some (jA 421 (fun t => lN (G t))) := by rw [← hH1]; exact hup_get
      have f1 : H1.2.2 (6 + p) = some (jA 421 (fun t => lN (F t))) := by rw [r1 _ (by omega)]; exact b1
      have q41 : H1.2.2 4 = some (oEo 5 14 15 16 (nI (S 12 0))) := by rw [r1 _ (by omega)]; exact q4
      have q51 : H1.2.2 5 = some (rA 3 8 fb) := by rw [r1 _ (by omega)]; exact q5
      have ca := c_addLeftOut (r := rch S p) p1 (by omega) (by omega) f1 t1 (by omega) (by omega) (by omega) (by omega)
      generalize hH2 : hup H1 (6 + (p + 1)) (jA 421 (fun u => lN (G u + if u ≤ rch S p then F u * (S 4 p * S 6 p) else 0))) = H2 at ca
      have r2 : ∀ a, a ≠ 6 + (p + 1) → H2.2.2 a = H.2.2 a := fun a ha => by rw [← hH2, hup_ne ha]; exact r1 a ha
      have p2 : H2.2.2 (o + 7 + 2 * p) = some (oPa (nI (S 3 p)) (nI (S 4 p)) (nI (S 5 p)) (nI (S 6 p)) (o + 8 + 2 * p)) := by rw [r2 _ (by omega), hfr _ (by omega)]; exact hpa
      have l2 : H2.2.2 (o + 8 + 2 * p) = some (iA 4 gl) := by rw [r2 _ (by omega), hfr _ (by omega)]; exact hla
      have t2 : H2.2.2 (6 + (p + 1)) = some (jA 421 (fun u => lN (G u + if u ≤ rch S p then F u * (S 4 p * S 6 p) else 0))) := by rw [← hH2]; exact hup_get
      have f2 : H2.2.2 (6 + p) = some (jA 421 (fun t => lN (F t))) := by rw [r2 _ (by omega)]; exact b1
      have q42 : H2.2.2 4 = some (oEo 5 14 15 16 (nI (S 12 0))) := by rw [r2 _ (by omega)]; exact q4
      have q52 : H2.2.2 5 = some (rA 3 8 fb) := by rw [r2 _ (by omega)]; exact q5
      have cp := c_addPlayed (r := rch S p) p2 l2 hgl k5 (fun i hi => by have := (k6 i hi).2; show S 7 (4 * p + i) ≤ _; omega) (by omega) f2 t2 (by omega) (by omega) (by omega) (by omega)
      generalize hH3 : hup H2 (6 + (p + 1)) _ = H3 at cp
      have r3 : ∀ a, a ≠ 6 + (p + 1) → H3.2.2 a = H.2.2 a := fun a ha => by rw [← hH3, hup_ne ha]; exact r2 a ha
      have p3 : H3.2.2 (o + 7 + 2 * p) = some (oPa (nI (S 3 p)) (nI (S 4 p)) (nI (S 5 p)) (nI (S 6 p)) (o + 8 + 2 * p)) := by rw [r3 _ (by omega), hfr _ (by omega)]; exact hpa
      have q43 : H3.2.2 4 = some (oEo 5 14 15 16 (nI (S 12 0))) := by rw [r3 _ (by omega)]; exact q4
      have q53 : H3.2.2 5 = some (rA 3 8 fb) := by rw [r3 _ (by omega)]; exact q5
      have q143 : H3.2.2 14 = some (jA 8 gc) := by rw [r3 _ (by omega)]; exact qC1
      have z3 : H3.1 = h.1 ∧ H3.2.1 = h.2.1 := by rw [← hH3, hup_1, hup_2, ← hH2, hup_1, hup_2, ← hH1, hup_1, hup_2]; exact hz
      have e8 : (nI (8 * S 6 p)).toInt64 = lN (8 * S 6 p) := nI_l (by omega)
      rw [r_X2_weigh_17]
      simp only [r_X2_weigh_18, r_X2_weigh_19, r_X2_weigh_22, r_X2_weigh_25, r_X2_weigh_26, r_X2_weigh_29, r_X2_weigh_30, r_X2_weigh_31, r_X2_weigh_33, r_X2_weigh_34, r_X2_weigh_37, r_X2_weigh_38, r_X2_weigh_39, r_X2_weigh_40, r_X2_weigh_41, r_X2_weigh_42, r_X2_weigh_45, r_X2_weigh_47, r_X2_weigh_48, r_X2_weigh_51, r_X2_weigh_52, r_X2_weigh_53, r_X2_weigh_54, r_X2_weigh_57, r_X2_weigh_58, r_X2_weigh_59, r_X2_weigh_60, r_X2_weigh_61, ↓reduceIte, Option.isSome_some, Option.getD_some, rL_v, rL_n, cH_s, List.cons_append, List.nil_append, cat_i, cat_r, cat_n, ofN, g2_0 q4, g2_1 q4, g2_2 q4, g2_3 q4, g2_4 q4, ro2 q4, g4_0 qo, g4_1 qo, g4_2 qo, g4_3 qo, g4_4 qo, g4_5 qo, g4_6 qo, ro4 qo, cmp, gR_nI qr (Or.inr (Or.inl rfl)) (by decide) (by omega) (hr' p (by omega)) (show p < 7 by omega), nI_add, gR_nI q5 (Or.inl rfl) (by decide) (by decide) (e5' (p + 1) (by omega)) (show p + 1 < 8 by omega), cf, g2_0 q41, g2_1 q41, g2_2 q41, g2_3 q41, g2_4 q41, ro2 q41, gR_nI q51 (Or.inl rfl) (by decide) (by decide) (e5' (p + 1) (by omega)) (show p + 1 < 8 by omega), gR_nI q51 (Or.inl rfl) (by decide) (by decide) (e5' p (by omega)) (show p < 8 by omega)]
      simp only [r_X2_weigh_62, r_X2_weigh_65, r_X2_weigh_67, r_X2_weigh_68, r_X2_weigh_71, r_X2_weigh_72, r_X2_weigh_73, r_X2_weigh_74, r_X2_weigh_77, r_X2_weigh_78, r_X2_weigh_79, r_X2_weigh_80, r_X2_weigh_81, ↓reduceIte, Option.isSome_some, Option.getD_some, rL_v, rL_n, cH_s, List.cons_append, List.nil_append, cat_i, cat_r, cat_n, ofN, ro6 p1, ca, g2_0 q42, g2_1 q42, g2_2 q42, g2_3 q42, g2_4 q42, ro2 q42, nI_add, gR_nI q52 (Or.inl rfl) (by decide) (by decide) (e5' (p + 1) (by omega)) (show p + 1 < 8 by omega), gR_nI q52 (Or.inl rfl) (by decide) (by decide) (e5' p (by omega)) (show p < 8 by omega)]
      simp only [r_X2_weigh_82, r_X2_weigh_85, r_X2_weigh_86, r_X2_weigh_89, r_X2_weigh_90, r_X2_weigh_91, r_X2_weigh_92, r_X2_weigh_93, r_X2_weigh_96, r_X2_weigh_97, r_X2_weigh_98, r_X2_weigh_100, r_X2_weigh_103, r_X2_weigh_104, r_X2_weigh_105, ↓reduceIte, Option.isSome_some, Option.getD_some, rL_v, rL_n, cH_s, List.cons_append, List.nil_append, cat_i, cat_r, cat_n, ofN, ro6 p2, cp, g2_0 q43, g2_1 q43, g2_2 q43, g2_3 q43, g2_4 q43, ro2 q43, nI_add, gJ_nI q143 (by decide) (by decide) (show p < 8 by omega), qC2 p (Nat.le_refl _), ro6 p3, c_choices p3, e8, lN_mul, pJ_nI q143 (by decide) (by decide) (show p + 1 < 8 by omega)]
      generalize hH4 : hup H3 14 (jA 8 (vp_updL gc (p + 1) (lN (Ch S p * (8 * S 6 p))))) = H4
      have r4 : ∀ a, a ≠ 6 + (p + 1) → a ≠ 14 → H4.2.2 a = H.2.2 a := fun a ha hb => by rw [← hH4, hup_ne hb]; exact r3 a ha
      have p4 : H4.2.2 (o + 7 + 2 * p) = some (oPa (nI (S 3 p)) (nI (S 4 p)) (nI (S 5 p)) (nI (S 6 p)) (o + 8 + 2 * p)) := by rw [r4 _ (by omega) (by omega), hfr _ (by omega)]; exact hpa
      have l4 : H4.2.2 (o + 8 + 2 * p) = some (iA 4 gl) := by rw [r4 _ (by omega) (by omega), hfr _ (by omega)]; exact hla
      have cl := c_longest p4 l4 hgl k5 (fun i hi => by have := (k6 i hi).2; show S 7 (4 * p + i) < _; omega)
      simp only [r_X2_weigh_106, r_X2_weigh_107, r_X2_weigh_109, r_X2_weigh_112, r_X2_weigh_113, r_X2_weigh_114, r_X2_weigh_117, ↓reduceIte, Option.isSome_some, Option.getD_some, rL_v, rL_n, cH_s, List.cons_append, List.nil_append, cat_i, cat_r, cat_n, ofN, ro6 p4, cl, nI_add]
      refine ih (p + 1) H4 _ (by omega) (by rw [← hH4, hup_1, hup_2]; exact z3) (fun a ha => by rw [r4 a (by omega) (by omega)]; exact hfr a ha) (by rw [r4 _ (by omega) (by omega)]; exact q4) (by rw [r4 _ (by omega) (by omega)]; exact q5) (fun q hq => ?_) ⟨_, by rw [← hH4]; exact hup_get, fun q hq => ?_⟩ ?_ ?_
      · by_cases hq1 : q = p + 1
        · subst hq1
          refine ⟨_, by rw [← hH4, hup_ne (by omega), ← hH3]; exact hup_get, fun _ t ht => ?_⟩
          rw [Wt_step hF2 (hG2 t ht) ht]
        · obtain ⟨g, y1, y2⟩ := qR q hq
          exact ⟨g, by rw [r4 _ (by omega) (by omega)]; exact y1, fun h9 => y2 (by omega)⟩
      · by_cases hq1 : q = p + 1
        · subst hq1; simp [vp_updL, Ch]
        · simp only [vp_updL]; rw [if_neg hq1]; exact qC2 q (by omega)
      · obtain ⟨g, y⟩ := q15; exact ⟨g, by rw [r4 _ (by omega) (by omega)]; exact y⟩
      · obtain ⟨g, y⟩ := q16; exact ⟨g, by rw [r4 _ (by omega) (by omega)]; exact y⟩
  show ∃ h', Run M_X2_weigh 0 [.ref 4, .ref o, .null, .null, .null] [] h = some (h', none) ∧ _
  have cm := c_min (h := h) (a := S 12 0) (b := 7) (by omega) (by decide)
  rw [hmin] at cm
  simp only [r_X2_weigh_0, r_X2_weigh_1, r_X2_weigh_2, r_X2_weigh_5, r_X2_weigh_7, r_X2_weigh_10, r_X2_weigh_13, r_X2_weigh_14, r_X2_weigh_15, r_X2_weigh_16, ↓reduceIte, Option.isSome_some, Option.getD_some, rL_v, rL_n, cH_s, List.cons_append, List.nil_append, cat_i, cat_r, cat_n, ofN, g2_0 e4, p2_0 e4, g2_1 e4, p2_1 e4, g2_2 e4, p2_2 e4, g2_3 e4, p2_3 e4, g2_4 e4, p2_4 e4, ro2 e4, g4_0 hH, g4_1 hH, g4_2 hH, g4_3 hH, g4_4 hH, g4_5 hH, g4_6 hH, ro4 hH, cm]
  refine L (S 12 0) 0 _ _ (by omega) ⟨rfl, rfl⟩ (fun a ha => hup_ne (by omega)) hup_get ((hup_ne (by decide)).trans e5) (fun q hq => ?_) ⟨g14, (hup_ne (by decide)).trans e14, fun q hq => ?_⟩ ⟨g15, (hup_ne (by decide)).trans e15⟩ ⟨g16, (hup_ne (by decide)).trans e16⟩
  · by_cases h0 : q = 0
    · subst h0; exact ⟨g0, (hup_ne (by decide)).trans e6, fun _ t ht => e6' t ht⟩
    · obtain ⟨g, y⟩ := eR q hq
      exact ⟨g, (hup_ne (by omega)).trans y, fun h9 => by omega⟩
  · have : q = 0 := by omega
    subst this; exact e14'
