/-! ===== the state's bounds; the class's whole picture ===== -/
def SOk (g : Nat → Nat) (n : Nat) : Prop := (g 0 ≤ 20 ∧ g 1 ≤ 20 ∧ g 2 ≤ 20 ∧ g 3 ≤ 8 ∧ g 4 ≤ 8) ∧ (∀ p, p < n → g (5 + 2 * p) ≤ 30 ∧ g (5 + 2 * p + 1) ≤ 30) ∧ g 15 < 2 ^ n ∧ g 16 ≤ 999999999 ∧ g 18 < 2147483648
def ImOk (S : SS) : Prop := ∀ i, i < 2 → S 2 i ≤ 1 ∧ (S 2 i = 1 → SOk (fun k => S 1 (19 * i + k)) (S 12 1))
def EnOk (S : SS) : Prop := S 12 4 ≤ 12 ∧ ∀ i, i < S 12 4 → S 10 (2 * i) < S 12 1 ∧ S 10 (2 * i + 1) ≤ 999
def BkOk (S : SS) : Prop := S 12 5 ≤ 20 ∧ ∀ i, i < S 12 5 → S 11 (2 * i) < S 12 0 ∧ S 11 (2 * i + 1) ≤ 60
def TxOk (S : SS) : Prop := S 12 3 ≤ 250 ∧ (∀ i, i < S 12 3 → S 9 i < 256) ∧ S 12 6 ≤ 251
def ToOk (S : SS) : Prop := S 12 1 ≤ 5 ∧ S 12 2 ≤ 5 ∧ ∀ i, i < S 12 2 → S 8 (2 * i) ≤ 11 ∧ S 8 (2 * i + 1) ≤ 99
def Inv (S : SS) : Prop := HOk S ∧ ToOk S ∧ SOk (S 0) (S 12 1) ∧ ImOk S ∧ EnOk S ∧ BkOk S ∧ TxOk S
/-! which PARTS were left out -/
def Wo (S : SS) (set : Nat) : Nat → Nat → Nat
  | 0, t => if t = 0 then 1 else 0
  | p + 1, t => if set.testBit p = true then Wo S set p t * (S 4 p * S 6 p) else sm (fun i => if S 7 (4 * p + i) ≤ t then Wo S set p (t - S 7 (4 * p + i)) * (8 - S 4 p) else 0) (S 6 p)
/-- how many, sure, the likeliest + 1, its weight: by the first k SETS -/
def ofo (S : SS) (t : Nat) : Nat → Nat × Nat × Nat × Nat
  | 0 => (0, 0, 0, 0)
  | k + 1 => if 0 < Wo S k (S 12 0) t then ((ofo S t k).1 + 1, if (ofo S t k).1 = 0 then k else (ofo S t k).2.1 &&& k, if (ofo S t k).2.2.2 < Wo S k (S 12 0) t then k + 1 else (ofo S t k).2.2.1, if (ofo S t k).2.2.2 < Wo S k (S 12 0) t then Wo S k (S 12 0) t else (ofo S t k).2.2.2) else ofo S t k
def LoX (h : AH) : Prop := (∃ f, h.2.2 18 = some (iA 421 f)) ∧ (∃ f, h.2.2 19 = some (iA 421 f)) ∧ (∃ f, h.2.2 20 = some (iA 421 f)) ∧ (∃ f, h.2.2 21 = some (jA 421 f)) ∧ (∃ f, h.2.2 22 = some (rA 3 8 f) ∧ ∀ q, q < 8 → f q = some (23 + q)) ∧ (∀ q, q < 8 → ∃ g, h.2.2 (23 + q) = some (jA 421 g)) ∧ ∃ f, h.2.2 31 = some (iA 8 f)
def LoD (h : AH) (S : SS) : Prop := (∃ f, h.2.2 18 = some (iA 421 f) ∧ ∀ t, t ≤ 420 → f t = nI (ofo S t (2 ^ S 12 0)).1) ∧ (∃ f, h.2.2 19 = some (iA 421 f) ∧ ∀ t, t ≤ 420 → f t = nI (ofo S t (2 ^ S 12 0)).2.1) ∧ ∃ f, h.2.2 20 = some (iA 421 f) ∧ ∀ t, t ≤ 420 → f t = fI (ofo S t (2 ^ S 12 0)).2.2.1
def LoR (h : AH) (S : SS) : Prop := LoX h ∧ ((h.2.2 17 = some (oLo 18 19 20 21 22 31 (nI 0))) ∨ (h.2.2 17 = some (oLo 18 19 20 21 22 31 (nI 1)) ∧ LoD h S))
theorem LoX.fr {h h' : AH} (hf : ∀ x, 17 ≤ x → x ≤ 31 → h'.2.2 x = h.2.2 x) (r : LoX h) : LoX h' := by
  obtain ⟨h1, h2, h3, h4, h5, h6, h7⟩ := r
  refine ⟨?_, ?_, ?_, ?_, ?_, fun q hq => ?_, ?_⟩
  · rw [hf _ (by omega) (by omega)]; exact h1
  · rw [hf _ (by omega) (by omega)]; exact h2
  · rw [hf _ (by omega) (by omega)]; exact h3
  · rw [hf _ (by omega) (by omega)]; exact h4
  · rw [hf _ (by omega) (by omega)]; exact h5
  · rw [hf _ (by omega) (by omega)]; exact h6 q hq
  · rw [hf _ (by omega) (by omega)]; exact h7
theorem LoD.fr {h h' : AH} {S : SS} (hf : ∀ x, 17 ≤ x → x ≤ 31 → h'.2.2 x = h.2.2 x) (r : LoD h S) : LoD h' S := by
  obtain ⟨h1, h2, h3⟩ := r
  refine ⟨?_, ?_, ?_⟩
  · rw [hf _ (by omega) (by omega)]; exact h1
  · rw [hf _ (by omega) (by omega)]; exact h2
  · rw [hf _ (by omega) (by omega)]; exact h3
theorem LoR.fr {h h' : AH} {S : SS} (hf : ∀ x, 17 ≤ x → x ≤ 31 → h'.2.2 x = h.2.2 x) (r : LoR h S) : LoR h' S := by
  refine ⟨r.1.fr hf, ?_⟩
  rw [hf 17 (by omega) (by omega)]
  rcases r.2 with h1 | ⟨h1, h2⟩
  · exact Or.inl h1
  · exact Or.inr ⟨h1, h2.fr hf⟩
theorem Wo_congr {S S' : SS} (h4 : S' 4 = S 4) (h6 : S' 6 = S 6) (h7 : S' 7 = S 7) (set : Nat) : ∀ p, Wo S' set p = Wo S set p
  | 0 => rfl
  | p + 1 => by
    funext t
    simp only [Wo]
    rw [Wo_congr h4 h6 h7 set p, h4, h6, h7]
theorem ofo_congr {S S' : SS} (h4 : S' 4 = S 4) (h6 : S' 6 = S 6) (h7 : S' 7 = S 7) (h0 : S' 12 0 = S 12 0) (t : Nat) : ∀ k, ofo S' t k = ofo S t k
  | 0 => rfl
  | k + 1 => by
    simp only [ofo]
    rw [ofo_congr h4 h6 h7 h0 t k, Wo_congr h4 h6 h7, h0]
theorem LoR.st {h : AH} {S S' : SS} (h4 : S' 4 = S 4) (h6 : S' 6 = S 6) (h7 : S' 7 = S 7) (h0 : S' 12 0 = S 12 0) (r : LoR h S) : LoR h S' := by
  refine ⟨r.1, ?_⟩
  rcases r.2 with h1 | ⟨h1, h2⟩
  · exact Or.inl h1
  · refine Or.inr ⟨h1, ?_⟩
    unfold LoD
    simp only [ofo_congr h4 h6 h7 h0, h0]
    exact h2
/-! the class -/
def RepCo (h : AH) (S : SS) (o : Nat) : Prop := (o = 40 ∨ o = 61) ∧ h.2.2 1 = some (oCz 2 4 17 32 35 38 39 o (101 - o)) ∧ RdR h S ∧ HallR h o S ∧ HallX h (101 - o) ∧ EoR h S ∧ LoR h S ∧ EnR h S ∧ BkR h S ∧ ImR h S
def RepC (h : AH) (S : SS) : Prop := ∃ o, RepCo h S o
def frC (h h' : AH) : Prop := (∀ a, a = 0 ∨ 88 ≤ a → h'.2.2 a = h.2.2 a) ∧ h'.1 = h.1 ∧ h'.2.1 = h.2.1
def frM (h h' : AH) : Prop := (∀ a, a < 88 → h'.2.2 a = h.2.2 a) ∧ h'.1 = h.1 ∧ h'.2.1 = h.2.1
theorem RepC.fr {h h' : AH} {S : SS} (hS : S 12 0 ≤ 7) (hf : ∀ a, a < 88 → h'.2.2 a = h.2.2 a) (r : RepC h S) : RepC h' S := by
  obtain ⟨o, h0, h1, h2, h3, h4, h5, h6, h7, h8, h9⟩ := r
  refine ⟨o, h0, by rw [hf 1 (by omega)]; exact h1, h2.fr (fun x _ _ => hf x (by omega)), h3.fr hS (fun x _ _ => hf x (by omega)), h4.fr (fun x _ _ => hf x (by omega)), h5.fr (fun x _ _ => hf x (by omega)), h6.fr (fun x _ _ => hf x (by omega)), h7.fr (fun x _ _ => hf x (by omega)), h8.fr (fun x _ _ => hf x (by omega)), h9.fr (fun x _ => hf x (by omega))⟩
/-- what is agreed is written -/
theorem RepCo.ag {h h' : AH} {S : SS} {o : Nat} {g : Nat → Nat} (hS : S 12 0 ≤ 7) (r : RepCo h S o) (hf : ∀ x, x < o + 4 ∨ o + 6 < x → h'.2.2 x = h.2.2 x) (ha : AgR h' (o + 4) g (S 12 1)) : RepCo h' (va_up S 0 g) o := by
  obtain ⟨h0, h1, h2, h3, h4, h5, h6, h7, h8, h9⟩ := r
  obtain ⟨q1, q2, q3, q4, q5, q6, q7⟩ := h3
  refine ⟨h0, ?_, h2.fr (fun x _ _ => hf x (by omega)), ⟨?_, q2.fr (hf _ (by omega)), ?_, ?_, ha, fun p hp => (q6 p hp).fr hp (fun x _ _ => hf x (by omega)), fun p (hp : p < S 12 0) => (q7 p hp).fr (by omega) (fun x _ _ => hf x (by omega))⟩, h4.fr (fun x _ _ => hf x (by omega)), EoR.st (S := S) (S' := va_up S 0 g) rfl rfl rfl rfl (h5.fr (fun x _ _ => hf x (by omega))), LoR.st (S := S) (S' := va_up S 0 g) rfl rfl rfl rfl (h6.fr (fun x _ _ => hf x (by omega))), h7.fr (fun x _ _ => hf x (by omega)), h8.fr (fun x _ _ => hf x (by omega)), h9.fr (fun x _ => hf x (by omega))⟩
  · rw [hf 1 (by omega)]; exact h1
  · rw [hf o (by omega)]; exact q1
  · rw [hf _ (by omega)]; exact q3
  · rw [hf _ (by omega)]; exact q4
/-- the reader is written -/
theorem RepCo.rd {h h' : AH} {S S' : SS} {o : Nat} (hS : S 12 0 ≤ 7) (r : RepCo h S o) (hf : ∀ x, x < 2 ∨ 3 < x → h'.2.2 x = h.2.2 x) (hq : ∀ k, k ≠ 9 → k ≠ 12 → S' k = S k) (hq2 : ∀ i, i ≠ 3 → i ≠ 6 → S' 12 i = S 12 i) (ha : RdR h' S') : RepCo h' S' o := by
  obtain ⟨h0, h1, h2, h3, h4, h5, h6, h7, h8, h9⟩ := r
  have h3' := h3.fr hS (fun x _ _ => hf x (by omega))
  have h7' := h7.fr (fun x _ _ => hf x (by omega))
  have h8' := h8.fr (fun x _ _ => hf x (by omega))
  have h9' := h9.fr (fun x _ => hf x (by omega))
  refine ⟨h0, by rw [hf 1 (by omega)]; exact h1, ha, ?_, h4.fr (fun x _ _ => hf x (by omega)), (h5.fr (fun x _ _ => hf x (by omega))).st (hq 4 (by decide) (by decide)) (hq 6 (by decide) (by decide)) (hq 7 (by decide) (by decide)) (hq2 0 (by decide) (by decide)), (h6.fr (fun x _ _ => hf x (by omega))).st (hq 4 (by decide) (by decide)) (hq 6 (by decide) (by decide)) (hq 7 (by decide) (by decide)) (hq2 0 (by decide) (by decide)), ?_, ?_, ?_⟩
  · unfold HallR PartR lenP
    rw [hq2 0 (by decide) (by decide), hq2 1 (by decide) (by decide), hq2 2 (by decide) (by decide), hq 8 (by decide) (by decide), hq 0 (by decide) (by decide), hq 3 (by decide) (by decide), hq 4 (by decide) (by decide), hq 5 (by decide) (by decide), hq 6 (by decide) (by decide), hq 7 (by decide) (by decide)]
    exact h3'
  · unfold EnR; rw [hq2 4 (by decide) (by decide), hq 10 (by decide) (by decide)]; exact h7'
  · unfold BkR; rw [hq2 5 (by decide) (by decide), hq 11 (by decide) (by decide)]; exact h8'
  · unfold ImR; rw [hq2 1 (by decide) (by decide), hq 1 (by decide) (by decide), hq 2 (by decide) (by decide)]; exact h9'
/-- a record is written -/
theorem RepCo.rc {h h' : AH} {S S' : SS} {o : Nat} (hS : S 12 0 ≤ 7) (r : RepCo h S o) (hf : ∀ x, x < 32 ∨ 37 < x → h'.2.2 x = h.2.2 x) (hq : ∀ k, k ≠ 10 → k ≠ 11 → k ≠ 12 → S' k = S k) (hq2 : ∀ i, i ≠ 4 → i ≠ 5 → S' 12 i = S 12 i) (ha : EnR h' S') (hb : BkR h' S') : RepCo h' S' o := by
  obtain ⟨h0, h1, h2, h3, h4, h5, h6, h7, h8, h9⟩ := r
  have h2' := h2.fr (fun x _ _ => hf x (by omega))
  have h3' := h3.fr hS (fun x _ _ => hf x (by omega))
  have h9' := h9.fr (fun x _ => hf x (by omega))
  refine ⟨h0, by rw [hf 1 (by omega)]; exact h1, ?_, ?_, h4.fr (fun x _ _ => hf x (by omega)), (h5.fr (fun x _ _ => hf x (by omega))).st (hq 4 (by decide) (by decide) (by decide)) (hq 6 (by decide) (by decide) (by decide)) (hq 7 (by decide) (by decide) (by decide)) (hq2 0 (by decide) (by decide)), (h6.fr (fun x _ _ => hf x (by omega))).st (hq 4 (by decide) (by decide) (by decide)) (hq 6 (by decide) (by decide) (by decide)) (hq 7 (by decide) (by decide) (by decide)) (hq2 0 (by decide) (by decide)), ha, hb, ?_⟩
  · unfold RdR; rw [hq2 3 (by decide) (by decide), hq2 6 (by decide) (by decide), hq 9 (by decide) (by decide) (by decide)]; exact h2'
  · unfold HallR PartR lenP
    rw [hq2 0 (by decide) (by decide), hq2 1 (by decide) (by decide), hq2 2 (by decide) (by decide), hq 8 (by decide) (by decide) (by decide), hq 0 (by decide) (by decide) (by decide), hq 3 (by decide) (by decide) (by decide), hq 4 (by decide) (by decide) (by decide), hq 5 (by decide) (by decide) (by decide), hq 6 (by decide) (by decide) (by decide), hq 7 (by decide) (by decide) (by decide)]
    exact h3'
  · unfold ImR; rw [hq2 1 (by decide) (by decide), hq 1 (by decide) (by decide) (by decide), hq 2 (by decide) (by decide) (by decide)]; exact h9'
/-- an image is written -/
theorem RepCo.im {h h' : AH} {S S' : SS} {o : Nat} (hS : S 12 0 ≤ 7) (r : RepCo h S o) (hf : ∀ x, x ≠ 39 → x < 82 ∨ 87 < x → h'.2.2 x = h.2.2 x) (hq : ∀ k, k ≠ 1 → k ≠ 2 → S' k = S k) (ha : ImR h' S') : RepCo h' S' o := by
  obtain ⟨h0, h1, h2, h3, h4, h5, h6, h7, h8, h9⟩ := r
  have e : ∀ k, k ≠ 1 → k ≠ 2 → S' k = S k := hq
  have h2' := h2.fr (fun x _ _ => hf x (by omega) (by omega))
  have h3' := h3.fr hS (fun x _ _ => hf x (by omega) (by omega))
  have h7' := h7.fr (fun x _ _ => hf x (by omega) (by omega))
  have h8' := h8.fr (fun x _ _ => hf x (by omega) (by omega))
  have q12 := hq 12 (by decide) (by decide)
  refine ⟨h0, by rw [hf 1 (by omega) (by omega)]; exact h1, ?_, ?_, h4.fr (fun x _ _ => hf x (by omega) (by omega)), (h5.fr (fun x _ _ => hf x (by omega) (by omega))).st (hq 4 (by decide) (by decide)) (hq 6 (by decide) (by decide)) (hq 7 (by decide) (by decide)) (by rw [q12]), (h6.fr (fun x _ _ => hf x (by omega) (by omega))).st (hq 4 (by decide) (by decide)) (hq 6 (by decide) (by decide)) (hq 7 (by decide) (by decide)) (by rw [q12]), ?_, ?_, ha⟩
  · unfold RdR; rw [q12, hq 9 (by decide) (by decide)]; exact h2'
  · unfold HallR PartR lenP
    rw [q12, hq 8 (by decide) (by decide), hq 0 (by decide) (by decide), hq 3 (by decide) (by decide), hq 4 (by decide) (by decide), hq 5 (by decide) (by decide), hq 6 (by decide) (by decide), hq 7 (by decide) (by decide)]
    exact h3'
  · unfold EnR; rw [q12, hq 10 (by decide) (by decide)]; exact h7'
  · unfold BkR; rw [q12, hq 11 (by decide) (by decide)]; exact h8'
/-! a call of both -/
def OpV (mc mm : MI) (av : List Value) (S : SS) : Prop := ∃ (r : Value) (S' : SS), Inv S' ∧ (∀ h, RepC h S → ∃ h', Call mc h (.ref 1 :: av) = some (h', some r) ∧ RepC h' S' ∧ frC h h') ∧ ∀ h, RepM h S → ∃ h', Call mm h (.ref 88 :: av) = some (h', some r) ∧ RepM h' S' ∧ frM h h'
theorem frC.rf {h : AH} : frC h h := ⟨fun _ _ => rfl, rfl, rfl⟩
theorem frM.rf {h : AH} : frM h h := ⟨fun _ _ => rfl, rfl, rfl⟩
theorem OpV.read {mc mm : MI} {av : List Value} {S : SS} {r : Value} (hI : Inv S) (hC : ∀ h, RepC h S → Call mc h (.ref 1 :: av) = some (h, some r)) (hM : ∀ h, RepM h S → Call mm h (.ref 88 :: av) = some (h, some r)) : OpV mc mm av S := ⟨r, S, hI, fun h hr => ⟨h, hC h hr, hr, frC.rf⟩, fun h hr => ⟨h, hM h hr, hr, frM.rf⟩⟩
theorem rng {x : Int32} {B : Nat} (hB : B < 2147483648) (h : nI 0 ≤ x ∧ x ≤ nI B) : ∃ j, j ≤ B ∧ x = nI j := by
  have h0 : ¬ x < 0 := by
    intro q
    have := h.1
    rw [Int32.le_iff_toInt_le] at this
    rw [Int32.lt_iff_toInt_lt] at q
    have e : (nI 0).toInt = 0 := by decide
    have e2 : (0 : Int32).toInt = 0 := by decide
    omega
  exact nI_of2 (nI_toInt hB) h0 h.2
theorem rng_in {j B : Nat} (hB : B < 2147483648) (h : j ≤ B) : (nI 0 ≤ nI j ∧ nI j ≤ nI B) := ⟨by rw [nI_le' (by decide) (by omega)]; omega, by rw [nI_le' (by omega) hB]; exact h⟩
theorem rngP {x : Int32} {n : Nat} (hn : n < 2147483648) (h : nI 0 ≤ x ∧ x ≤ nI n - nI 1) : ∃ j, j < n ∧ x = nI j := by
  cases n with
  | zero =>
    exfalso
    have h1 : nI 0 ≤ nI 0 - nI 1 := Int32.le_trans h.1 h.2
    exact absurd h1 (by decide)
  | succ m =>
    rw [nI_s (by omega : 1 ≤ m + 1), Nat.add_sub_cancel] at h
    obtain ⟨j, h1, h2⟩ := rng (by omega) h
    exact ⟨j, by omega, h2⟩
theorem rngP_in {j n : Nat} (hn : n < 2147483648) (h : j < n) : (nI 0 ≤ nI j ∧ nI j ≤ nI n - nI 1) := by
  rw [nI_s (by omega : 1 ≤ n)]
  exact rng_in (by omega) (by omega)
