/-! ===== what the heap holds of the state: the class (cells 1 to 87), the model (88 to 110) ===== -/
/-- a place less one: 0 is none -/
def fI (n : Nat) : Int32 := nI n - nI 1
def AgX (h : AH) (a : Nat) : Prop := (∃ f0 f1 f2 f3 f4 f7 f8 f9 f10, h.2.2 a = some (oAg f0 f1 f2 f3 f4 (a + 1) (a + 2) f7 f8 f9 f10)) ∧ (∃ f, h.2.2 (a + 1) = some (iA 5 f)) ∧ ∃ f, h.2.2 (a + 2) = some (iA 5 f)
def AgR (h : AH) (a : Nat) (g : Nat → Nat) (n : Nat) : Prop := h.2.2 a = some (oAg (nI (g 0)) (nI (g 1)) (nI (g 2)) (nI (g 3)) (nI (g 4)) (a + 1) (a + 2) (nI (g 15)) (nI (g 16)) (nI (g 17)) (nI (g 18))) ∧ (∃ f, h.2.2 (a + 1) = some (iA 5 f) ∧ ∀ p, p < n → f p = nI (g (5 + 2 * p))) ∧ ∃ f, h.2.2 (a + 2) = some (iA 5 f) ∧ ∀ p, p < n → f p = nI (g (5 + 2 * p + 1))
def PartX (h : AH) (o p : Nat) : Prop := (∃ so lo ky ct, h.2.2 (o + 7 + 2 * p) = some (oPa so lo ky ct (o + 8 + 2 * p))) ∧ ∃ f, h.2.2 (o + 8 + 2 * p) = some (iA 4 f)
def HallX (h : AH) (o : Nat) : Prop := (∃ pt pl tl, h.2.2 o = some (oHa pt (o + 1) pl tl (o + 2) (o + 3) (o + 4))) ∧ RowR h o ∧ (∃ f, h.2.2 (o + 2) = some (iA 5 f)) ∧ (∃ f, h.2.2 (o + 3) = some (iA 5 f)) ∧ AgX h (o + 4) ∧ ∀ p, p < 7 → PartX h o p
def HallR (h : AH) (o : Nat) (S : SS) : Prop := h.2.2 o = some (oHa (nI (S 12 0)) (o + 1) (nI (S 12 1)) (nI (S 12 2)) (o + 2) (o + 3) (o + 4)) ∧ RowR h o ∧ (∃ f, h.2.2 (o + 2) = some (iA 5 f) ∧ ∀ i, i < S 12 2 → f i = nI (S 8 (2 * i))) ∧ (∃ f, h.2.2 (o + 3) = some (iA 5 f) ∧ ∀ i, i < S 12 2 → f i = nI (S 8 (2 * i + 1))) ∧ AgR h (o + 4) (S 0) (S 12 1) ∧ (∀ p, p < 7 → PartX h o p) ∧ ∀ p, p < S 12 0 → PartR h o S p
def RdR (h : AH) (S : SS) : Prop := (∃ fl at' na sg co, h.2.2 2 = some (oRd 3 (nI (S 12 3)) (fI (S 12 6)) fl at' na sg co)) ∧ h.2.2 3 = some (iA 250 (fun i => nI (S 9 i)))
def EnR (h : AH) (S : SS) : Prop := h.2.2 32 = some (oEn 33 34 (nI (S 12 4))) ∧ (∃ f, h.2.2 33 = some (iA 12 f) ∧ ∀ i, i < S 12 4 → f i = nI (S 10 (2 * i))) ∧ ∃ f, h.2.2 34 = some (iA 12 f) ∧ ∀ i, i < S 12 4 → f i = nI (S 10 (2 * i + 1))
def BkR (h : AH) (S : SS) : Prop := h.2.2 35 = some (oBk 36 37 (nI (S 12 5))) ∧ (∃ f, h.2.2 36 = some (iA 20 f) ∧ ∀ i, i < S 12 5 → f i = nI (S 11 (2 * i))) ∧ ∃ f, h.2.2 37 = some (iA 20 f) ∧ ∀ i, i < S 12 5 → f i = nI (S 11 (2 * i + 1))
def ImR (h : AH) (S : SS) : Prop := (∃ f, h.2.2 38 = some (rA 5 2 f) ∧ ∀ i, i < 2 → f i = some (82 + 3 * i)) ∧ h.2.2 39 = some (zA 2 (fun i => nI (S 2 i))) ∧ ∀ i, i < 2 → AgX h (82 + 3 * i) ∧ (S 2 i = 1 → AgR h (82 + 3 * i) (fun k => S 1 (19 * i + k)) (S 12 1))
theorem AgR.x {h : AH} {a n : Nat} {g : Nat → Nat} (r : AgR h a g n) : AgX h a := ⟨⟨_, _, _, _, _, _, _, _, _, r.1⟩, ⟨_, r.2.1.choose_spec.1⟩, ⟨_, r.2.2.choose_spec.1⟩⟩
theorem HallR.x {h : AH} {o : Nat} {S : SS} (r : HallR h o S) : HallX h o := ⟨⟨_, _, _, r.1⟩, r.2.1, ⟨_, r.2.2.1.choose_spec.1⟩, ⟨_, r.2.2.2.1.choose_spec.1⟩, r.2.2.2.2.1.x, r.2.2.2.2.2.1⟩
/-! they lie in these cells -/
theorem AgX.fr {h h' : AH} {a : Nat} (hf : ∀ x, a ≤ x → x ≤ a + 2 → h'.2.2 x = h.2.2 x) (r : AgX h a) : AgX h' a := by
  obtain ⟨h1, h2, h3⟩ := r
  refine ⟨?_, ?_, ?_⟩
  · rw [hf a (by omega) (by omega)]; exact h1
  · rw [hf _ (by omega) (by omega)]; exact h2
  · rw [hf _ (by omega) (by omega)]; exact h3
theorem AgR.fr {h h' : AH} {a n : Nat} {g : Nat → Nat} (hf : ∀ x, a ≤ x → x ≤ a + 2 → h'.2.2 x = h.2.2 x) (r : AgR h a g n) : AgR h' a g n := by
  obtain ⟨h1, h2, h3⟩ := r
  refine ⟨?_, ?_, ?_⟩
  · rw [hf a (by omega) (by omega)]; exact h1
  · rw [hf _ (by omega) (by omega)]; exact h2
  · rw [hf _ (by omega) (by omega)]; exact h3
theorem PartX.fr {h h' : AH} {o p : Nat} (hp : p < 7) (hf : ∀ x, o + 7 ≤ x → x ≤ o + 20 → h'.2.2 x = h.2.2 x) (r : PartX h o p) : PartX h' o p := by
  obtain ⟨h1, h2⟩ := r
  refine ⟨?_, ?_⟩
  · rw [hf _ (by omega) (by omega)]; exact h1
  · rw [hf _ (by omega) (by omega)]; exact h2
theorem PartR.fr {h h' : AH} {o p : Nat} {S : SS} (hp : p < 7) (hf : ∀ x, o + 7 ≤ x → x ≤ o + 20 → h'.2.2 x = h.2.2 x) (r : PartR h o S p) : PartR h' o S p := by
  obtain ⟨h1, h2⟩ := r
  refine ⟨?_, ?_⟩
  · rw [hf _ (by omega) (by omega)]; exact h1
  · rw [hf _ (by omega) (by omega)]; exact h2
theorem RowR.fr {h h' : AH} {o : Nat} (hf : h'.2.2 (o + 1) = h.2.2 (o + 1)) (r : RowR h o) : RowR h' o := by
  unfold RowR; rw [hf]; exact r
theorem HallX.fr {h h' : AH} {o : Nat} (hf : ∀ x, o ≤ x → x ≤ o + 20 → h'.2.2 x = h.2.2 x) (r : HallX h o) : HallX h' o := by
  obtain ⟨h1, h2, h3, h4, h5, h6⟩ := r
  refine ⟨?_, h2.fr (hf _ (by omega) (by omega)), ?_, ?_, h5.fr (fun x a b => hf x (by omega) (by omega)), fun p hp => (h6 p hp).fr hp (fun x a b => hf x (by omega) (by omega))⟩
  · rw [hf _ (by omega) (by omega)]; exact h1
  · rw [hf _ (by omega) (by omega)]; exact h3
  · rw [hf _ (by omega) (by omega)]; exact h4
theorem HallR.fr {h h' : AH} {o : Nat} {S : SS} (hS : S 12 0 ≤ 7) (hf : ∀ x, o ≤ x → x ≤ o + 20 → h'.2.2 x = h.2.2 x) (r : HallR h o S) : HallR h' o S := by
  obtain ⟨h1, h2, h3, h4, h5, h6, h7⟩ := r
  refine ⟨?_, h2.fr (hf _ (by omega) (by omega)), ?_, ?_, h5.fr (fun x a b => hf x (by omega) (by omega)), fun p hp => (h6 p hp).fr hp (fun x a b => hf x (by omega) (by omega)), fun p hp => (h7 p hp).fr (by omega) (fun x a b => hf x (by omega) (by omega))⟩
  · rw [hf _ (by omega) (by omega)]; exact h1
  · rw [hf _ (by omega) (by omega)]; exact h3
  · rw [hf _ (by omega) (by omega)]; exact h4
theorem RdR.fr {h h' : AH} {S : SS} (hf : ∀ x, 2 ≤ x → x ≤ 3 → h'.2.2 x = h.2.2 x) (r : RdR h S) : RdR h' S := by
  obtain ⟨h1, h2⟩ := r
  refine ⟨?_, ?_⟩
  · rw [hf _ (by omega) (by omega)]; exact h1
  · rw [hf _ (by omega) (by omega)]; exact h2
theorem EnR.fr {h h' : AH} {S : SS} (hf : ∀ x, 32 ≤ x → x ≤ 34 → h'.2.2 x = h.2.2 x) (r : EnR h S) : EnR h' S := by
  obtain ⟨h1, h2, h3⟩ := r
  refine ⟨?_, ?_, ?_⟩
  · rw [hf _ (by omega) (by omega)]; exact h1
  · rw [hf _ (by omega) (by omega)]; exact h2
  · rw [hf _ (by omega) (by omega)]; exact h3
theorem BkR.fr {h h' : AH} {S : SS} (hf : ∀ x, 35 ≤ x → x ≤ 37 → h'.2.2 x = h.2.2 x) (r : BkR h S) : BkR h' S := by
  obtain ⟨h1, h2, h3⟩ := r
  refine ⟨?_, ?_, ?_⟩
  · rw [hf _ (by omega) (by omega)]; exact h1
  · rw [hf _ (by omega) (by omega)]; exact h2
  · rw [hf _ (by omega) (by omega)]; exact h3
theorem ImR.fr {h h' : AH} {S : SS} (hf : ∀ x, (38 ≤ x ∧ x ≤ 39) ∨ (82 ≤ x ∧ x ≤ 87) → h'.2.2 x = h.2.2 x) (r : ImR h S) : ImR h' S := by
  obtain ⟨h1, h2, h3⟩ := r
  refine ⟨?_, ?_, fun i hi => ⟨(h3 i hi).1.fr (fun x a b => hf x (by omega)), fun hk => ((h3 i hi).2 hk).fr (fun x a b => hf x (by omega))⟩⟩
  · rw [hf _ (by omega)]; exact h1
  · rw [hf _ (by omega)]; exact h2
theorem EoR.fr {h h' : AH} {S : SS} (hf : ∀ x, 4 ≤ x → x ≤ 16 → h'.2.2 x = h.2.2 x) (r : EoR h S) : EoR h' S := by
  obtain ⟨h1, h2, h3, h4, h5, h6⟩ := r
  refine ⟨?_, ?_, fun q hq => ?_, ?_, ?_, ?_⟩
  · rw [hf _ (by omega) (by omega)]; exact h1
  · unfold BegR; rw [hf _ (by omega) (by omega)]; exact h2
  · rw [hf _ (by omega) (by omega)]; exact h3 q hq
  · rw [hf _ (by omega) (by omega)]; exact h4
  · rw [hf _ (by omega) (by omega)]; exact h5
  · rw [hf _ (by omega) (by omega)]; exact h6
theorem Wt_congr {S S' : SS} (h4 : S' 4 = S 4) (h6 : S' 6 = S 6) (h7 : S' 7 = S 7) : ∀ p, Wt S' p = Wt S p
  | 0 => rfl
  | p + 1 => by
    funext t
    simp only [Wt]
    rw [Wt_congr h4 h6 h7 p, h4, h6, h7]
theorem Ch_congr {S S' : SS} (h6 : S' 6 = S 6) : ∀ p, Ch S' p = Ch S p
  | 0 => rfl
  | p + 1 => by simp only [Ch]; rw [Ch_congr h6 p, h6]
theorem EoR.st {h : AH} {S S' : SS} (h4 : S' 4 = S 4) (h6 : S' 6 = S 6) (h7 : S' 7 = S 7) (h0 : S' 12 0 = S 12 0) (r : EoR h S) : EoR h S' := by
  unfold EoR
  simp only [Wt_congr h4 h6 h7, Ch_congr h6, h0]
  exact r
/-! the model -/
def cM (S : SS) (a : Nat) : Option AC := match a with
  | 89 => some (iA 19 (fun i => nI (S 0 i)))
  | 90 => some (iA 38 (fun i => nI (S 1 i)))
  | 91 => some (zA 2 (fun i => nI (S 2 i)))
  | 92 => some (iA 7 (fun i => nI (S 3 i)))
  | 93 => some (iA 7 (fun i => nI (S 4 i)))
  | 94 => some (iA 7 (fun i => nI (S 5 i)))
  | 95 => some (iA 7 (fun i => nI (S 6 i)))
  | 96 => some (iA 28 (fun i => nI (S 7 i)))
  | 97 => some (iA 10 (fun i => nI (S 8 i)))
  | 98 => some (iA 250 (fun i => nI (S 9 i)))
  | 109 => some (iA 24 (fun i => nI (S 10 i)))
  | 110 => some (iA 40 (fun i => nI (S 11 i)))
  | _ => none
def RepA (h : AH) (S : SS) : Prop := ∀ a c, cM S a = some c → h.2.2 a = some c
def MoR (h : AH) (S : SS) : Prop := ∃ at' pl tk vl fg fl sp spl stl sg co, h.2.2 88 = some (oMo (nI (S 12 0)) (nI (S 12 1)) (nI (S 12 2)) (nI (S 12 3)) at' pl tk vl fg fl (fI (S 12 6)) sp spl stl sg co (nI (S 12 4)) (nI (S 12 5)))
def ScR (h : AH) : Prop := (∀ a, 99 ≤ a → a ≤ 102 → ∃ f, h.2.2 a = some (iA 7 f)) ∧ (∃ f, h.2.2 103 = some (iA 28 f)) ∧ (∃ f, h.2.2 104 = some (iA 10 f)) ∧ (∃ f, h.2.2 105 = some (iA 10 f)) ∧ (∃ f, h.2.2 106 = some (iA 5 f)) ∧ (∃ f, h.2.2 107 = some (jA 421 f)) ∧ ∃ f, h.2.2 108 = some (jA 421 f)
def RepM (h : AH) (S : SS) : Prop := MoR h S ∧ RepA h S ∧ ScR h
def adr (k : Nat) : Nat := match k with
  | 10 => 109
  | 11 => 110
  | k => 89 + k
theorem cM_lt {S : SS} {a : Nat} {c : AC} (h : cM S a = some c) : 88 < a ∧ (a < 99 ∨ 108 < a) := by
  unfold cM at h
  split at h <;> first | (cases h; done) | omega
theorem RepM.fr {h h' : AH} {S : SS} (hf : ∀ x, 88 ≤ x → h'.2.2 x = h.2.2 x) (r : RepM h S) : RepM h' S := by
  obtain ⟨h1, h2, h3, h4, h5, h6, h7, h8, h9⟩ := r
  refine ⟨?_, fun a c hc => ?_, fun a h1 h2 => ?_, ?_, ?_, ?_, ?_, ?_, ?_⟩
  · unfold MoR; rw [hf _ (by omega)]; exact h1
  · have := cM_lt hc
    rw [hf a (by omega)]; exact h2 a c hc
  · rw [hf _ (by omega)]; exact h3 a h1 h2
  · rw [hf _ (by omega)]; exact h4
  · rw [hf _ (by omega)]; exact h5
  · rw [hf _ (by omega)]; exact h6
  · rw [hf _ (by omega)]; exact h7
  · rw [hf _ (by omega)]; exact h8
  · rw [hf _ (by omega)]; exact h9
theorem cM_up {S : SS} {k a : Nat} {f : Nat → Nat} (hk : k < 12) (ha : a ≠ adr k) : cM (va_up S k f) a = cM S a := by
  unfold cM
  split <;> first | rfl | (congr 4; funext i; show nI (va_up S k f _ i) = _; rw [va_up_ne]; intro e; subst e; exact ha rfl)
/-- an array of the model is written -/
theorem RepM.arr {h : AH} {S : SS} {k : Nat} {f : Nat → Nat} {c : AC} (r : RepM h S) (hk : k < 12) (hc : cM (va_up S k f) (adr k) = some c) : RepM (hup h (adr k) c) (va_up S k f) := by
  obtain ⟨h1, h2, h3, h4, h5, h6, h7, h8, h9⟩ := r
  have hA : adr k ≠ 88 ∧ ∀ x, 99 ≤ x → x ≤ 108 → x ≠ adr k := by
    have := cM_lt hc
    exact ⟨by omega, fun x a b => by omega⟩
  refine ⟨?_, fun a c' hc' => ?_, fun a b1 b2 => ?_, ?_, ?_, ?_, ?_, ?_, ?_⟩
  · unfold MoR
    rw [hup_ne (Ne.symm hA.1), va_up_ne S f (show 12 ≠ k by omega)]; exact h1
  · by_cases ha : a = adr k
    · subst ha; rw [hc] at hc'; cases hc'; exact hup_get
    · rw [cM_up hk ha] at hc'; rw [hup_ne ha]; exact h2 a c' hc'
  · rw [hup_ne (hA.2 _ (by omega) (by omega))]; exact h3 a b1 b2
  · rw [hup_ne (hA.2 _ (by omega) (by omega))]; exact h4
  · rw [hup_ne (hA.2 _ (by omega) (by omega))]; exact h5
  · rw [hup_ne (hA.2 _ (by omega) (by omega))]; exact h6
  · rw [hup_ne (hA.2 _ (by omega) (by omega))]; exact h7
  · rw [hup_ne (hA.2 _ (by omega) (by omega))]; exact h8
  · rw [hup_ne (hA.2 _ (by omega) (by omega))]; exact h9
/-- a number of the model is written -/
theorem RepM.obj {h : AH} {S : SS} {f : Nat → Nat} {at' pl tk vl fg fl sp spl stl sg co : Int32} (r : RepM h S) : RepM (hup h 88 (oMo (nI (f 0)) (nI (f 1)) (nI (f 2)) (nI (f 3)) at' pl tk vl fg fl (fI (f 6)) sp spl stl sg co (nI (f 4)) (nI (f 5)))) (va_up S 12 f) := by
  obtain ⟨h1, h2, h3, h4, h5, h6, h7, h8, h9⟩ := r
  refine ⟨⟨at', pl, tk, vl, fg, fl, sp, spl, stl, sg, co, hup_get⟩, fun a c' hc' => ?_, fun a b1 b2 => ?_, ?_, ?_, ?_, ?_, ?_, ?_⟩
  · have := cM_lt hc'
    rw [hup_ne (by omega)]; exact h2 a c' hc'
  · rw [hup_ne (by omega)]; exact h3 a b1 b2
  · rw [hup_ne (by omega)]; exact h4
  · rw [hup_ne (by omega)]; exact h5
  · rw [hup_ne (by omega)]; exact h6
  · rw [hup_ne (by omega)]; exact h7
  · rw [hup_ne (by omega)]; exact h8
  · rw [hup_ne (by omega)]; exact h9
