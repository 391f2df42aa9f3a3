/-! ===== what a picture says of the real machine ===== -/
def al (b base a : Nat) : Nat := match a with
  | 0 => b
  | k + 1 => base + k
def cv (b base : Nat) (v : Value) : Value := match v with
  | .ref a => .ref (al b base a)
  | v => v
theorem cv_cat (b base : Nat) (v : Value) : (cv b base v).category = v.category := by cases v <;> rfl
theorem al_inj {b base a a' : Nat} (hb : b < base) (h : al b base a = al b base a') : a = a' := by
  cases a with
  | zero => cases a' with
    | zero => rfl
    | succ k => exfalso; simp only [al] at h; omega
  | succ j => cases a' with
    | zero => exfalso; simp only [al] at h; omega
    | succ k => simp only [al] at h; omega
def tb : List Cond := lw_tbl.filter goodWord
/-! the locals -/
def lvF (b base : Nat) (L : List Value) (i : Nat) : Option (Nat × Value) := match L[i]? with
  | some .null => none
  | some v => some (i, cv b base v)
  | none => none
def lvl (b base : Nat) (L : List Value) : List (Nat × Value) := (List.range L.length).filterMap (lvF b base L)
theorem lvF_some {b base : Nat} {L : List Value} {i : Nat} {q : Nat × Value} : lvF b base L i = some q ↔ ∃ v, L[i]? = some v ∧ v ≠ .null ∧ q = (i, cv b base v) := by
  unfold lvF
  cases hL : L[i]? with
  | none => simp
  | some v => cases v <;> simp [eq_comm]
theorem lvl_mem {b base : Nat} {L : List Value} {q : Nat × Value} : q ∈ lvl b base L ↔ ∃ v, L[q.1]? = some v ∧ v ≠ .null ∧ q.2 = cv b base v := by
  unfold lvl
  rw [List.mem_filterMap]
  constructor
  · rintro ⟨i, -, hi⟩
    obtain ⟨v, h1, h2, rfl⟩ := lvF_some.mp hi
    exact ⟨v, h1, h2, rfl⟩
  · rintro ⟨v, h1, h2, h3⟩
    refine ⟨q.1, List.mem_range.mpr (List.getElem?_eq_some_iff.mp h1).1, lvF_some.mpr ⟨v, h1, h2, ?_⟩⟩
    rw [← h3]
def LR (b base : Nat) (ls : Array Slot) (nL : Nat) (L : List Value) : Prop := L.length = nL ∧ lv_has ls nL (lvl b base L)
theorem LR.at {b base nL i : Nat} {ls : Array Slot} {L : List Value} {v : Value} (h : LR b base ls nL L) (hi : L[i]? = some v) (hv : v ≠ .null) : ls[i]? = some (.val (cv b base v)) := h.2.2.2 (i, cv b base v) (lvl_mem.mpr ⟨v, hi, hv, rfl⟩)
theorem LR.st1 {b base nL i : Nat} {ls ls' : Array Slot} {L : List Value} {v : Value} (h : LR b base ls nL L) (hi : i < L.length) (hc : catP L i = true)
    (h' : lv_has ls' nL ((i, cv b base v) :: (lvl b base L).filter (fun q => !(q.1 == i) && !(q.1 + 1 == i && q.2.category == 2)))) : LR b base ls' nL (L.set i v) := by
  refine ⟨by rw [List.length_set]; exact h.1, h'.1, h'.2.1, fun q hq => ?_⟩
  obtain ⟨w, h1, h2, h3⟩ := lvl_mem.mp hq
  by_cases hj : q.1 = i
  · rw [hj, List.getElem?_set_self hi] at h1
    cases h1
    have := h'.2.2 (i, cv b base v) List.mem_cons_self
    rw [hj, h3]
    exact this
  · rw [List.getElem?_set_ne (fun e => hj e.symm)] at h1
    refine h'.2.2 q (List.mem_cons_of_mem _ (List.mem_filter.mpr ⟨lvl_mem.mpr ⟨w, h1, h2, h3⟩, ?_⟩))
    have e1 : (q.1 == i) = false := by simpa using hj
    rw [e1]
    by_cases hk : q.1 + 1 = i
    · rw [← hk] at hc
      simp only [catP, h1] at hc
      rw [h3, cv_cat]
      have : w.category = 1 := by simpa using hc
      simp [this]
    · have : (q.1 + 1 == i) = false := by simpa using hk
      simp [this]
theorem LR.st2 {b base nL i : Nat} {ls ls' : Array Slot} {L : List Value} {v : Value} (h : LR b base ls nL L) (hi : i + 1 < L.length) (hc : catP L i = true)
    (h' : lv_has ls' nL ((i, cv b base v) :: (lvl b base L).filter (fun q => !(q.1 == i) && (!(q.1 == i + 1) && !(q.1 + 1 == i && q.2.category == 2))))) : LR b base ls' nL ((L.set i v).set (i + 1) .null) := by
  refine ⟨by rw [List.length_set, List.length_set]; exact h.1, h'.1, h'.2.1, fun q hq => ?_⟩
  obtain ⟨w, h1, h2, h3⟩ := lvl_mem.mp hq
  by_cases hj1 : q.1 = i + 1
  · rw [hj1, List.getElem?_set_self (by rw [List.length_set]; exact hi)] at h1
    cases h1
    exact absurd rfl h2
  rw [List.getElem?_set_ne (fun e => hj1 e.symm)] at h1
  by_cases hj : q.1 = i
  · rw [hj, List.getElem?_set_self (by omega)] at h1
    cases h1
    have := h'.2.2 (i, cv b base v) List.mem_cons_self
    rw [hj, h3]
    exact this
  · rw [List.getElem?_set_ne (fun e => hj e.symm)] at h1
    refine h'.2.2 q (List.mem_cons_of_mem _ (List.mem_filter.mpr ⟨lvl_mem.mpr ⟨w, h1, h2, h3⟩, ?_⟩))
    have e1 : (q.1 == i) = false := by simpa using hj
    have e2 : (q.1 == i + 1) = false := by simpa using hj1
    rw [e1, e2]
    by_cases hk : q.1 + 1 = i
    · rw [← hk] at hc
      simp only [catP, h1] at hc
      rw [h3, cv_cat]
      have : w.category = 1 := by simpa using hc
      simp [this]
    · have : (q.1 + 1 == i) = false := by simpa using hk
      simp [this]
theorem flat_mem (b base : Nat) : ∀ (vs : List Value) (k j : Nat) (w : Value), (flat vs)[j]? = some w → w ≠ .null → (k + j, cv b base w) ∈ lv_args k (vs.map (cv b base))
  | [], k, j, w, h, _ => by simp [flat] at h
  | v :: vs, k, j, w, h, hw => by
    show (k + j, cv b base w) ∈ (k, cv b base v) :: lv_args (if (cv b base v).category = 2 then k + 2 else k + 1) (vs.map (cv b base))
    rw [cv_cat]
    unfold flat at h
    by_cases hc : v.category = 2
    · rw [if_pos hc] at h ⊢
      match j, h with
      | 0, h => cases h; exact List.mem_cons_self
      | 1, h => cases h; exact absurd rfl hw
      | j + 2, h =>
        have := flat_mem b base vs (k + 2) j w h hw
        rw [show k + (j + 2) = k + 2 + j by omega]
        exact List.mem_cons_of_mem _ this
    · rw [if_neg hc] at h ⊢
      match j, h with
      | 0, h => cases h; exact List.mem_cons_self
      | j + 1, h =>
        have := flat_mem b base vs (k + 1) j w h hw
        rw [show k + (j + 1) = k + 1 + j by omega]
        exact List.mem_cons_of_mem _ this
theorem lg_flat (b base : Nat) (vs : List Value) : (lg_sl (vs.map (cv b base))).length = (flat vs).length := by
  induction vs with
  | nil => rfl
  | cons v vs ih =>
    unfold flat
    simp only [lg_sl, List.map_cons, List.flatMap_cons, List.length_append] at ih ⊢
    rw [cv_cat, ih]
    by_cases hc : v.category = 2
    · rw [if_pos hc, if_pos hc]
      simp; omega
    · rw [if_neg hc, if_neg hc]
      simp; omega
theorem LR.ent {b base nL : Nat} {vs : List Value} (hn : (flat vs).length ≤ nL) : LR b base ((lg_sl (vs.map (cv b base)) ++ List.replicate (nL - (lg_sl (vs.map (cv b base))).length) Slot.unset).toArray) nL (ent nL vs) := by
  have h := lv_entry (vs.map (cv b base)) (n := nL) (by rw [lg_flat]; exact hn)
  refine ⟨by unfold Jvm.Pilot.CCadenzaEndsLaw_law_r3792_ef4b39.ent; simp; omega, h.1, h.2.1, fun q hq => ?_⟩
  obtain ⟨w, h1, h2, h3⟩ := lvl_mem.mp hq
  unfold Jvm.Pilot.CCadenzaEndsLaw_law_r3792_ef4b39.ent at h1
  by_cases hj : q.1 < (flat vs).length
  · rw [List.getElem?_append_left hj] at h1
    have := flat_mem b base vs 0 q.1 w h1 h2
    rw [Nat.zero_add, ← h3] at this
    exact h.2.2 q this
  · rw [List.getElem?_append_right (by omega), List.getElem?_replicate] at h1
    split at h1
    · cases h1; exact absurd rfl h2
    · cases h1
/-! the heap -/
def cAr (b base : Nat) (x : vp_A) : vp_A := match x with
  | (n, .inr (.inr (.inr (.inr f)))) => (n, .inr (.inr (.inr (.inr (fun j => (f j).map (al b base))))))
  | y => y
def cellR (D : va_G) (b base : Nat) (U : State) (H : Heap) (a : Nat) (c : AC) : Prop := match c with
  | .inl q => (a = 0 ∧ q.1 = 0 ∧ ∃ f, q.2.2 = .inl f ∧ va_X b q.2.1 f U H) ∨ (a ≠ 0 ∧ ∃ cy : ClassId, H[al b base a]? = some (vp_cell cy (cAr b base q.2)) ∧ ArrOfT U cy (tyN q.1) ∧ va_RA U cy (tyN q.1))
  | .inr q => a ≠ 0 ∧ q.1 < 10 ∧ q.2.length = nmF q.1 ∧ t_OB (al b base a) (D.1 q.1) (nmF q.1) (D.2 q.1) H (vp_V (q.2.map (cv b base)))
def heapR (D : va_G) (b base : Nat) (U : State) (H : Heap) (h : AH) : Prop := b < base ∧ 1 ≤ h.1 ∧ H.size = al b base h.1 ∧ ∀ a c, h.2.2 a = some c → a < h.1 ∧ cellR D b base U H a c
theorem cellR.kept {D : va_G} {b base : Nat} {U : State} {H H1 : Heap} {a : Nat} {c : AC} (h : cellR D b base U H a c) (hq : H1[al b base a]? = H[al b base a]?) : cellR D b base U H1 a c := by
  cases c with
  | inl q =>
    rcases h with ⟨rfl, h0, f, h1, h2⟩ | ⟨h0, cy, h1, h2⟩
    · exact Or.inl ⟨rfl, h0, f, h1, h2.kept hq⟩
    · exact Or.inr ⟨h0, cy, by rw [hq]; exact h1, h2⟩
  | inr q => exact ⟨h.1, h.2.1, h.2.2.1, h.2.2.2.kept hq⟩
theorem cellR.moved {D : va_G} {b base : Nat} {u U : State} {H : Heap} {a : Nat} {c : AC} (hvm : u.vm.Alike U.vm) (h : cellR D b base u H a c) : cellR D b base U H a c := by
  cases c with
  | inl q =>
    rcases h with ⟨rfl, h0, f, h1, h2⟩ | ⟨h0, cy, h1, h2, h3⟩
    · exact Or.inl ⟨rfl, h0, f, h1, h2.moved hvm⟩
    · exact Or.inr ⟨h0, cy, h1, arrOfT_moved hvm h2, h3.moved hvm⟩
  | inr q => exact h
theorem heapR.moved {D : va_G} {b base : Nat} {u U : State} {H : Heap} {h : AH} (hvm : u.vm.Alike U.vm) (hh : heapR D b base u H h) : heapR D b base U H h := ⟨hh.1, hh.2.1, hh.2.2.1, fun a c hc => ⟨(hh.2.2.2 a c hc).1, (hh.2.2.2 a c hc).2.moved hvm⟩⟩
theorem heapR.put {D : va_G} {b base : Nat} {U : State} {H H1 : Heap} {h : AH} {a : Nat} {c0 c : AC} (hh : heapR D b base U H h) (h0 : h.2.2 a = some c0) (hz : H1.size = H.size) (ho : ∀ q : Nat, q ≠ al b base a → H1[q]? = H[q]?) (hc : cellR D b base U H1 a c) : heapR D b base U H1 (hup h a c) := by
  refine ⟨hh.1, hh.2.1, hz.trans hh.2.2.1, fun a' c' hc' => ?_⟩
  by_cases he : a' = a
  · subst he
    simp only [hup, if_pos] at hc'
    cases hc'
    exact ⟨(hh.2.2.2 _ _ h0).1, hc⟩
  · simp only [hup, if_neg he] at hc'
    exact ⟨(hh.2.2.2 _ _ hc').1, (hh.2.2.2 _ _ hc').2.kept (ho _ (fun q => he (al_inj hh.1 q)))⟩
theorem al_lt {b base a k : Nat} (hb : b < base) (hk : 1 ≤ k) (h : a < k) : al b base a < al b base k := by
  cases k with
  | zero => omega
  | succ k => cases a with
    | zero => simp only [al]; omega
    | succ a => simp only [al]; omega
theorem al_add {b base k n : Nat} (hk : 1 ≤ k) : al b base (k + n) = al b base k + n := by
  cases k with
  | zero => omega
  | succ k => rw [show k + 1 + n = (k + n) + 1 by omega]; simp only [al]; omega
theorem heapR.push {D : va_G} {b base : Nat} {U : State} {H H1 : Heap} {h : AH} {n : Nat} {c : AC} (hh : heapR D b base U H h) (hz : H1.size = H.size + 1) (ho : ∀ q : Nat, q < H.size → H1[q]? = H[q]?) (hc : cellR D b base U H1 h.1 c) : heapR D b base U H1 (hnew h n c) := by
  refine ⟨hh.1, Nat.le_trans hh.2.1 (Nat.le_succ _), ?_, fun a' c' hc' => ?_⟩
  · rw [hz, hh.2.2.1]
    exact (al_add hh.2.1).symm
  · by_cases he : a' = h.1
    · subst he
      simp only [hnew, if_pos] at hc'
      cases hc'
      exact ⟨Nat.lt_succ_self _, hc⟩
    · simp only [hnew, if_neg he] at hc'
      have h1 := hh.2.2.2 _ _ hc'
      exact ⟨Nat.lt_succ_of_lt h1.1, h1.2.kept (ho _ (by rw [hh.2.2.1]; exact al_lt hh.1 hh.2.1 h1.1))⟩
