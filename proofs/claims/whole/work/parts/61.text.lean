/-! ===== hall: the text, letter by letter ===== -/
/-- behind the blanks -/
def skF (T : Nat → Nat) (n : Nat) : Nat → Nat → Nat
  | 0, a => a
  | f + 1, a => if a < n ∧ T a = 32 then skF T n f (a + 1) else a
def sk (T : Nat → Nat) (n a : Nat) : Nat := skF T n (n - a) a
theorem sk_y {T : Nat → Nat} {n a : Nat} (h : a < n ∧ T a = 32) : sk T n a = sk T n (a + 1) := by
  unfold sk
  rw [show n - a = (n - (a + 1)) + 1 by omega]
  simp only [skF]
  rw [if_pos h]
theorem sk_n {T : Nat → Nat} {n a : Nat} (h : ¬ (a < n ∧ T a = 32)) : sk T n a = a := by
  unfold sk
  cases n - a with
  | zero => rfl
  | succ f => simp only [skF]; rw [if_neg h]
theorem sk_p {T : Nat → Nat} {n : Nat} : ∀ k a, a + k = n → a ≤ sk T n a ∧ sk T n a ≤ n ∧ ¬ (sk T n a < n ∧ T (sk T n a) = 32) := by
  intro k
  induction k with
  | zero =>
    intro a h
    have q : ¬ (a < n ∧ T a = 32) := fun q => by omega
    rw [sk_n q]
    exact ⟨Nat.le_refl _, by omega, q⟩
  | succ k ih =>
    intro a h
    by_cases q : a < n ∧ T a = 32
    · rw [sk_y q]
      have := ih (a + 1) (by omega)
      exact ⟨by omega, this.2⟩
    · rw [sk_n q]
      exact ⟨Nat.le_refl _, by omega, q⟩
theorem sk_ge {T : Nat → Nat} {n a : Nat} (h : a ≤ n) : a ≤ sk T n a := (sk_p (n - a) a (by omega)).1
theorem sk_le {T : Nat → Nat} {n a : Nat} (h : a ≤ n) : sk T n a ≤ n := (sk_p (n - a) a (by omega)).2.1
theorem sk_sk {T : Nat → Nat} {n a : Nat} (h : a ≤ n) : sk T n (sk T n a) = sk T n a := sk_n (sk_p (n - a) a (by omega)).2.2
/-- behind the figures -/
abbrev fig (T : Nat → Nat) (n a : Nat) : Prop := a < n ∧ 48 ≤ T a ∧ T a ≤ 57
def dgF (T : Nat → Nat) (n : Nat) : Nat → Nat → Nat
  | 0, a => a
  | f + 1, a => if a < n ∧ 48 ≤ T a ∧ T a ≤ 57 then dgF T n f (a + 1) else a
def dg (T : Nat → Nat) (n a : Nat) : Nat := dgF T n (n - a) a
theorem dg_y {T : Nat → Nat} {n a : Nat} (h : fig T n a) : dg T n a = dg T n (a + 1) := by
  have h' := h.1
  unfold dg
  rw [show n - a = (n - (a + 1)) + 1 by omega]
  simp only [dgF]
  rw [if_pos h]
theorem dg_n {T : Nat → Nat} {n a : Nat} (h : ¬ fig T n a) : dg T n a = a := by
  unfold dg
  cases n - a with
  | zero => rfl
  | succ f => simp only [dgF]; rw [if_neg h]
theorem dg_p {T : Nat → Nat} {n : Nat} : ∀ k a, a + k = n → a ≤ dg T n a ∧ dg T n a ≤ n ∧ ¬ fig T n (dg T n a) ∧ ∀ j, a ≤ j → j < dg T n a → fig T n j := by
  intro k
  induction k with
  | zero =>
    intro a h
    have q : ¬ fig T n a := fun q => by have := q.1; omega
    rw [dg_n q]
    exact ⟨Nat.le_refl _, by omega, q, fun j h1 h2 => by omega⟩
  | succ k ih =>
    intro a h
    by_cases q : fig T n a
    · rw [dg_y q]
      obtain ⟨i1, i2, i3, i4⟩ := ih (a + 1) (by omega)
      refine ⟨by omega, i2, i3, fun j h1 h2 => ?_⟩
      by_cases e : j = a
      · subst e; exact q
      · exact i4 j (by omega) h2
    · rw [dg_n q]
      exact ⟨Nat.le_refl _, by omega, q, fun j h1 h2 => by omega⟩
theorem dg_ge {T : Nat → Nat} {n a : Nat} (h : a ≤ n) : a ≤ dg T n a := (dg_p (n - a) a (by omega)).1
theorem dg_le {T : Nat → Nat} {n a : Nat} (h : a ≤ n) : dg T n a ≤ n := (dg_p (n - a) a (by omega)).2.1
theorem dg_in {T : Nat → Nat} {n a j : Nat} (h : a ≤ n) (h1 : a ≤ j) (h2 : j < dg T n a) : fig T n j := (dg_p (n - a) a (by omega)).2.2.2 j h1 h2
theorem dg_end {T : Nat → Nat} {n a : Nat} (h : a ≤ n) : ¬ fig T n (dg T n a) := (dg_p (n - a) a (by omega)).2.2.1
theorem dg_un {T : Nat → Nat} {n a b : Nat} (h : a ≤ n) (hb : a ≤ b) (h1 : ∀ j, a ≤ j → j < b → fig T n j) (h2 : ¬ fig T n b) : dg T n a = b := by
  have p := dg_p (T := T) (n := n) (n - a) a (by omega)
  by_cases q1 : dg T n a < b
  · exact absurd (h1 _ p.1 q1) p.2.2.1
  · by_cases q2 : b < dg T n a
    · exact absurd (p.2.2.2 b hb q2) h2
    · omega
/-- the value: of the first three figures -/
def vv (T : Nat → Nat) (s : Nat) : Nat → Nat
  | 0 => 0
  | k + 1 => if k < 3 then vv T s k * 10 + T (s + k) - 48 else vv T s k
theorem vv_b {T : Nat → Nat} {s : Nat} : ∀ k, (∀ j, j < k → T (s + j) ≤ 57) → vv T s k ≤ 999 ∧ (k ≤ 0 → vv T s k ≤ 0) ∧ (k ≤ 1 → vv T s k ≤ 9) ∧ (k ≤ 2 → vv T s k ≤ 99)
  | 0, _ => by simp [vv]
  | k + 1, h => by
    obtain ⟨i1, i2, i3, i4⟩ := vv_b k (fun j hj => h j (by omega))
    have hk := h k (by omega)
    simp only [vv]
    by_cases q : k < 3
    · rw [if_pos q]
      refine ⟨?_, fun z => by omega, fun z => ?_, fun z => ?_⟩
      · have := i4 (by omega); omega
      · have := i2 (by omega); omega
      · have := i3 (by omega); omega
    · rw [if_neg q]
      exact ⟨i1, fun z => by omega, fun z => by omega, fun z => by omega⟩
abbrev fg (T : Nat → Nat) (n a : Nat) : Nat := dg T n (sk T n a) - sk T n a
abbrev vl (T : Nat → Nat) (n a : Nat) : Nat := vv T (sk T n a) (fg T n a)
/-- where the next is read -/
abbrev nb (T : Nat → Nat) (n a : Nat) : Nat := dg T n (sk T n a)
theorem vl_le {T : Nat → Nat} {n a : Nat} (h : a ≤ n) : vl T n a ≤ 999 := (vv_b (T := T) (s := sk T n a) (fg T n a) (fun j (hj : j < dg T n (sk T n a) - sk T n a) => (dg_in (T := T) (n := n) (a := sk T n a) (j := sk T n a + j) (sk_le h) (by omega) (by omega)).2.2)).1
theorem nb_le {T : Nat → Nat} {n a : Nat} (h : a ≤ n) : nb T n a ≤ n := dg_le (sk_le h)
theorem nb_ge {T : Nat → Nat} {n a : Nat} (h : a ≤ n) : a ≤ nb T n a := Nat.le_trans (sk_ge h) (dg_ge (sk_le h))
theorem fg_0 {T : Nat → Nat} {n a : Nat} (h : a ≤ n) : fg T n a = 0 ↔ ¬ fig T n (sk T n a) := by
  constructor
  · intro e q
    have e' : dg T n (sk T n a) - sk T n a = 0 := e
    have := dg_y q
    have h1 := q.1
    have := dg_ge (T := T) (n := n) (a := sk T n a + 1) (by omega)
    omega
  · intro q; rw [fg, dg_n q]; omega
/-- is this the letter there, behind the blanks -/
abbrev isC (T : Nat → Nat) (n a c : Nat) : Prop := sk T n a < n ∧ T (sk T n a) = c
/-! faults: number and place + 1; the first stands -/
abbrev oo (F o : Nat × Nat) : Nat × Nat := if F.1 = 0 then o else F
theorem oo_0 {F o : Nat × Nat} (h : (oo F o).1 = 0) : F.1 = 0 ∧ o.1 = 0 := by
  unfold oo at h
  by_cases q : F.1 = 0
  · rw [if_pos q] at h; exact ⟨q, h⟩
  · rw [if_neg q] at h; exact absurd h q
theorem oo_w {F o : Nat × Nat} (h : F.1 = 0) : oo F o = o := if_pos h
theorem oo_i {F o : Nat × Nat} (h : ¬ F.1 = 0) : oo F o = F := if_neg h
abbrev badN (T : Nat → Nat) (n a lo hi : Nat) : Prop := 3 < fg T n a ∨ ¬ (lo ≤ vl T n a ∧ vl T n a ≤ hi)
def nf (T : Nat → Nat) (n a lo hi : Nat) : Nat × Nat := if fg T n a = 0 then (1, sk T n a + 1) else if badN T n a lo hi then (2, sk T n a + 1) else (0, 0)
def cf (T : Nat → Nat) (n a : Nat) : Nat × Nat := if isC T n a 59 then (0, 0) else (1, sk T n a + 1)
