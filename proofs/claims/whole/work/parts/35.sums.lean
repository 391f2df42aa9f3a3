/-! ===== sums and costs ===== -/
theorem sm_add (f g : Nat → Nat) : ∀ n, sm (fun i => f i + g i) n = sm f n + sm g n
  | 0 => rfl
  | n + 1 => by simp only [sm]; rw [sm_add f g n]; omega
theorem sm_mul (f : Nat → Nat) (c : Nat) : ∀ n, sm (fun i => f i * c) n = sm f n * c
  | 0 => by simp [sm]
  | n + 1 => by simp only [sm]; rw [sm_mul f c n, Nat.add_mul]
theorem sm_mono {f g : Nat → Nat} : ∀ n, (∀ i, i < n → f i ≤ g i) → sm f n ≤ sm g n
  | 0, _ => Nat.le_refl _
  | n + 1, h => by
    have h1 := sm_mono n (fun i hi => h i (by omega))
    have h2 := h n (by omega)
    simp only [sm]; omega
theorem sm_le {f : Nat → Nat} : ∀ {m n}, m ≤ n → sm f m ≤ sm f n := by
  intro m n h
  induction h with
  | refl => exact Nat.le_refl _
  | step _ ih => simp only [sm]; omega
theorem sm_tail {f : Nat → Nat} {m : Nat} : ∀ k, (∀ i, m ≤ i → i < m + k → f i = 0) → sm f (m + k) = sm f m
  | 0, _ => rfl
  | k + 1, h => by
    rw [show m + (k + 1) = (m + k) + 1 by omega]
    simp only [sm]
    rw [sm_tail k (fun i h1 h2 => h i h1 (by omega)), h (m + k) (by omega) (by omega)]; rfl
theorem cost1 (w : Nat → Nat) (a : Nat) : ∀ k, sm (fun t => w t * (t - a)) (a + 1 + k) + a * sm w (a + 1 + k) + sm (fun t => w t * t) (a + 1) = sm (fun t => w t * t) (a + 1 + k) + a * sm w (a + 1)
  | 0 => by
    rw [Nat.add_zero, sm_zero (a + 1) (fun i hi => by rw [show i - a = 0 by omega, Nat.mul_zero])]
    omega
  | k + 1 => by
    have ih := cost1 w a k
    rw [show a + 1 + (k + 1) = (a + 1 + k) + 1 by omega]
    simp only [sm] at ih ⊢
    have e : w (a + 1 + k) * (a + 1 + k - a) + a * w (a + 1 + k) = w (a + 1 + k) * (a + 1 + k) := by
      rw [Nat.mul_comm a, ← Nat.mul_add]; congr 1; omega
    rw [Nat.mul_add]
    generalize w (a + 1 + k) * (a + 1 + k - a) = x1 at *
    generalize a * w (a + 1 + k) = x2 at *
    generalize w (a + 1 + k) * (a + 1 + k) = x3 at *
    generalize a * sm w (a + 1 + k) = x4 at *
    generalize a * (sm w a + w a) = x5 at *
    omega
theorem cost2 (w : Nat → Nat) (r : Nat) : ∀ k, k ≤ r + 1 → sm (fun t => w t * (r - t)) k + sm (fun t => w t * t) k = r * sm w k
  | 0, _ => by simp [sm]
  | k + 1, h => by
    have ih := cost2 w r k (by omega)
    simp only [sm]
    rw [Nat.mul_add, ← ih]
    have e : w k * (r - k) + w k * k = r * w k := by rw [← Nat.mul_add, Nat.mul_comm r]; congr 1; omega
    generalize w k * (r - k) = x1 at *
    generalize w k * k = x2 at *
    generalize r * w k = x3 at *
    omega
/-- the mean's numerator: e for each tenth behind a, l for each ahead of a + d -/
def cst (w : Nat → Nat) (e l a d : Nat) : Nat := sm (fun t => w t * (e * (t - a) + l * (a + d - t))) 421
theorem cst_eq (w : Nat → Nat) (e l a d : Nat) : cst w e l a d = e * sm (fun t => w t * (t - a)) 421 + l * sm (fun t => w t * (a + d - t)) 421 := by
  unfold cst
  rw [Nat.mul_comm e, Nat.mul_comm l, ← sm_mul, ← sm_mul, ← sm_add]
  apply sm_congr
  intro i _
  rw [Nat.mul_add, Nat.mul_assoc, Nat.mul_assoc, Nat.mul_comm (i - a), Nat.mul_comm (a + d - i)]
/-- the class's form of it -/
theorem cst_cls (w : Nat → Nat) (e l a d : Nat) (ha : a ≤ 420) :
    sm (fun t => w t * t) (a + 1) ≤ sm (fun t => w t * t) 421 ∧ sm w (a + 1) ≤ sm w 421 ∧ a * (sm w 421 - sm w (a + 1)) ≤ sm (fun t => w t * t) 421 - sm (fun t => w t * t) (a + 1) ∧ sm (fun t => w t * t) (min (a + d) 420 + 1) ≤ (a + d) * sm w (min (a + d) 420 + 1) ∧
    e * (sm (fun t => w t * t) 421 - sm (fun t => w t * t) (a + 1) - a * (sm w 421 - sm w (a + 1))) + l * ((a + d) * sm w (min (a + d) 420 + 1) - sm (fun t => w t * t) (min (a + d) 420 + 1)) = cst w e l a d := by
  have h1 := cost1 w a (420 - a)
  rw [show a + 1 + (420 - a) = 421 by omega] at h1
  have h2 := cost2 w (a + d) (min (a + d) 420 + 1) (by omega)
  have h3 : sm (fun t => w t * (a + d - t)) 421 = sm (fun t => w t * (a + d - t)) (min (a + d) 420 + 1) := by
    have := sm_tail (f := fun t => w t * (a + d - t)) (m := min (a + d) 420 + 1) (420 - min (a + d) 420) (fun i h4 h5 => by rw [show a + d - i = 0 by omega, Nat.mul_zero])
    rw [← this]; congr 1; omega
  have m1 : sm (fun t => w t * t) (a + 1) ≤ sm (fun t => w t * t) 421 := sm_le (by omega)
  have m2 : sm w (a + 1) ≤ sm w 421 := sm_le (by omega)
  have e1 : a * (sm w 421 - sm w (a + 1)) = a * sm w 421 - a * sm w (a + 1) := Nat.mul_sub _ _ _
  have m3 : a * sm w (a + 1) ≤ a * sm w 421 := Nat.mul_le_mul_left _ m2
  have e2 : sm (fun t => w t * t) 421 - sm (fun t => w t * t) (a + 1) - a * (sm w 421 - sm w (a + 1)) = sm (fun t => w t * (t - a)) 421 := by rw [e1]; omega
  have e3 : (a + d) * sm w (min (a + d) 420 + 1) - sm (fun t => w t * t) (min (a + d) 420 + 1) = sm (fun t => w t * (a + d - t)) 421 := by rw [h3]; omega
  refine ⟨m1, m2, by rw [e1]; omega, by omega, ?_⟩
  rw [e2, e3, cst_eq]
theorem cst_le (w : Nat → Nat) {e l a d : Nat} (he : e ≤ 20) (hl : l ≤ 20) (ha : a ≤ 420) (hd : d ≤ 60) : cst w e l a d ≤ sm w 421 * 18000 := by
  unfold cst
  rw [← sm_mul]
  apply sm_mono
  intro i hi
  apply Nat.mul_le_mul_left
  have h1 : e * (i - a) ≤ 20 * 420 := Nat.mul_le_mul he (by omega)
  have h2 : l * (a + d - i) ≤ 20 * 480 := Nat.mul_le_mul hl (by omega)
  omega
/-- the first place of the least -/
def am (f : Nat → Nat) : Nat → Nat
  | 0 => 0
  | k + 1 => if f (k + 1) < f (am f k) then k + 1 else am f k
theorem am_le (f : Nat → Nat) : ∀ k, am f k ≤ k
  | 0 => Nat.le_refl _
  | k + 1 => by
    have := am_le f k
    simp only [am]; split <;> omega
/-- the whole weight -/
theorem sum_shift (w : Nat → Nat) (len R : Nat) (hw : ∀ t, R < t → w t = 0) (N : Nat) (hN : R + len < N) : sm (fun t => if len ≤ t then w (t - len) else 0) N = sm w N := by
  have h1 : ∀ k, sm (fun t => if len ≤ t then w (t - len) else 0) (len + k) = sm w k := by
    intro k
    induction k with
    | zero => exact sm_zero _ (fun i hi => if_neg (by omega))
    | succ k ih =>
      rw [show len + (k + 1) = (len + k) + 1 by omega]
      simp only [sm]
      rw [ih, if_pos (by omega), Nat.add_sub_cancel_left]
  have h2 := h1 (N - len)
  rw [show len + (N - len) = N by omega] at h2
  rw [h2]
  have h3 := sm_tail (f := w) (m := N - len) len (fun i h4 h5 => hw i (by omega))
  rw [← h3]; congr 1; omega
theorem sm_swap (f : Nat → Nat → Nat) (m : Nat) : ∀ n, sm (fun i => sm (fun j => f i j) m) n = sm (fun j => sm (fun i => f i j) n) m
  | 0 => (sm_zero m (fun _ _ => rfl)).symm
  | n + 1 => by simp only [sm]; rw [sm_swap f m n, ← sm_add]
theorem sm_const (c : Nat) : ∀ n, sm (fun _ => c) n = n * c
  | 0 => by simp [sm]
  | n + 1 => by simp only [sm]; rw [sm_const c n, Nat.succ_mul]
theorem Wt_sum {S : SS} (hS : HOk S) : ∀ p, p ≤ S 12 0 → sm (Wt S p) 421 = Ch S p
  | 0, _ => by
    show sm (fun t => if t = 0 then 1 else 0) (0 + 1 + 420) = 1
    rw [sm_tail (m := 0 + 1) 420 (fun i h1 h2 => if_neg (by omega))]; rfl
  | p + 1, hp => by
    have ih := Wt_sum hS p (by omega)
    obtain ⟨k1, k2, k3, k4, k5, k6⟩ := hS.2 p (by omega)
    have hn := hS.1
    have hr := rch_le hS p (by omega)
    show sm (fun t => Wt S p t * (S 4 p * S 6 p) + sm (fun i => if S 7 (4 * p + i) ≤ t then Wt S p (t - S 7 (4 * p + i)) * (8 - S 4 p) else 0) (S 6 p)) 421 = Ch S p * (8 * S 6 p)
    rw [sm_add, sm_mul, ih, sm_swap]
    have e : sm (fun j => sm (fun i => if S 7 (4 * p + j) ≤ i then Wt S p (i - S 7 (4 * p + j)) * (8 - S 4 p) else 0) 421) (S 6 p) = sm (fun _ => Ch S p * (8 - S 4 p)) (S 6 p) := by
      apply sm_congr
      intro j hj
      have h6 := (k6 j hj).2
      have e1 : (fun i => if S 7 (4 * p + j) ≤ i then Wt S p (i - S 7 (4 * p + j)) * (8 - S 4 p) else 0) = (fun i => (if S 7 (4 * p + j) ≤ i then Wt S p (i - S 7 (4 * p + j)) else 0) * (8 - S 4 p)) := by
        funext i; split <;> simp
      rw [e1, sm_mul, sum_shift (Wt S p) (S 7 (4 * p + j)) (rch S p) (fun t ht => Wt_zero S p t ht) 421 (by omega), ih]
    rw [e, sm_const, Nat.mul_comm (S 4 p), ← Nat.mul_assoc (Ch S p), Nat.mul_comm (Ch S p) (S 6 p), Nat.mul_assoc, ← Nat.mul_add, ← Nat.mul_add, show S 4 p + (8 - S 4 p) = 8 by omega]
    rw [Nat.mul_comm (Ch S p) 8, Nat.mul_comm (Ch S p), Nat.mul_comm 8 (S 6 p), Nat.mul_assoc]
theorem Ch_pos {S : SS} (hS : HOk S) : ∀ p, p ≤ S 12 0 → 1 ≤ Ch S p
  | 0, _ => Nat.le_refl _
  | p + 1, hp => by
    have h1 := Ch_pos hS p (by omega)
    have h2 := (hS.2 p (by omega)).2.2.2.1
    show 1 ≤ Ch S p * (8 * S 6 p)
    exact Nat.mul_le_mul h1 (show 1 ≤ 8 * S 6 p by omega)
theorem Ch_le {S : SS} (hS : HOk S) : ∀ p, p ≤ S 12 0 → Ch S p ≤ 32 ^ p
  | 0, _ => Nat.le_refl _
  | p + 1, hp => by
    have h1 := Ch_le hS p (by omega)
    have h2 := (hS.2 p (by omega)).2.2.2.2.1
    show Ch S p * (8 * S 6 p) ≤ 32 ^ p * 32
    exact Nat.mul_le_mul h1 (by omega)
theorem Ch_lt {S : SS} (hS : HOk S) {p : Nat} (hp : p ≤ S 12 0) : Ch S p ≤ 34359738368 := by
  have h1 := Ch_le hS p hp
  have h2 : 32 ^ p ≤ 32 ^ 7 := Nat.pow_le_pow_right (by decide) (by have := hS.1; omega)
  have h3 : (32 : Nat) ^ 7 = 34359738368 := by decide
  omega
