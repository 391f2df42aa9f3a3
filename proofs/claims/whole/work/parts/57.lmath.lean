/-! ===== out: PARTS from the last to the first ===== -/
/-- one PART more, left out or played -/
def Ao (S : SS) (set p : Nat) (F : Nat → Nat) (t : Nat) : Nat := if set.testBit p = true then F t * (S 4 p * S 6 p) else sm (fun i => if S 7 (4 * p + i) ≤ t then F (t - S 7 (4 * p + i)) * (8 - S 4 p) else 0) (S 6 p)
theorem Wo_s (S : SS) (set p : Nat) : Wo S set (p + 1) = Ao S set p (Wo S set p) := rfl
theorem Ao_comm (S : SS) (set p q : Nat) (F : Nat → Nat) : Ao S set p (Ao S set q F) = Ao S set q (Ao S set p F) := by
  funext t
  unfold Ao
  by_cases hp : set.testBit p = true <;> by_cases hq : set.testBit q = true
  · simp only [if_pos hp, if_pos hq]
    exact Nat.mul_right_comm _ _ _
  · simp only [if_pos hp, if_neg hq]
    rw [← sm_mul]
    apply sm_congr
    intro i _
    split
    · exact Nat.mul_right_comm _ _ _
    · rw [Nat.zero_mul]
  · simp only [if_neg hp, if_pos hq]
    rw [← sm_mul]
    apply sm_congr
    intro i _
    split
    · exact Nat.mul_right_comm _ _ _
    · rw [Nat.zero_mul]
  · simp only [if_neg hp, if_neg hq]
    have e : ∀ (P Q : Nat) (a b : Nat → Nat) (n m w v : Nat), sm (fun i => if a i ≤ t then sm (fun j => if b j ≤ t - a i then F (t - a i - b j) * v else 0) m * w else 0) n = sm (fun i => sm (fun j => if a i + b j ≤ t then F (t - (a i + b j)) * (w * v) else 0) m) n := by
      intro P Q a b n m w v
      apply sm_congr
      intro i _
      by_cases h1 : a i ≤ t
      · rw [if_pos h1, ← sm_mul]
        apply sm_congr
        intro j _
        by_cases h2 : a i + b j ≤ t
        · rw [if_pos h2, if_pos (by omega), Nat.mul_assoc, Nat.mul_comm v w, Nat.sub_sub]
        · rw [if_neg h2, if_neg (by omega), Nat.zero_mul]
      · rw [if_neg h1, sm_zero]
        intro j _
        rw [if_neg (by omega)]
    rw [e p q (fun i => S 7 (4 * p + i)) (fun i => S 7 (4 * q + i)), e q p (fun i => S 7 (4 * q + i)) (fun i => S 7 (4 * p + i)), sm_swap]
    apply sm_congr
    intro i _
    apply sm_congr
    intro j _
    rw [Nat.add_comm (S 7 (4 * p + j)), Nat.mul_comm (8 - S 4 p)]
/-- PARTS 0 to p - 1 upon F -/
def fwd (S : SS) (set : Nat) (F : Nat → Nat) : Nat → Nat → Nat
  | 0 => F
  | p + 1 => Ao S set p (fwd S set F p)
theorem fwd_A (S : SS) (set q : Nat) (F : Nat → Nat) : ∀ p, Ao S set q (fwd S set F p) = fwd S set (Ao S set q F) p
  | 0 => rfl
  | p + 1 => by simp only [fwd]; rw [Ao_comm, fwd_A S set q F p]
theorem fwd_Wo (S : SS) (set : Nat) : ∀ p, fwd S set (Wo S set 0) p = Wo S set p
  | 0 => rfl
  | p + 1 => by rw [Wo_s]; simp only [fwd]; rw [fwd_Wo S set p]
/-- the last k PARTS of n, from the last on -/
def Wb (S : SS) (set n : Nat) : Nat → Nat → Nat
  | 0 => Wo S set 0
  | k + 1 => Ao S set (n - (k + 1)) (Wb S set n k)
def rb (S : SS) (set n : Nat) : Nat → Nat
  | 0 => 0
  | k + 1 => if set.testBit (n - (k + 1)) = true then rb S set n k else rb S set n k + mxL (lenP S (n - (k + 1))) (S 6 (n - (k + 1)))
theorem Wb_fwd (S : SS) (set n : Nat) : ∀ k, k ≤ n → fwd S set (Wb S set n k) (n - k) = Wo S set n
  | 0, _ => by rw [Nat.sub_zero]; exact fwd_Wo S set n
  | k + 1, h => by
    rw [← Wb_fwd S set n k (by omega)]
    simp only [Wb]
    rw [← fwd_A, show n - k = (n - (k + 1)) + 1 by omega]
    rfl
theorem Wb_Wo (S : SS) (set n : Nat) : Wb S set n n = Wo S set n := by
  have := Wb_fwd S set n n (Nat.le_refl _)
  rw [Nat.sub_self] at this
  exact this
theorem Wb_zero (S : SS) (set n : Nat) : ∀ k t, rb S set n k < t → Wb S set n k t = 0
  | 0, t, h => by simp only [Wb, Wo]; rw [if_neg (by simp only [rb] at h; omega)]
  | k + 1, t, h => by
    simp only [rb] at h
    simp only [Wb, Ao]
    by_cases tb : set.testBit (n - (k + 1)) = true
    · rw [if_pos tb] at h ⊢
      rw [Wb_zero S set n k t h, Nat.zero_mul]
    · rw [if_neg tb] at h ⊢
      apply sm_zero
      intro i hi
      have hm : S 7 (4 * (n - (k + 1)) + i) ≤ mxL (lenP S (n - (k + 1))) (S 6 (n - (k + 1))) := mxL_ge (f := lenP S (n - (k + 1))) (S 6 (n - (k + 1))) i hi
      split
      · rw [Wb_zero S set n k _ (by omega), Nat.zero_mul]
      · rfl
theorem mx60 {S : SS} (hS : HOk S) {p : Nat} (hp : p < S 12 0) : mxL (lenP S p) (S 6 p) ≤ 60 := by
  have := mxL_lt (f := lenP S p) (B := 61) (by decide) (S 6 p) (fun i hi => by have := (hS.2 p hp).2.2.2.2.2 i hi; show S 7 (4 * p + i) < 61; omega)
  omega
theorem rb_le {S : SS} (hS : HOk S) (set : Nat) : ∀ k, k ≤ S 12 0 → rb S set (S 12 0) k ≤ 60 * k
  | 0, _ => Nat.le_refl _
  | k + 1, h => by
    have h1 := rb_le hS set k (by omega)
    have h2 := mx60 hS (p := S 12 0 - (k + 1)) (by omega)
    simp only [rb]
    split <;> omega
/-- with the same bits from there on, the same -/
theorem Wb_bits (S : SS) {set set' n : Nat} : ∀ k, k ≤ n → (∀ p, n - k ≤ p → p < n → set.testBit p = set'.testBit p) → Wb S set n k = Wb S set' n k ∧ rb S set n k = rb S set' n k
  | 0, _, _ => ⟨rfl, rfl⟩
  | k + 1, hk, h => by
    obtain ⟨h1, h2⟩ := Wb_bits S k (by omega) (fun p a b => h p (by omega) b)
    have hb := h (n - (k + 1)) (Nat.le_refl _) (by omega)
    constructor
    · simp only [Wb]; rw [h1]; funext t; unfold Ao; rw [hb]
    · simp only [rb]; rw [h2, hb]
/-- which rows are due again -/
def cgN (k : Nat) : Nat := if k = 0 then 32 else pc 7 (k ^^^ (k - 1))
theorem cg_bc : ∀ k, k < 128 → bc (nI k ^^^ (nI k - nI 1)) = nI (cgN k) := by decide +kernel
theorem cg_le : ∀ k, k < 128 → cgN k ≤ 32 := by decide +kernel
theorem cg_bits : ∀ k, k < 128 → ∀ p, p < 7 → 0 < k → cgN k ≤ p → k.testBit p = (k - 1).testBit p := by decide +kernel
