/-! ===== what kind of number a call answers ===== -/
theorem exec_int {M : MI} (hM : mR M = some .int) : ∀ (n pc : Nat) (L st : List Value) (h h' : AH) (r : Value), exec n M pc L st h = some (h', some r) → ∃ v, r = .int v
  | 0, _, _, _, _, _, _, q => by cases q
  | n + 1, pc, L, st, h, h', r, q => by
    have q : turn (exec n) M pc L st h = some (h', some r) := q
    unfold turn at q
    split at q
    · rename_i z hz
      cases q
      unfold retI at hz
      split at hz
      · split at hz
        · split at hz
          · cases hz; exact ⟨_, rfl⟩
          · cases hz
        · cases hz
      · split at hz
        · rw [hM, if_neg (by decide)] at hz; cases hz
        · cases hz
      · split at hz
        · split at hz
          · cases hz
          · cases hz
        · cases hz
      · cases hz
    · split at q
      · split at q
        · split at q
          · exact exec_int hM n _ _ _ _ _ _ q
          · cases q
        · cases q
      · split at q
        · exact exec_int hM n _ _ _ _ _ _ q
        · cases q
def noI (b : ByteArray) : Prop := ∀ pc, decode b pc ≠ .ok (.ireturn, 1)
theorem exec_long {M : MI} (hM : noI (mB M)) : ∀ (n pc : Nat) (L st : List Value) (h h' : AH) (r : Value), exec n M pc L st h = some (h', some r) → ∃ v, r = .long v
  | 0, _, _, _, _, _, _, q => by cases q
  | n + 1, pc, L, st, h, h', r, q => by
    have q : turn (exec n) M pc L st h = some (h', some r) := q
    unfold turn at q
    split at q
    · rename_i z hz
      cases q
      unfold retI at hz
      split at hz
      · rename_i e
        exact absurd e (hM pc)
      · split at hz
        · split at hz
          · cases hz; exact ⟨_, rfl⟩
          · cases hz
        · cases hz
      · split at hz
        · split at hz
          · cases hz
          · cases hz
        · cases hz
      · cases hz
    · split at q
      · split at q
        · split at q
          · exact exec_long hM n _ _ _ _ _ _ q
          · cases q
        · cases q
      · split at q
        · exact exec_long hM n _ _ _ _ _ _ q
        · cases q
theorem kI {M : MI} {h h' : AH} {av : List Value} {r : Value} (hM : mR M = some .int) (q : Call M h av = some (h', some r)) : ∃ v, r = .int v := by
  obtain ⟨n, hn⟩ := Run_ex q
  exact exec_int hM n _ _ _ _ _ _ hn
theorem kJ {M : MI} {h h' : AH} {av : List Value} {r : Value} (hM : noI (mB M)) (q : Call M h av = some (h', some r)) : ∃ v, r = .long v := by
  obtain ⟨n, hn⟩ := Run_ex q
  exact exec_long hM n _ _ _ _ _ _ hn
def isR (b : ByteArray) (pc : Nat) : Bool := match decode b pc with
  | .ok (.ireturn, _) => true
  | _ => false
theorem u1_err {b : ByteArray} {p : Nat} (h : ¬ p < b.size) : (Reader.u1 : Decoder Nat) b p = Except.error (HasTruncated.truncated p) := by
  have e : (Reader.u1 : Decoder Nat) b p = (if h : p < b.size then (do set (p + 1); pure b[p].toNat : Decoder Nat) else throw (HasTruncated.truncated p)) b p := rfl
  rw [e, dif_neg h]
  rfl
theorem bind_err {b : ByteArray} {p : Nat} {x : Decoder Nat} {f : Nat → Decoder Instr} {e : DecodeError} (h : x b p = Except.error e) : (x >>= f) b p = Except.error e := by
  show (Except.bind (x b p) _) = _
  rw [h]
  rfl
theorem noI_of {b : ByteArray} {k : Nat} (hk : b.size = k) (h : ∀ pc, pc < k → isR b pc = false) : noI b := by
  intro pc e
  by_cases q : pc < k
  · have := h pc q
    unfold isR at this
    rw [e] at this
    cases this
  · have he := u1_err (b := b) (p := pc) (by omega)
    have e2 : Decoder.instr pc b pc = Except.error (HasTruncated.truncated pc) := by
      unfold Decoder.instr
      exact bind_err he
    have e3 : decode b pc = Except.error (HasTruncated.truncated pc) := by
      show (Except.bind (Decoder.instr pc b pc) _) = _
      rw [e2]
      rfl
    rw [e3] at e
    cases e
theorem noI_ends : noI (mB M_X8_ends) := noI_of rfl (by decide +kernel)
theorem noI_by : noI (mB M_X8_by) := noI_of rfl (by decide +kernel)
theorem noI_mean : noI (mB M_X8_mean) := noI_of rfl (by decide +kernel)
theorem noI_starts : noI (mB M_X8_starts) := noI_of rfl (by decide +kernel)
theorem noI_isIt : noI (mB M_X8_isIt) := noI_of rfl (by decide +kernel)
theorem noI_go : noI (mB M_X8_go) := noI_of rfl (by decide +kernel)
theorem noI_lift : noI (mB M_X8_lift) := noI_of rfl (by decide +kernel)
theorem noI_saved : noI (mB M_X8_saved) := noI_of rfl (by decide +kernel)
theorem noI_claps : noI (mB M_X8_claps) := noI_of rfl (by decide +kernel)
