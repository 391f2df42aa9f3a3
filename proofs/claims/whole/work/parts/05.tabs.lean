/-! ===== one instruction of the picture is one instruction of the machine ===== -/
theorem lookup_mem {α β : Type} [BEq α] [LawfulBEq α] : ∀ {l : List (α × β)} {k : α} {v : β}, l.lookup k = some v → (k, v) ∈ l
  | [], _, _, h => by cases h
  | (a, x) :: l, k, v, h => by
    rw [List.lookup_cons] at h
    cases hk : k == a with
    | true =>
      rw [hk] at h
      have h1 : x = v := Option.some.inj h
      have h2 : k = a := eq_of_beq hk
      subst h1; subst h2
      exact List.mem_cons_self
    | false =>
      rw [hk] at h
      exact List.mem_cons_of_mem _ (lookup_mem h)
/-! what the tables are backed by -/
theorem iTab_ok : ∀ q ∈ iTab, Cond.constant (cnm q.1.1) q.1.2 q.2 ∈ tb := by decide +kernel
theorem lTab_ok : ∀ q ∈ lTab, Cond.constantLong (cnm q.1.1) q.1.2 q.2 ∈ tb := by decide +kernel
theorem nTab_ok : ∀ q ∈ nTab, q.2 < 10 ∧ Cond.classLink (cnm q.1.1) q.1.2 (cnm q.2) ∈ tb ∧ Cond.instantiable (cnm q.2) (nmF q.2) ∈ tb ∧ Cond.initialized (cnm q.2) ∈ tb := by decide +kernel
theorem fTab_ok : ∀ q ∈ fTab, q.2.1 < 10 ∧ q.2.2 < nmF q.2.1 ∧ (tbF q.2.1 q.2.2).1 = cnm q.2.1 ∧ Cond.fieldLink (cnm q.1.1) q.1.2 (tbF q.2.1 q.2.2).1 (tbF q.2.1 q.2.2).2.1 (tbF q.2.1 q.2.2).2.2.1 ∈ tb := by decide +kernel
theorem fld_in : ∀ ci, ci < 10 → ∀ w ∈ u_ws (cnm ci) (tbF ci) (nmF ci), w ∈ tb := by decide +kernel
theorem fld_ty : ∀ ci, ci < 10 → ∀ k, k < nmF ci → parseFieldDescriptor (tbF ci k).2.2.1 = some (tyF ci k) := by decide +kernel
theorem fld_nm : ∀ ci, ci < 10 → ∀ x, x < nmF ci → ∀ y, y < nmF ci → x ≠ y → (tbF ci x).2.1 ≠ (tbF ci y).2.1 := by decide +kernel
theorem arr_in : Cond.arrayClass .int ∈ tb ∧ Cond.arrayClass .long ∈ tb ∧ Cond.arrayClass .boolean ∈ tb := by decide +kernel
/-! what is known of the classes at a state -/
def nestR (U : State) : Prop := ∀ q ∈ sNest ++ oNest, va_Nw (.methodLinkNest (cnm q.1.1) q.1.2 (mY q.2) "CadenzaEnds") U
def aoA (U : State) : Prop := (Cond.arrayOver (.array .long)).before #[] U = true
def knR (D : va_G) (U : State) : Prop := (∀ ci, ci < 10 → u_Kn U (cnm ci) (tbF ci) (nmF ci) (D.1 ci) (D.2 ci)) ∧ nestR U ∧ va_AO "CadenzaEnds$Part" U ∧ va_AO "CadenzaEnds$Agreed" U ∧ aoA U
