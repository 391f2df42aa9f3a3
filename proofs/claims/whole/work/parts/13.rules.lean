/-! ===== the run, instruction by instruction ===== -/
section RUL
variable {M : MI} {pc : Nat} {L st : List Value} {h : AH}
theorem R_step {q : ST} (h1 : retI M pc st = none) (h2 : invI M pc st h = none) (h3 : stepI M pc L st h = some q) : Run M pc L st h = Run M q.1 q.2.1 q.2.2.1 q.2.2.2 := by
  rw [Run_eq]; unfold turn; rw [h1, h2]; dsimp only; rw [h3]
theorem R_none (h1 : retI M pc st = none) (h2 : invI M pc st h = none) (h3 : stepI M pc L st h = none) : Run M pc L st h = none := by
  rw [Run_eq]; unfold turn; rw [h1, h2]; dsimp only; rw [h3]
theorem stepI_1 {ins : Instr} (hd : decode (mB M) pc = .ok (ins, 1)) : stepI M pc L st h = (match s1 ins L st with
    | some q => some (pc + 1, q.1, q.2, h)
    | none => (hp1 ins st h).map (fun q => (pc + 1, L, q.1, q.2))) := by unfold stepI; rw [hd]; rfl
theorem stepI_2 {ins : Instr} (hd : decode (mB M) pc = .ok (ins, 2)) : stepI M pc L st h = (match s2 M ins L st with
    | some q => some (pc + 2, q.1, q.2, h)
    | none => (hp2 ins st h).map (fun q => (pc + 2, L, q.1, q.2))) := by unfold stepI; rw [hd]; rfl
theorem stepI_3 {ins : Instr} (hd : decode (mB M) pc = .ok (ins, 3)) : stepI M pc L st h = (match s3 M ins L st with
    | some q => some (pc + 3, q.1, q.2, h)
    | none => match br ins pc st with
      | some q => some (q.1, L, q.2, h)
      | none => (hp3 M ins st h).map (fun q => (pc + 3, L, q.1, q.2))) := by unfold stepI; rw [hd]; rfl
theorem stepI_4 {ins : Instr} (hd : decode (mB M) pc = .ok (ins, 4)) : stepI M pc L st h = (hp4 M ins st h).map (fun q => (pc + 4, L, q.1, q.2)) := by unfold stepI; rw [hd]; rfl
theorem stepI_5 {ins : Instr} {len : Nat} (hd : decode (mB M) pc = .ok (ins, len)) (hl : 4 < len) : stepI M pc L st h = (sw ins pc st).map (fun q => (q.1, L, q.2, h)) := by
  unfold stepI; rw [hd]
  split <;> rename_i he <;> first | (simp at he; omega) | (simp at he; obtain ⟨rfl, rfl⟩ := he; rfl) | exact absurd rfl (he _ _)
theorem retI_len {ins : Instr} {len : Nat} (hd : decode (mB M) pc = .ok (ins, len)) (hl : 1 < len) : retI M pc st = none := by
  unfold retI; rw [hd]
  split <;> first | rfl | (rename_i he; simp at he; omega)
theorem invI_len {ins : Instr} {len : Nat} (hd : decode (mB M) pc = .ok (ins, len)) (hl : len ≠ 3) : invI M pc st h = none := by
  unfold invI; rw [hd]
  split <;> first | rfl | (rename_i he; simp at he; omega)
theorem R1 {ins : Instr} {L' st' : List Value} (hd : decode (mB M) pc = .ok (ins, 1)) (h1 : retI M pc st = none) (h2 : invI M pc st h = none) (h3 : s1 ins L st = some (L', st')) : Run M pc L st h = Run M (pc + 1) L' st' h :=
  R_step (q := (pc + 1, L', st', h)) h1 h2 (by rw [stepI_1 hd, h3])
theorem R2 {ins : Instr} {L' st' : List Value} (hd : decode (mB M) pc = .ok (ins, 2)) (h3 : s2 M ins L st = some (L', st')) : Run M pc L st h = Run M (pc + 2) L' st' h :=
  R_step (q := (pc + 2, L', st', h)) (retI_len hd (by decide)) (invI_len hd (by decide)) (by rw [stepI_2 hd, h3])
theorem R3 {ins : Instr} {L' st' : List Value} (hd : decode (mB M) pc = .ok (ins, 3)) (h2 : invI M pc st h = none) (h3 : s3 M ins L st = some (L', st')) : Run M pc L st h = Run M (pc + 3) L' st' h :=
  R_step (q := (pc + 3, L', st', h)) (retI_len hd (by decide)) h2 (by rw [stepI_3 hd, h3])
theorem catP_of {j : Nat} {v : Value} (hv : L[j]? = some v) (hc : v.category = 1) : catP L (j + 1) = true := by simp [catP, hv, hc]
theorem R_iconst {n : Int} {v : Int32} (hd : decode (mB M) pc = .ok (.iconst n, 1)) (hv : Int32.ofInt n = v) : Run M pc L st h = Run M (pc + 1) L (.int v :: st) h := by
  subst hv; exact R1 hd (by unfold retI; rw [hd]) (by unfold invI; rw [hd]) rfl
theorem R_lconst {n : Fin 2} {v : Int64} (hd : decode (mB M) pc = .ok (.lconst n, 1)) (hv : Int64.ofNat (n : Nat) = v) : Run M pc L st h = Run M (pc + 1) L (.long v :: st) h := by
  subst hv; exact R1 hd (by unfold retI; rw [hd]) (by unfold invI; rw [hd]) rfl
theorem R_iload_n {k : Fin 4} {x : Int32} (hd : decode (mB M) pc = .ok (.iload_n k, 1)) (hk : L[(k : Nat)]? = some (.int x)) : Run M pc L st h = Run M (pc + 1) L (.int x :: st) h :=
  R1 hd (by unfold retI; rw [hd]) (by unfold invI; rw [hd]) (by show ldI k L st = _; unfold ldI; rw [hk])
theorem R_lload_n {k : Fin 4} {x : Int64} (hd : decode (mB M) pc = .ok (.lload_n k, 1)) (hk : L[(k : Nat)]? = some (.long x)) : Run M pc L st h = Run M (pc + 1) L (.long x :: st) h :=
  R1 hd (by unfold retI; rw [hd]) (by unfold invI; rw [hd]) (by show ldJ k L st = _; unfold ldJ; rw [hk])
theorem R_aload_n {k : Fin 4} {x : Nat} (hd : decode (mB M) pc = .ok (.aload_n k, 1)) (hk : L[(k : Nat)]? = some (.ref x)) : Run M pc L st h = Run M (pc + 1) L (.ref x :: st) h :=
  R1 hd (by unfold retI; rw [hd]) (by unfold invI; rw [hd]) (by show ldA k L st = _; unfold ldA; rw [hk])
theorem R_istore_n {k : Fin 4} {x : Int32} (hd : decode (mB M) pc = .ok (.istore_n k, 1)) (hk : (k : Nat) < L.length) (hc : catP L k = true) : Run M pc L (.int x :: st) h = Run M (pc + 1) (L.set k (.int x)) st h :=
  R1 hd (by unfold retI; rw [hd]) (by unfold invI; rw [hd]) (by show st1 k (.int x) L st = _; unfold st1; rw [if_pos ⟨hk, hc⟩])
theorem R_lstore_n {k : Fin 4} {x : Int64} (hd : decode (mB M) pc = .ok (.lstore_n k, 1)) (hk : (k : Nat) + 1 < L.length) (hc : catP L k = true) : Run M pc L (.long x :: st) h = Run M (pc + 1) ((L.set k (.long x)).set (k + 1) .null) st h :=
  R1 hd (by unfold retI; rw [hd]) (by unfold invI; rw [hd]) (by show st2 k (.long x) L st = _; unfold st2; rw [if_pos ⟨hk, hc⟩])
theorem R_astore_n {k : Fin 4} {x : Nat} (hd : decode (mB M) pc = .ok (.astore_n k, 1)) (hk : (k : Nat) < L.length) (hc : catP L k = true) : Run M pc L (.ref x :: st) h = Run M (pc + 1) (L.set k (.ref x)) st h :=
  R1 hd (by unfold retI; rw [hd]) (by unfold invI; rw [hd]) (by show st1 k (.ref x) L st = _; unfold st1; rw [if_pos ⟨hk, hc⟩])
theorem R_iadd {x y : Int32} (hd : decode (mB M) pc = .ok (.iadd, 1)) : Run M pc L (.int y :: .int x :: st) h = Run M (pc + 1) L (.int (x + y) :: st) h := R1 hd (by unfold retI; rw [hd]) (by unfold invI; rw [hd]) rfl
theorem R_isub {x y : Int32} (hd : decode (mB M) pc = .ok (.isub, 1)) : Run M pc L (.int y :: .int x :: st) h = Run M (pc + 1) L (.int (x - y) :: st) h := R1 hd (by unfold retI; rw [hd]) (by unfold invI; rw [hd]) rfl
theorem R_imul {x y : Int32} (hd : decode (mB M) pc = .ok (.imul, 1)) : Run M pc L (.int y :: .int x :: st) h = Run M (pc + 1) L (.int (x * y) :: st) h := R1 hd (by unfold retI; rw [hd]) (by unfold invI; rw [hd]) rfl
theorem R_iand {x y : Int32} (hd : decode (mB M) pc = .ok (.iand, 1)) : Run M pc L (.int y :: .int x :: st) h = Run M (pc + 1) L (.int (x &&& y) :: st) h := R1 hd (by unfold retI; rw [hd]) (by unfold invI; rw [hd]) rfl
theorem R_ixor {x y : Int32} (hd : decode (mB M) pc = .ok (.ixor, 1)) : Run M pc L (.int y :: .int x :: st) h = Run M (pc + 1) L (.int (x ^^^ y) :: st) h := R1 hd (by unfold retI; rw [hd]) (by unfold invI; rw [hd]) rfl
theorem R_ishl {x y : Int32} (hd : decode (mB M) pc = .ok (.ishl, 1)) : Run M pc L (.int y :: .int x :: st) h = Run M (pc + 1) L (.int (x <<< (y &&& 31)) :: st) h := R1 hd (by unfold retI; rw [hd]) (by unfold invI; rw [hd]) rfl
theorem R_ishr {x y : Int32} (hd : decode (mB M) pc = .ok (.ishr, 1)) : Run M pc L (.int y :: .int x :: st) h = Run M (pc + 1) L (.int (x >>> (y &&& 31)) :: st) h := R1 hd (by unfold retI; rw [hd]) (by unfold invI; rw [hd]) rfl
theorem R_iushr {x y : Int32} (hd : decode (mB M) pc = .ok (.iushr, 1)) : Run M pc L (.int y :: .int x :: st) h = Run M (pc + 1) L (.int ((x.toUInt32 >>> (y.toUInt32 &&& Int32.toUInt32 31)).toInt32) :: st) h := R1 hd (by unfold retI; rw [hd]) (by unfold invI; rw [hd]) rfl
theorem R_ladd {x y : Int64} (hd : decode (mB M) pc = .ok (.ladd, 1)) : Run M pc L (.long y :: .long x :: st) h = Run M (pc + 1) L (.long (x + y) :: st) h := R1 hd (by unfold retI; rw [hd]) (by unfold invI; rw [hd]) rfl
theorem R_lsub {x y : Int64} (hd : decode (mB M) pc = .ok (.lsub, 1)) : Run M pc L (.long y :: .long x :: st) h = Run M (pc + 1) L (.long (x - y) :: st) h := R1 hd (by unfold retI; rw [hd]) (by unfold invI; rw [hd]) rfl
theorem R_lmul {x y : Int64} (hd : decode (mB M) pc = .ok (.lmul, 1)) : Run M pc L (.long y :: .long x :: st) h = Run M (pc + 1) L (.long (x * y) :: st) h := R1 hd (by unfold retI; rw [hd]) (by unfold invI; rw [hd]) rfl
theorem R_land {x y : Int64} (hd : decode (mB M) pc = .ok (.land, 1)) : Run M pc L (.long y :: .long x :: st) h = Run M (pc + 1) L (.long (x &&& y) :: st) h := R1 hd (by unfold retI; rw [hd]) (by unfold invI; rw [hd]) rfl
theorem R_lcmp {x y : Int64} (hd : decode (mB M) pc = .ok (.lcmp, 1)) : Run M pc L (.long y :: .long x :: st) h = Run M (pc + 1) L (.int (lg_cmp x y) :: st) h := R1 hd (by unfold retI; rw [hd]) (by unfold invI; rw [hd]) rfl
theorem R_i2l {x : Int32} (hd : decode (mB M) pc = .ok (.i2l, 1)) : Run M pc L (.int x :: st) h = Run M (pc + 1) L (.long x.toInt64 :: st) h := R1 hd (by unfold retI; rw [hd]) (by unfold invI; rw [hd]) rfl
theorem R_l2i {x : Int64} (hd : decode (mB M) pc = .ok (.l2i, 1)) : Run M pc L (.long x :: st) h = Run M (pc + 1) L (.int x.toInt32 :: st) h := R1 hd (by unfold retI; rw [hd]) (by unfold invI; rw [hd]) rfl
theorem R_dupr {x : Nat} (hd : decode (mB M) pc = .ok (.dup, 1)) : Run M pc L (.ref x :: st) h = Run M (pc + 1) L (.ref x :: .ref x :: st) h := R1 hd (by unfold retI; rw [hd]) (by unfold invI; rw [hd]) rfl
theorem R_dup2 {x : Nat} {y : Int32} (hd : decode (mB M) pc = .ok (.dup2, 1)) : Run M pc L (.int y :: .ref x :: st) h = Run M (pc + 1) L (.int y :: .ref x :: .int y :: .ref x :: st) h := R1 hd (by unfold retI; rw [hd]) (by unfold invI; rw [hd]) rfl
theorem R_idiv {x y : Int32} (hd : decode (mB M) pc = .ok (.idiv, 1)) (hy : ¬ y = 0) : Run M pc L (.int y :: .int x :: st) h = Run M (pc + 1) L (.int (x / y) :: st) h := R1 hd (by unfold retI; rw [hd]) (by unfold invI; rw [hd]) (by show (if y = 0 then none else some (L, .int (x / y) :: st)) = some (L, .int (x / y) :: st); rw [if_neg hy])
theorem R_irem {x y : Int32} (hd : decode (mB M) pc = .ok (.irem, 1)) (hy : ¬ y = 0) : Run M pc L (.int y :: .int x :: st) h = Run M (pc + 1) L (.int (x - x / y * y) :: st) h := R1 hd (by unfold retI; rw [hd]) (by unfold invI; rw [hd]) (by show (if y = 0 then none else some (L, .int (x - x / y * y) :: st)) = some (L, .int (x - x / y * y) :: st); rw [if_neg hy])
theorem R_ldiv {x y : Int64} (hd : decode (mB M) pc = .ok (.ldiv, 1)) (hy : ¬ y = 0) : Run M pc L (.long y :: .long x :: st) h = Run M (pc + 1) L (.long (x / y) :: st) h := R1 hd (by unfold retI; rw [hd]) (by unfold invI; rw [hd]) (by show (if y = 0 then none else some (L, .long (x / y) :: st)) = some (L, .long (x / y) :: st); rw [if_neg hy])
theorem R_lrem {x y : Int64} (hd : decode (mB M) pc = .ok (.lrem, 1)) (hy : ¬ y = 0) : Run M pc L (.long y :: .long x :: st) h = Run M (pc + 1) L (.long (x - x / y * y) :: st) h := R1 hd (by unfold retI; rw [hd]) (by unfold invI; rw [hd]) (by show (if y = 0 then none else some (L, .long (x - x / y * y) :: st)) = some (L, .long (x - x / y * y) :: st); rw [if_neg hy])
theorem R_bipush {n : Int} {v : Int32} (hd : decode (mB M) pc = .ok (.bipush n, 2)) (hv : (Int8.ofInt n).toInt32 = v) : Run M pc L st h = Run M (pc + 2) L (.int v :: st) h := by subst hv; exact R2 hd rfl
theorem R_ldc {i : Nat} {v : Int32} (hd : decode (mB M) pc = .ok (.ldc i, 2)) (hv : iTab.lookup (mK M i) = some v) : Run M pc L st h = Run M (pc + 2) L (.int v :: st) h := R2 hd (by show (iTab.lookup (mK M i)).map _ = _; rw [hv]; rfl)
theorem R_iload {k : Nat} {x : Int32} (hd : decode (mB M) pc = .ok (.iload k, 2)) (hk : L[k]? = some (.int x)) : Run M pc L st h = Run M (pc + 2) L (.int x :: st) h := R2 hd (by show ldI k L st = _; unfold ldI; rw [hk])
theorem R_lload {k : Nat} {x : Int64} (hd : decode (mB M) pc = .ok (.lload k, 2)) (hk : L[k]? = some (.long x)) : Run M pc L st h = Run M (pc + 2) L (.long x :: st) h := R2 hd (by show ldJ k L st = _; unfold ldJ; rw [hk])
theorem R_aload {k : Nat} {x : Nat} (hd : decode (mB M) pc = .ok (.aload k, 2)) (hk : L[k]? = some (.ref x)) : Run M pc L st h = Run M (pc + 2) L (.ref x :: st) h := R2 hd (by show ldA k L st = _; unfold ldA; rw [hk])
theorem R_istore {k : Nat} {x : Int32} (hd : decode (mB M) pc = .ok (.istore k, 2)) (hk : k < L.length) (hc : catP L k = true) : Run M pc L (.int x :: st) h = Run M (pc + 2) (L.set k (.int x)) st h := R2 hd (by show st1 k (.int x) L st = _; unfold st1; rw [if_pos ⟨hk, hc⟩])
theorem R_lstore {k : Nat} {x : Int64} (hd : decode (mB M) pc = .ok (.lstore k, 2)) (hk : k + 1 < L.length) (hc : catP L k = true) : Run M pc L (.long x :: st) h = Run M (pc + 2) ((L.set k (.long x)).set (k + 1) .null) st h := R2 hd (by show st2 k (.long x) L st = _; unfold st2; rw [if_pos ⟨hk, hc⟩])
theorem R_astore {k : Nat} {x : Nat} (hd : decode (mB M) pc = .ok (.astore k, 2)) (hk : k < L.length) (hc : catP L k = true) : Run M pc L (.ref x :: st) h = Run M (pc + 2) (L.set k (.ref x)) st h := R2 hd (by show st1 k (.ref x) L st = _; unfold st1; rw [if_pos ⟨hk, hc⟩])
theorem R_sipush {n : Int} {v : Int32} (hd : decode (mB M) pc = .ok (.sipush n, 3)) (hv : (Int16.ofInt n).toInt32 = v) : Run M pc L st h = Run M (pc + 3) L (.int v :: st) h := by subst hv; exact R3 hd (by unfold invI; rw [hd]) rfl
theorem R_ldc_w {i : Nat} {v : Int32} (hd : decode (mB M) pc = .ok (.ldc_w i, 3)) (hv : iTab.lookup (mK M i) = some v) : Run M pc L st h = Run M (pc + 3) L (.int v :: st) h := R3 hd (by unfold invI; rw [hd]) (by show (iTab.lookup (mK M i)).map _ = _; rw [hv]; rfl)
theorem R_ldc2_w {i : Nat} {v : Int64} (hd : decode (mB M) pc = .ok (.ldc2_w i, 3)) (hv : lTab.lookup (mK M i) = some v) : Run M pc L st h = Run M (pc + 3) L (.long v :: st) h := R3 hd (by unfold invI; rw [hd]) (by show (lTab.lookup (mK M i)).map _ = _; rw [hv]; rfl)
theorem R_iinc {k : Nat} {n : Int} {x v : Int32} (hd : decode (mB M) pc = .ok (.iinc k n, 3)) (hv : Int32.ofInt n = v) (hk : L[k]? = some (.int x)) (hc : catP L k = true) : Run M pc L st h = Run M (pc + 3) (L.set k (.int (x + v))) st h := by
  subst hv
  exact R3 hd (by unfold invI; rw [hd]) (by show sInc k n L st = _; unfold sInc; rw [hk]; dsimp only; unfold st1; rw [if_pos ⟨(List.getElem?_eq_some_iff.mp hk).1, hc⟩])
theorem R_br {ins : Instr} {q : Nat × List Value} (hd : decode (mB M) pc = .ok (ins, 3)) (h2 : invI M pc st h = none) (h3 : s3 M ins L st = none) (h4 : br ins pc st = some q) : Run M pc L st h = Run M q.1 L q.2 h :=
  R_step (q := (q.1, L, q.2, h)) (retI_len hd (by decide)) h2 (by rw [stepI_3 hd, h3]; dsimp only; rw [h4])
theorem R_goto {off : Int} {tgt : Nat} (hd : decode (mB M) pc = .ok (.goto off, 3)) (ht : (pc : Int) + off = (tgt : Int)) : Run M pc L st h = Run M tgt L st h :=
  R_br (q := (tgt, st)) hd (by unfold invI; rw [hd]) rfl (by show jmp pc off st = _; unfold jmp; rw [ht, if_pos (Int.natCast_nonneg tgt), Int.toNat_natCast])
theorem R_ic {c : Jvm.ClassFile.Cond} {off : Int} {tgt : Nat} {x : Int32} (hd : decode (mB M) pc = .ok (.ifCond c off, 3)) (ht : (pc : Int) + off = (tgt : Int)) : Run M pc L (.int x :: st) h = if icB c x 0 = true then Run M tgt L st h else Run M (pc + 3) L st h := by
  rw [R_br (q := (if icB c x 0 = true then tgt else pc + 3, st)) hd (by unfold invI; rw [hd]) rfl (by show brc (icB c x 0) pc off st = _; unfold brc; rw [ht, if_pos (Int.natCast_nonneg tgt), Int.toNat_natCast])]
  dsimp only
  split <;> rfl
theorem R_ii {c : Jvm.ClassFile.Cond} {off : Int} {tgt : Nat} {x y : Int32} (hd : decode (mB M) pc = .ok (.if_icmp c off, 3)) (ht : (pc : Int) + off = (tgt : Int)) : Run M pc L (.int y :: .int x :: st) h = if icB c x y = true then Run M tgt L st h else Run M (pc + 3) L st h := by
  rw [R_br (q := (if icB c x y = true then tgt else pc + 3, st)) hd (by unfold invI; rw [hd]) rfl (by show brc (icB c x y) pc off st = _; unfold brc; rw [ht, if_pos (Int.natCast_nonneg tgt), Int.toNat_natCast])]
  dsimp only
  split <;> rfl
theorem R_if_eq {off : Int} {tgt : Nat} {x : Int32} (hd : decode (mB M) pc = .ok (.ifCond .eq off, 3)) (ht : (pc : Int) + off = (tgt : Int)) : Run M pc L (.int x :: st) h = if x = 0 then Run M tgt L st h else Run M (pc + 3) L st h := by rw [R_ic hd ht]; simp only [icB, decide_eq_true_eq]
theorem R_if_ne {off : Int} {tgt : Nat} {x : Int32} (hd : decode (mB M) pc = .ok (.ifCond .ne off, 3)) (ht : (pc : Int) + off = (tgt : Int)) : Run M pc L (.int x :: st) h = if x = 0 then Run M (pc + 3) L st h else Run M tgt L st h := by rw [R_ic hd ht]; simp only [icB, decide_eq_true_eq, ite_not]
theorem R_if_lt {off : Int} {tgt : Nat} {x : Int32} (hd : decode (mB M) pc = .ok (.ifCond .lt off, 3)) (ht : (pc : Int) + off = (tgt : Int)) : Run M pc L (.int x :: st) h = if x < 0 then Run M tgt L st h else Run M (pc + 3) L st h := by rw [R_ic hd ht]; simp only [icB, decide_eq_true_eq]
theorem R_if_ge {off : Int} {tgt : Nat} {x : Int32} (hd : decode (mB M) pc = .ok (.ifCond .ge off, 3)) (ht : (pc : Int) + off = (tgt : Int)) : Run M pc L (.int x :: st) h = if 0 ≤ x then Run M tgt L st h else Run M (pc + 3) L st h := by rw [R_ic hd ht]; simp only [icB, decide_eq_true_eq]
theorem R_if_gt {off : Int} {tgt : Nat} {x : Int32} (hd : decode (mB M) pc = .ok (.ifCond .gt off, 3)) (ht : (pc : Int) + off = (tgt : Int)) : Run M pc L (.int x :: st) h = if 0 < x then Run M tgt L st h else Run M (pc + 3) L st h := by rw [R_ic hd ht]; simp only [icB, decide_eq_true_eq]
theorem R_if_le {off : Int} {tgt : Nat} {x : Int32} (hd : decode (mB M) pc = .ok (.ifCond .le off, 3)) (ht : (pc : Int) + off = (tgt : Int)) : Run M pc L (.int x :: st) h = if x ≤ 0 then Run M tgt L st h else Run M (pc + 3) L st h := by rw [R_ic hd ht]; simp only [icB, decide_eq_true_eq]
theorem R_icmp_eq {off : Int} {tgt : Nat} {x y : Int32} (hd : decode (mB M) pc = .ok (.if_icmp .eq off, 3)) (ht : (pc : Int) + off = (tgt : Int)) : Run M pc L (.int y :: .int x :: st) h = if x = y then Run M tgt L st h else Run M (pc + 3) L st h := by rw [R_ii hd ht]; simp only [icB, decide_eq_true_eq]
theorem R_icmp_ne {off : Int} {tgt : Nat} {x y : Int32} (hd : decode (mB M) pc = .ok (.if_icmp .ne off, 3)) (ht : (pc : Int) + off = (tgt : Int)) : Run M pc L (.int y :: .int x :: st) h = if x = y then Run M (pc + 3) L st h else Run M tgt L st h := by rw [R_ii hd ht]; simp only [icB, decide_eq_true_eq, ite_not]
theorem R_icmp_lt {off : Int} {tgt : Nat} {x y : Int32} (hd : decode (mB M) pc = .ok (.if_icmp .lt off, 3)) (ht : (pc : Int) + off = (tgt : Int)) : Run M pc L (.int y :: .int x :: st) h = if x < y then Run M tgt L st h else Run M (pc + 3) L st h := by rw [R_ii hd ht]; simp only [icB, decide_eq_true_eq]
theorem R_icmp_ge {off : Int} {tgt : Nat} {x y : Int32} (hd : decode (mB M) pc = .ok (.if_icmp .ge off, 3)) (ht : (pc : Int) + off = (tgt : Int)) : Run M pc L (.int y :: .int x :: st) h = if y ≤ x then Run M tgt L st h else Run M (pc + 3) L st h := by rw [R_ii hd ht]; simp only [icB, decide_eq_true_eq]
theorem R_icmp_gt {off : Int} {tgt : Nat} {x y : Int32} (hd : decode (mB M) pc = .ok (.if_icmp .gt off, 3)) (ht : (pc : Int) + off = (tgt : Int)) : Run M pc L (.int y :: .int x :: st) h = if y < x then Run M tgt L st h else Run M (pc + 3) L st h := by rw [R_ii hd ht]; simp only [icB, decide_eq_true_eq]
theorem R_icmp_le {off : Int} {tgt : Nat} {x y : Int32} (hd : decode (mB M) pc = .ok (.if_icmp .le off, 3)) (ht : (pc : Int) + off = (tgt : Int)) : Run M pc L (.int y :: .int x :: st) h = if x ≤ y then Run M tgt L st h else Run M (pc + 3) L st h := by rw [R_ii hd ht]; simp only [icB, decide_eq_true_eq]
/-! ends -/
theorem R_ireturn {v : Int32} {ty : FieldType} (hd : decode (mB M) pc = .ok (.ireturn, 1)) (hr : mR M = some ty) (hn : narrow ty (.int v) = .int v) : Run M pc L [.int v] h = some (h, some (.int v)) := by
  rw [Run_eq]; unfold turn
  have : retI M pc [.int v] = some (some (.int v)) := by unfold retI; rw [hd]; dsimp only; rw [hr]; dsimp only; rw [if_pos hn]; rfl
  rw [this]
theorem R_lreturn {v : Int64} (hd : decode (mB M) pc = .ok (.lreturn, 1)) (hr : mR M = some .long) : Run M pc L [.long v] h = some (h, some (.long v)) := by
  rw [Run_eq]; unfold turn
  have : retI M pc [.long v] = some (some (.long v)) := by unfold retI; rw [hd]; dsimp only; rw [if_pos hr]; rfl
  rw [this]
theorem R_return (hd : decode (mB M) pc = .ok (.return_, 1)) (hr : mR M = none) : Run M pc L [] h = some (h, none) := by
  rw [Run_eq]; unfold turn
  have : retI M pc [] = some none := by unfold retI; rw [hd]; dsimp only; rw [if_pos hr]; rfl
  rw [this]
/-! the heap -/
theorem R_h1o {ins : Instr} {q : SH} (hd : decode (mB M) pc = .ok (ins, 1)) (h1 : retI M pc st = none) (h2 : invI M pc st h = none) (h3 : s1 ins L st = none) (h4 : hp1 ins st h = some q) : Run M pc L st h = Run M (pc + 1) L q.1 q.2 :=
  R_step (q := (pc + 1, L, q.1, q.2)) h1 h2 (by rw [stepI_1 hd, h3]; dsimp only; rw [h4]; rfl)
theorem R_h1n {ins : Instr} (hd : decode (mB M) pc = .ok (ins, 1)) (h1 : retI M pc st = none) (h2 : invI M pc st h = none) (h3 : s1 ins L st = none) (h4 : hp1 ins st h = none) : Run M pc L st h = none :=
  R_none h1 h2 (by rw [stepI_1 hd, h3]; dsimp only; rw [h4]; rfl)
theorem R_iaload {a : Nat} {i : Int32} (hd : decode (mB M) pc = .ok (.iaload, 1)) : Run M pc L (.int i :: .ref a :: st) h = if (gI 0 h a i).isSome = true then Run M (pc + 1) L (.int ((gI 0 h a i).getD 0) :: st) h else none := by
  cases ho : gI 0 h a i with
  | none => exact R_h1n hd (by unfold retI; rw [hd]) (by unfold invI; rw [hd]) rfl (by show (gI 0 h a i).map _ = _; rw [ho]; rfl)
  | some v => exact R_h1o (q := (.int v :: st, h)) hd (by unfold retI; rw [hd]) (by unfold invI; rw [hd]) rfl (by show (gI 0 h a i).map _ = _; rw [ho]; rfl)
theorem R_baload {a : Nat} {i : Int32} (hd : decode (mB M) pc = .ok (.baload, 1)) (ha : a ≠ 0) : Run M pc L (.int i :: .ref a :: st) h = if (gI 2 h a i).isSome = true then Run M (pc + 1) L (.int ((gI 2 h a i).getD 0) :: st) h else none := by
  cases ho : gI 2 h a i with
  | none => exact R_h1n hd (by unfold retI; rw [hd]) (by unfold invI; rw [hd]) rfl (by show (if a = 0 then none else gI 2 h a i).map _ = _; rw [if_neg ha, ho]; rfl)
  | some v => exact R_h1o (q := (.int v :: st, h)) hd (by unfold retI; rw [hd]) (by unfold invI; rw [hd]) rfl (by show (if a = 0 then none else gI 2 h a i).map _ = _; rw [if_neg ha, ho]; rfl)
theorem R_laload {a : Nat} {i : Int32} (hd : decode (mB M) pc = .ok (.laload, 1)) : Run M pc L (.int i :: .ref a :: st) h = if (gJ h a i).isSome = true then Run M (pc + 1) L (.long ((gJ h a i).getD 0) :: st) h else none := by
  cases ho : gJ h a i with
  | none => exact R_h1n hd (by unfold retI; rw [hd]) (by unfold invI; rw [hd]) rfl (by show (gJ h a i).map _ = _; rw [ho]; rfl)
  | some v => exact R_h1o (q := (.long v :: st, h)) hd (by unfold retI; rw [hd]) (by unfold invI; rw [hd]) rfl (by show (gJ h a i).map _ = _; rw [ho]; rfl)
theorem R_aaload {a : Nat} {i : Int32} (hd : decode (mB M) pc = .ok (.aaload, 1)) : Run M pc L (.int i :: .ref a :: st) h = if (gR h a i).isSome = true then Run M (pc + 1) L (.ref ((gR h a i).getD 0) :: st) h else none := by
  cases ho : gR h a i with
  | none => exact R_h1n hd (by unfold retI; rw [hd]) (by unfold invI; rw [hd]) rfl (by show (gR h a i).map _ = _; rw [ho]; rfl)
  | some v => exact R_h1o (q := (.ref v :: st, h)) hd (by unfold retI; rw [hd]) (by unfold invI; rw [hd]) rfl (by show (gR h a i).map _ = _; rw [ho]; rfl)
theorem R_iastore {a : Nat} {i x : Int32} (hd : decode (mB M) pc = .ok (.iastore, 1)) : Run M pc L (.int x :: .int i :: .ref a :: st) h = if (pI 0 h a i x).isSome = true then Run M (pc + 1) L st ((pI 0 h a i x).getD h) else none := by
  cases ho : pI 0 h a i x with
  | none => exact R_h1n hd (by unfold retI; rw [hd]) (by unfold invI; rw [hd]) rfl (by show (pI 0 h a i x).map _ = _; rw [ho]; rfl)
  | some v => exact R_h1o (q := (st, v)) hd (by unfold retI; rw [hd]) (by unfold invI; rw [hd]) rfl (by show (pI 0 h a i x).map _ = _; rw [ho]; rfl)
theorem R_bastore {a : Nat} {i x : Int32} (hd : decode (mB M) pc = .ok (.bastore, 1)) : Run M pc L (.int x :: .int i :: .ref a :: st) h = if (pI 2 h a i (x &&& 1)).isSome = true then Run M (pc + 1) L st ((pI 2 h a i (x &&& 1)).getD h) else none := by
  cases ho : pI 2 h a i (x &&& 1) with
  | none => exact R_h1n hd (by unfold retI; rw [hd]) (by unfold invI; rw [hd]) rfl (by show (pI 2 h a i (x &&& 1)).map _ = _; rw [ho]; rfl)
  | some v => exact R_h1o (q := (st, v)) hd (by unfold retI; rw [hd]) (by unfold invI; rw [hd]) rfl (by show (pI 2 h a i (x &&& 1)).map _ = _; rw [ho]; rfl)
theorem R_lastore {a : Nat} {i : Int32} {x : Int64} (hd : decode (mB M) pc = .ok (.lastore, 1)) : Run M pc L (.long x :: .int i :: .ref a :: st) h = if (pJ h a i x).isSome = true then Run M (pc + 1) L st ((pJ h a i x).getD h) else none := by
  cases ho : pJ h a i x with
  | none => exact R_h1n hd (by unfold retI; rw [hd]) (by unfold invI; rw [hd]) rfl (by show (pJ h a i x).map _ = _; rw [ho]; rfl)
  | some v => exact R_h1o (q := (st, v)) hd (by unfold retI; rw [hd]) (by unfold invI; rw [hd]) rfl (by show (pJ h a i x).map _ = _; rw [ho]; rfl)
theorem R_aastore {a x : Nat} {i : Int32} (hd : decode (mB M) pc = .ok (.aastore, 1)) : Run M pc L (.ref x :: .int i :: .ref a :: st) h = if (pR h a i x).isSome = true then Run M (pc + 1) L st ((pR h a i x).getD h) else none := by
  cases ho : pR h a i x with
  | none => exact R_h1n hd (by unfold retI; rw [hd]) (by unfold invI; rw [hd]) rfl (by show (pR h a i x).map _ = _; rw [ho]; rfl)
  | some v => exact R_h1o (q := (st, v)) hd (by unfold retI; rw [hd]) (by unfold invI; rw [hd]) rfl (by show (pR h a i x).map _ = _; rw [ho]; rfl)
theorem R_arraylength {a : Nat} (hd : decode (mB M) pc = .ok (.arraylength, 1)) : Run M pc L (.ref a :: st) h = if (gN h a).isSome = true then Run M (pc + 1) L (.int (Int32.ofNat ((gN h a).getD 0)) :: st) h else none := by
  cases ho : gN h a with
  | none => exact R_h1n hd (by unfold retI; rw [hd]) (by unfold invI; rw [hd]) rfl (by show (gN h a).map _ = _; rw [ho]; rfl)
  | some v => exact R_h1o (q := (.int (Int32.ofNat v) :: st, h)) hd (by unfold retI; rw [hd]) (by unfold invI; rw [hd]) rfl (by show (gN h a).map _ = _; rw [ho]; rfl)
theorem R_h3o {ins : Instr} {q : SH} (hd : decode (mB M) pc = .ok (ins, 3)) (h2 : invI M pc st h = none) (h3 : s3 M ins L st = none) (h5 : br ins pc st = none) (h4 : hp3 M ins st h = some q) : Run M pc L st h = Run M (pc + 3) L q.1 q.2 :=
  R_step (q := (pc + 3, L, q.1, q.2)) (retI_len hd (by decide)) h2 (by rw [stepI_3 hd, h3]; dsimp only; rw [h5]; dsimp only; rw [h4]; rfl)
theorem R_h3n {ins : Instr} (hd : decode (mB M) pc = .ok (ins, 3)) (h2 : invI M pc st h = none) (h3 : s3 M ins L st = none) (h5 : br ins pc st = none) (h4 : hp3 M ins st h = none) : Run M pc L st h = none :=
  R_none (retI_len hd (by decide)) h2 (by rw [stepI_3 hd, h3]; dsimp only; rw [h5]; dsimp only; rw [h4]; rfl)
theorem R_getfield {a i ci k : Nat} (hd : decode (mB M) pc = .ok (.getfield i, 3)) (hf : fTab.lookup (mK M i) = some (ci, k)) : Run M pc L (.ref a :: st) h = if (gF h a ci k).isSome = true then Run M (pc + 3) L ((gF h a ci k).getD .null :: st) h else none := by
  cases ho : gF h a ci k with
  | none => exact R_h3n hd (by unfold invI; rw [hd]) rfl rfl (by unfold hp3; dsimp only; rw [hf]; dsimp only; rw [ho]; rfl)
  | some v => exact R_h3o (q := (v :: st, h)) hd (by unfold invI; rw [hd]) rfl rfl (by unfold hp3; dsimp only; rw [hf]; dsimp only; rw [ho]; rfl)
theorem R_putfield {a i ci k : Nat} {v : Value} (hd : decode (mB M) pc = .ok (.putfield i, 3)) (hf : fTab.lookup (mK M i) = some (ci, k)) (hk : okP M ci k v = true) : Run M pc L (v :: .ref a :: st) h = if (pF h a ci k v).isSome = true then Run M (pc + 3) L st ((pF h a ci k v).getD h) else none := by
  cases ho : pF h a ci k v with
  | none => exact R_h3n hd (by unfold invI; rw [hd]) rfl rfl (by unfold hp3; dsimp only; rw [hf]; dsimp only; rw [if_pos hk, ho]; rfl)
  | some h' => exact R_h3o (q := (st, h')) hd (by unfold invI; rw [hd]) rfl rfl (by unfold hp3; dsimp only; rw [hf]; dsimp only; rw [if_pos hk, ho]; rfl)
theorem okP_int {ci k : Nat} {x : Int32} (h1 : tyF ci k = .int) (h2 : (tbF ci k).2.2.2 = false) : okP M ci k (.int x) = true := by simp [okP, h1, h2, narrow, fits]
theorem okP_bool {ci k : Nat} {x : Int32} (h1 : tyF ci k = .boolean) (h2 : (tbF ci k).2.2.2 = false) (hx : x = 0 ∨ x = 1) : okP M ci k (.int x) = true := by rcases hx with rfl | rfl <;> simp [okP, h1, h2] <;> decide
theorem okP_ref {ci k a : Nat} {C : String} (h1 : tyF ci k = .object C) (h2 : (tbF ci k).2.2.2 = false ∨ ((mY M).name = "<init>" ∧ mC M = ci)) : okP M ci k (.ref a) = true := by rcases h2 with h2 | ⟨h2, h3⟩ <;> simp_all [okP, narrow, fits]
theorem okP_arr {ci k a : Nat} {t : FieldType} (h1 : tyF ci k = .array t) (h2 : (tbF ci k).2.2.2 = false ∨ ((mY M).name = "<init>" ∧ mC M = ci)) : okP M ci k (.ref a) = true := by rcases h2 with h2 | ⟨h2, h3⟩ <;> simp_all [okP, narrow, fits]
theorem R_new {i ci n : Nat} {fs : List Value} (hd : decode (mB M) pc = .ok (.new i, 3)) (hf : nTab.lookup (mK M i) = some ci) (hn : nmF ci = n) (hfs : (List.range n).map (fun k => defaultValue (tyF ci k)) = fs) : Run M pc L st h = Run M (pc + 3) L (.ref h.1 :: st) (hnew h n (oB ci fs)) := by
  subst hfs; subst hn
  exact R_h3o (q := (.ref h.1 :: st, hnew h (nmF ci) (oB ci ((List.range (nmF ci)).map (fun k => defaultValue (tyF ci k)))))) hd (by unfold invI; rw [hd]) rfl rfl (by unfold hp3; dsimp only; rw [hf])
theorem R_anewarray {i ci N t : Nat} {n : Int32} (hd : decode (mB M) pc = .ok (.anewarray i, 3)) (hf : nTab.lookup (mK M i) = some ci) (hn : ¬ n < 0 ∧ n.toNatClampNeg ≤ 1000000 ∧ (ci = 6 ∨ ci = 0)) (hN : n.toNatClampNeg = N) (ht : (if ci = 6 then 4 else 5) = t) : Run M pc L (.int n :: st) h = Run M (pc + 3) L (.ref h.1 :: st) (hnew h N (rA t N (fun _ => none))) := by
  subst hN; subst ht
  exact R_h3o (q := (.ref h.1 :: st, hnew h n.toNatClampNeg (rA (if ci = 6 then 4 else 5) n.toNatClampNeg (fun _ => none)))) hd (by unfold invI; rw [hd]) rfl rfl (by unfold hp3; dsimp only; rw [hf]; dsimp only; rw [if_pos hn])
theorem R_newarray {t : ArrayType} {q : Nat × (Nat → AC)} {N : Nat} {n : Int32} {y : AC} (hd : decode (mB M) pc = .ok (.newarray t, 2)) (hq : newP t = some q) (hn : ¬ n < 0 ∧ n.toNatClampNeg ≤ 1000000) (hN : n.toNatClampNeg = N) (hy : q.2 N = y) : Run M pc L (.int n :: st) h = Run M (pc + 2) L (.ref h.1 :: st) (hnew h N y) := by
  subst hN; subst hy
  exact R_step (q := (pc + 2, L, .ref h.1 :: st, hnew h n.toNatClampNeg (q.2 n.toNatClampNeg))) (retI_len hd (by decide)) (invI_len hd (by decide)) (by rw [stepI_2 hd]; dsimp only [s2]; unfold hp2; dsimp only; rw [hq]; dsimp only; rw [if_pos hn]; rfl)
theorem R_multi {i N K : Nat} {n k : Int32} (hd : decode (mB M) pc = .ok (.multianewarray i 2, 4)) (hn : jTab.contains (mK M i) = true ∧ ¬ n < 0 ∧ ¬ k < 0 ∧ n.toNatClampNeg ≤ 1000 ∧ k.toNatClampNeg ≤ 1000) (hN : n.toNatClampNeg = N) (hK : k.toNatClampNeg = K) : Run M pc L (.int k :: .int n :: st) h = Run M (pc + 4) L (.ref h.1 :: st) (hmul h N K) := by
  subst hN; subst hK
  exact R_step (q := (pc + 4, L, .ref h.1 :: st, hmul h n.toNatClampNeg k.toNatClampNeg)) (retI_len hd (by decide)) (invI_len hd (by decide)) (by rw [stepI_4 hd]; unfold hp4; dsimp only; rw [if_pos ⟨rfl, hn⟩]; rfl)
theorem invI_o {i : Nat} (hd : decode (mB M) pc = .ok (.invokespecial i, 3)) : invI M pc st h = (match oTab.lookup (mK M i) with
    | some N => if cFit M N (mP N + 1) st = true ∧ refA st[mP N]? = true then some (N, mP N + 1, 2) else none
    | none => match oNest.lookup (mK M i) with
      | some N => if cFit M N (mP N + 1) st = true ∧ refA st[mP N]? = true then some (N, mP N + 1, 4) else none
      | none => none) := by unfold invI; rw [hd]; rfl
theorem R_obj {i a : Nat} (hd : decode (mB M) pc = .ok (.invokespecial i, 3)) (h1 : oTab.lookup (mK M i) = none) (h2 : oNest.lookup (mK M i) = none) (h3 : objTab.contains (mK M i) = true ∧ st.length ≤ 4 ∧ 1 ≤ mF M ∧ 20 ≤ mW M) : Run M pc L (.ref a :: st) h = Run M (pc + 3) L st h :=
  R_h3o (q := (st, h)) hd (by rw [invI_o hd, h1]; dsimp only; rw [h2]) rfl rfl (by unfold hp3; dsimp only; rw [if_pos h3])
/-! switches -/
theorem R_sw {ins : Instr} {len : Nat} {q : Nat × List Value} (hd : decode (mB M) pc = .ok (ins, len)) (hl : 4 < len) (h4 : sw ins pc st = some q) : Run M pc L st h = Run M q.1 L q.2 h :=
  R_step (q := (q.1, L, q.2, h)) (retI_len hd (by omega)) (invI_len hd (by omega)) (by rw [stepI_5 hd hl, h4]; rfl)
theorem R_lookup {dflt : Int} {ps : Array (Int × Int)} {len : Nat} {x : Int32} {off : Int} {tgt : Nat} (hd : decode (mB M) pc = .ok (.lookupswitch dflt ps, len)) (hl : 4 < len) (hp : (ps.toList.zip (ps.toList.drop 1)).all (fun (a, next) => a.1 < next.1) = true) (ho : Op.lookupswitch.offset ps.toList dflt x.toInt = off) (ht : (pc : Int) + off = (tgt : Int)) : Run M pc L (.int x :: st) h = Run M tgt L st h :=
  R_sw (q := (tgt, st)) hd hl (by unfold sw; dsimp only; rw [if_pos hp, ho]; unfold jmp; rw [ht, if_pos (Int.natCast_nonneg tgt), Int.toNat_natCast])
theorem R_tabOut {dflt lo hi : Int} {offs : Array Int} {len : Nat} {x : Int32} {tgt : Nat} (hd : decode (mB M) pc = .ok (.tableswitch dflt lo hi offs, len)) (hl : 4 < len) (hx : x.toInt < lo ∨ hi < x.toInt) (ht : (pc : Int) + dflt = (tgt : Int)) : Run M pc L (.int x :: st) h = Run M tgt L st h :=
  R_sw (q := (tgt, st)) hd hl (by unfold sw; dsimp only; rw [if_pos hx]; unfold jmp; rw [ht, if_pos (Int.natCast_nonneg tgt), Int.toNat_natCast])
theorem R_tabIn {dflt lo hi : Int} {offs : Array Int} {len : Nat} {x : Int32} {off : Int} {tgt : Nat} (hd : decode (mB M) pc = .ok (.tableswitch dflt lo hi offs, len)) (hl : 4 < len) (hx : ¬ (x.toInt < lo ∨ hi < x.toInt)) (ho : offs[(x.toInt - lo).toNat]? = some off) (ht : (pc : Int) + off = (tgt : Int)) : Run M pc L (.int x :: st) h = Run M tgt L st h :=
  R_sw (q := (tgt, st)) hd hl (by unfold sw; dsimp only; rw [if_neg hx, ho]; dsimp only; unfold jmp; rw [ht, if_pos (Int.natCast_nonneg tgt), Int.toNat_natCast])
/-! calls -/
theorem invI_v {i : Nat} (hd : decode (mB M) pc = .ok (.invokevirtual i, 3)) : invI M pc st h = (match vTab.lookup (mK M i) with
    | some N => if cFit M N (mP N + 1) st = true ∧ refO h (mC N) st[mP N]? = true then some (N, mP N + 1, 0) else none
    | none => none) := by unfold invI; rw [hd]; rfl
theorem invI_s {i : Nat} (hd : decode (mB M) pc = .ok (.invokestatic i, 3)) : invI M pc st h = (match sTab.lookup (mK M i) with
    | some N => if cFit M N (mP N) st = true then some (N, mP N, 1) else none
    | none => match sNest.lookup (mK M i) with
      | some N => if cFit M N (mP N) st = true then some (N, mP N, 3) else none
      | none => none) := by unfold invI; rw [hd]; rfl

def rL (o : OUT) : List Value := match o with
  | some z => z.2.toList
  | none => []
def cH (o : OUT) : AH := match o with
  | some z => z.1
  | none => (0, 0, fun _ => none)
theorem R_inv {N : MI} {k kd : Nat} {av rest : List Value} (h1 : retI M pc st = none) (h2 : invI M pc st h = some (N, k, kd)) (ha : (st.take k).reverse = av) (hr : st.drop k = rest) (hl : (flat av).length ≤ mL N) : Run M pc L st h = if (Call N h av).isSome = true then Run M (pc + 3) L (rL (Call N h av) ++ rest) (cH (Call N h av)) else none := by
  subst ha; subst hr
  rw [Run_eq]; unfold turn; rw [h1, h2]; dsimp only
  rw [if_pos hl]
  unfold Call
  cases hc : Run N 0 (ent (mL N) (st.take k).reverse) [] h with
  | none => rfl
  | some z => rfl
theorem R_virt {i a : Nat} {N : MI} {av rest : List Value} (hd : decode (mB M) pc = .ok (.invokevirtual i, 3)) (hN : vTab.lookup (mK M i) = some N) (hfit : cFit M N (mP N + 1) st = true) (hra : st[mP N]? = some (.ref a)) (hav : (st.take (mP N + 1)).reverse = av) (hr : st.drop (mP N + 1) = rest) (hl : (flat av).length ≤ mL N) :
    Run M pc L st h = if refO h (mC N) (some (.ref a)) = true then (if (Call N h av).isSome = true then Run M (pc + 3) L (rL (Call N h av) ++ rest) (cH (Call N h av)) else none) else none := by
  by_cases hc : refO h (mC N) (some (.ref a)) = true
  · rw [if_pos hc]
    exact R_inv (k := mP N + 1) (kd := 0) (by unfold retI; rw [hd]) (by rw [invI_v hd, hN]; dsimp only; rw [hra, if_pos ⟨hfit, hc⟩]) hav hr hl
  · rw [if_neg hc]
    exact R_none (by unfold retI; rw [hd]) (by rw [invI_v hd, hN]; dsimp only; rw [hra, if_neg (fun q => hc q.2)]) (by rw [stepI_3 hd]; rfl)
theorem R_stat {i : Nat} {N : MI} {av rest : List Value} (hd : decode (mB M) pc = .ok (.invokestatic i, 3)) (hN : sTab.lookup (mK M i) = some N) (hfit : cFit M N (mP N) st = true) (hav : (st.take (mP N)).reverse = av) (hr : st.drop (mP N) = rest) (hl : (flat av).length ≤ mL N) :
    Run M pc L st h = if (Call N h av).isSome = true then Run M (pc + 3) L (rL (Call N h av) ++ rest) (cH (Call N h av)) else none :=
  R_inv (k := mP N) (kd := 1) (by unfold retI; rw [hd]) (by rw [invI_s hd, hN]; dsimp only; rw [if_pos hfit]) hav hr hl
theorem R_statN {i : Nat} {N : MI} {av rest : List Value} (hd : decode (mB M) pc = .ok (.invokestatic i, 3)) (hN0 : sTab.lookup (mK M i) = none) (hN : sNest.lookup (mK M i) = some N) (hfit : cFit M N (mP N) st = true) (hav : (st.take (mP N)).reverse = av) (hr : st.drop (mP N) = rest) (hl : (flat av).length ≤ mL N) :
    Run M pc L st h = if (Call N h av).isSome = true then Run M (pc + 3) L (rL (Call N h av) ++ rest) (cH (Call N h av)) else none :=
  R_inv (k := mP N) (kd := 3) (by unfold retI; rw [hd]) (by rw [invI_s hd, hN0]; dsimp only; rw [hN]; dsimp only; rw [if_pos hfit]) hav hr hl
theorem R_spec {i a : Nat} {N : MI} {av rest : List Value} (hd : decode (mB M) pc = .ok (.invokespecial i, 3)) (hN : oTab.lookup (mK M i) = some N) (hfit : cFit M N (mP N + 1) st = true) (hra : st[mP N]? = some (.ref a)) (hav : (st.take (mP N + 1)).reverse = av) (hr : st.drop (mP N + 1) = rest) (hl : (flat av).length ≤ mL N) :
    Run M pc L st h = if (Call N h av).isSome = true then Run M (pc + 3) L (rL (Call N h av) ++ rest) (cH (Call N h av)) else none :=
  R_inv (k := mP N + 1) (kd := 2) (by unfold retI; rw [hd]) (by rw [invI_o hd, hN]; dsimp only; rw [hra, if_pos ⟨hfit, rfl⟩]) hav hr hl
theorem R_specN {i a : Nat} {N : MI} {av rest : List Value} (hd : decode (mB M) pc = .ok (.invokespecial i, 3)) (hN0 : oTab.lookup (mK M i) = none) (hN : oNest.lookup (mK M i) = some N) (hfit : cFit M N (mP N + 1) st = true) (hra : st[mP N]? = some (.ref a)) (hav : (st.take (mP N + 1)).reverse = av) (hr : st.drop (mP N + 1) = rest) (hl : (flat av).length ≤ mL N) :
    Run M pc L st h = if (Call N h av).isSome = true then Run M (pc + 3) L (rL (Call N h av) ++ rest) (cH (Call N h av)) else none :=
  R_inv (k := mP N + 1) (kd := 4) (by unfold retI; rw [hd]) (by rw [invI_o hd, hN0]; dsimp only; rw [hN]; dsimp only; rw [hra, if_pos ⟨hfit, rfl⟩]) hav hr hl
end RUL
/-- a truth as an int -/
def bI (c : Prop) [Decidable c] : Int32 := if c then nI 1 else nI 0
theorem bI_t {c : Prop} [Decidable c] (h : c) : bI c = nI 1 := if_pos h
theorem bI_f {c : Prop} [Decidable c] (h : ¬ c) : bI c = nI 0 := if_neg h
theorem narrow_bI {c : Prop} [Decidable c] : narrow .boolean (.int (bI c)) = .int (bI c) := by
  unfold bI; split <;> decide
theorem ite_bI {α : Sort _} {c : Prop} [Decidable c] {a b : α} : (if bI c = nI 0 then a else b) = if c then b else a := by
  unfold bI; by_cases h : c
  · rw [if_pos h, if_pos h, if_neg (by decide)]
  · rw [if_neg h, if_neg h, if_pos rfl]
theorem ite_bI1 {α : Sort _} {c : Prop} [Decidable c] {a b : α} : (if bI c = nI 1 then a else b) = if c then a else b := by
  unfold bI; by_cases h : c
  · rw [if_pos h, if_pos h, if_pos rfl]
  · rw [if_neg h, if_neg h, if_neg (by decide)]
