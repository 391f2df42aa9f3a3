section SND
variable {p : Program} {l : Launch} {e : Env} {R : Room} {s : State} {m : MethodId} {args : Array Value} {below : List Frame} {meth : Method} {c : Code} {H : Heap} {locs : List Loc} {cells slots : Nat} {Q : State → Prop}
variable {b base : Nat} {D : va_G} {M : MI} {pc : Nat} {ls : Array Slot} {L st L' st' : List Value} {h h' : AH} {ins : Instr}
theorem ldI_inv {k : Nat} (hs : ldI k L st = some (L', st')) : ∃ x, L[k]? = some (.int x) ∧ L' = L ∧ st' = .int x :: st := by
  unfold ldI at hs
  split at hs
  · rename_i x hx; cases hs; exact ⟨x, hx, rfl, rfl⟩
  · cases hs
theorem ldJ_inv {k : Nat} (hs : ldJ k L st = some (L', st')) : ∃ x, L[k]? = some (.long x) ∧ L' = L ∧ st' = .long x :: st := by
  unfold ldJ at hs
  split at hs
  · rename_i x hx; cases hs; exact ⟨x, hx, rfl, rfl⟩
  · cases hs
theorem ldA_inv {k : Nat} (hs : ldA k L st = some (L', st')) : ∃ x, L[k]? = some (.ref x) ∧ L' = L ∧ st' = .ref x :: st := by
  unfold ldA at hs
  split at hs
  · rename_i x hx; cases hs; exact ⟨x, hx, rfl, rfl⟩
  · cases hs
theorem st1_inv {k : Nat} {v : Value} (hs : st1 k v L st = some (L', st')) : k < L.length ∧ catP L k = true ∧ L' = L.set k v ∧ st' = st := by
  unfold st1 at hs
  split at hs
  · rename_i hc; cases hs; exact ⟨hc.1, hc.2, rfl, rfl⟩
  · cases hs
theorem st2_inv {k : Nat} {v : Value} (hs : st2 k v L st = some (L', st')) : k + 1 < L.length ∧ catP L k = true ∧ L' = (L.set k v).set (k + 1) .null ∧ st' = st := by
  unfold st2 at hs
  split at hs
  · rename_i hc; cases hs; exact ⟨hc.1, hc.2, rfl, rfl⟩
  · cases hs
theorem stI_inv {k : Nat} (hs : stI k L st = some (L', st')) : ∃ x, st = .int x :: st' ∧ k < L.length ∧ catP L k = true ∧ L' = L.set k (.int x) := by
  unfold stI at hs
  split at hs
  · obtain ⟨h1, h2, h3, rfl⟩ := st1_inv hs; exact ⟨_, rfl, h1, h2, h3⟩
  · cases hs
theorem stJ_inv {k : Nat} (hs : stJ k L st = some (L', st')) : ∃ x, st = .long x :: st' ∧ k + 1 < L.length ∧ catP L k = true ∧ L' = (L.set k (.long x)).set (k + 1) .null := by
  unfold stJ at hs
  split at hs
  · obtain ⟨h1, h2, h3, rfl⟩ := st2_inv hs; exact ⟨_, rfl, h1, h2, h3⟩
  · cases hs
theorem stA_inv {k : Nat} (hs : stA k L st = some (L', st')) : ∃ x, st = .ref x :: st' ∧ k < L.length ∧ catP L k = true ∧ L' = L.set k (.ref x) := by
  unfold stA at hs
  split at hs
  · obtain ⟨h1, h2, h3, rfl⟩ := st1_inv hs; exact ⟨_, rfl, h1, h2, h3⟩
  · cases hs
theorem i2_inv {f : Int32 → Int32 → Int32} (hs : i2 f L st = some (L', st')) : ∃ x y r, st = .int y :: .int x :: r ∧ L' = L ∧ st' = .int (f x y) :: r := by
  unfold i2 at hs
  split at hs
  · cases hs; exact ⟨_, _, _, rfl, rfl, rfl⟩
  · cases hs
theorem j2_inv {f : Int64 → Int64 → Int64} (hs : j2 f L st = some (L', st')) : ∃ x y r, st = .long y :: .long x :: r ∧ L' = L ∧ st' = .long (f x y) :: r := by
  unfold j2 at hs
  split at hs
  · cases hs; exact ⟨_, _, _, rfl, rfl, rfl⟩
  · cases hs
theorem i2d_inv {f : Int32 → Int32 → Int32} (hs : i2d f L st = some (L', st')) : ∃ x y r, ¬ y = 0 ∧ st = .int y :: .int x :: r ∧ L' = L ∧ st' = .int (f x y) :: r := by
  unfold i2d at hs
  split at hs
  · split at hs
    · cases hs
    · rename_i hy; cases hs; exact ⟨_, _, _, hy, rfl, rfl, rfl⟩
  · cases hs
theorem j2d_inv {f : Int64 → Int64 → Int64} (hs : j2d f L st = some (L', st')) : ∃ x y r, ¬ y = 0 ∧ st = .long y :: .long x :: r ∧ L' = L ∧ st' = .long (f x y) :: r := by
  unfold j2d at hs
  split at hs
  · split at hs
    · cases hs
    · rename_i hy; cases hs; exact ⟨_, _, _, hy, rfl, rfl, rfl⟩
  · cases hs
set_option maxHeartbeats 1000000 in
theorem s1_ok (hx : p.tables.exec = Jvm.exec) (hb : c.code = mB M) (hL : LR b base ls (mL M) L) (hd : decode (mB M) pc = .ok (ins, 1)) (hs : s1 ins L st = some (L', st'))
    (kk : ∀ ls', LR b base ls' (mL M) L' → W p l e R s m args below meth c H locs cells slots Q (F0 m (pc + 1) ls' (st'.map (cv b base)))) : W p l e R s m args below meth c H locs cells slots Q (F0 m pc ls (st.map (cv b base))) := by
  unfold s1 at hs
  split at hs
  · cases hs; exact lv_iconst hx hb hd rfl (kk ls hL)
  · cases hs; exact lv_lconst hx hb hd rfl (kk ls hL)
  · obtain ⟨x, h1, rfl, rfl⟩ := ldI_inv hs; exact lv_iload_n hx hb hd rfl (hL.at h1 (fun q => by cases q)) (kk ls hL)
  · obtain ⟨x, h1, rfl, rfl⟩ := ldJ_inv hs; exact lv_lload_n hx hb hd rfl (hL.at h1 (fun q => by cases q)) (kk ls hL)
  · obtain ⟨x, h1, rfl, rfl⟩ := ldA_inv hs; exact lv_aload_n hx hb hd rfl (hL.at h1 (fun q => by cases q)) (kk ls hL)
  · obtain ⟨x, rfl, h1, h2, rfl⟩ := stI_inv hs; exact lv_istore_n hx hb hd rfl hL.2 (by rw [← hL.1]; exact h1) rfl (fun ls' h' => kk ls' (hL.st1 (v := .int x) h1 h2 h'))
  · obtain ⟨x, rfl, h1, h2, rfl⟩ := stJ_inv hs; exact lv_lstore_n hx hb hd rfl hL.2 (by rw [← hL.1]; exact h1) rfl (fun ls' h' => kk ls' (hL.st2 (v := .long x) h1 h2 h'))
  · obtain ⟨x, rfl, h1, h2, rfl⟩ := stA_inv hs; exact lv_astore_n hx hb hd rfl hL.2 (by rw [← hL.1]; exact h1) rfl (fun ls' h' => kk ls' (hL.st1 (v := .ref x) h1 h2 h'))
  · obtain ⟨x, y, r, rfl, rfl, rfl⟩ := i2_inv hs; exact lv_iadd hx hb hd (kk ls hL)
  · obtain ⟨x, y, r, rfl, rfl, rfl⟩ := i2_inv hs; exact lv_isub hx hb hd (kk ls hL)
  · obtain ⟨x, y, r, rfl, rfl, rfl⟩ := i2_inv hs; exact lv_imul hx hb hd (kk ls hL)
  · obtain ⟨x, y, r, rfl, rfl, rfl⟩ := i2_inv hs; exact lv_iand hx hb hd (kk ls hL)
  · obtain ⟨x, y, r, rfl, rfl, rfl⟩ := i2_inv hs; exact lv_ixor hx hb hd (kk ls hL)
  · obtain ⟨x, y, r, hy, rfl, rfl, rfl⟩ := i2d_inv hs; exact lv_idiv hx hb hd hy (kk ls hL)
  · obtain ⟨x, y, r, hy, rfl, rfl, rfl⟩ := i2d_inv hs; exact lv_irem hx hb hd hy (kk ls hL)
  · obtain ⟨x, y, r, rfl, rfl, rfl⟩ := i2_inv hs; exact lv_ishl hx hb hd (kk ls hL)
  · obtain ⟨x, y, r, rfl, rfl, rfl⟩ := i2_inv hs; exact lv_ishr hx hb hd (kk ls hL)
  · obtain ⟨x, y, r, rfl, rfl, rfl⟩ := i2_inv hs; exact lv_iushr hx hb hd rfl (kk ls hL)
  · obtain ⟨x, y, r, rfl, rfl, rfl⟩ := j2_inv hs; exact lv_ladd hx hb hd (kk ls hL)
  · obtain ⟨x, y, r, rfl, rfl, rfl⟩ := j2_inv hs; exact lv_lsub hx hb hd (kk ls hL)
  · obtain ⟨x, y, r, rfl, rfl, rfl⟩ := j2_inv hs; exact lv_lmul hx hb hd (kk ls hL)
  · obtain ⟨x, y, r, rfl, rfl, rfl⟩ := j2_inv hs; exact lv_land hx hb hd (kk ls hL)
  · obtain ⟨x, y, r, hy, rfl, rfl, rfl⟩ := j2d_inv hs; exact lv_ldiv hx hb hd hy (kk ls hL)
  · obtain ⟨x, y, r, hy, rfl, rfl, rfl⟩ := j2d_inv hs; exact lv_lrem hx hb hd hy (kk ls hL)
  · unfold sCmp at hs; split at hs
    · cases hs; exact W.lcmp hx hb hd (kk ls hL)
    · cases hs
  · unfold sI2l at hs; split at hs
    · cases hs; exact lv_i2l hx hb hd rfl (kk ls hL)
    · cases hs
  · unfold sL2i at hs; split at hs
    · cases hs; exact lv_l2i hx hb hd rfl (kk ls hL)
    · cases hs
  · unfold sDup at hs; split at hs
    · split at hs
      · rename_i hc; cases hs; exact lv_dup hx hb hd (by rw [cv_cat]; exact hc) (kk ls hL)
      · cases hs
    · cases hs
  · unfold sDup2 at hs; split at hs
    · split at hs
      · rename_i hc; cases hs; exact lv_dup2_11 hx hb hd (by rw [cv_cat]; exact hc.1) (by rw [cv_cat]; exact hc.2) (kk ls hL)
      · cases hs
    · cases hs
  · cases hs
set_option maxHeartbeats 1000000 in
theorem s2_ok (hx : p.tables.exec = Jvm.exec) (hb : c.code = mB M) (hown : s.vm.findClass (cnm (mC M)) = some m.cls) (hts : ∀ w ∈ tb, w.before args s = true) (hL : LR b base ls (mL M) L) (hd : decode (mB M) pc = .ok (ins, 2)) (hs : s2 M ins L st = some (L', st'))
    (kk : ∀ ls', LR b base ls' (mL M) L' → W p l e R s m args below meth c H locs cells slots Q (F0 m (pc + 2) ls' (st'.map (cv b base)))) : W p l e R s m args below meth c H locs cells slots Q (F0 m pc ls (st.map (cv b base))) := by
  unfold s2 at hs
  split at hs
  · cases hs; exact lv_bipush hx hb hd rfl (kk ls hL)
  · obtain ⟨v, hv, he⟩ := Option.map_eq_some_iff.mp hs
    cases he
    exact lv_ldc hx hb hown (hts _ (iTab_ok _ (lookup_mem hv))) hd (kk ls hL)
  · obtain ⟨x, h1, rfl, rfl⟩ := ldI_inv hs; exact lv_iload hx hb hd (hL.at h1 (fun q => by cases q)) (kk ls hL)
  · obtain ⟨x, h1, rfl, rfl⟩ := ldJ_inv hs; exact lv_lload hx hb hd (hL.at h1 (fun q => by cases q)) (kk ls hL)
  · obtain ⟨x, h1, rfl, rfl⟩ := ldA_inv hs; exact lv_aload hx hb hd (hL.at h1 (fun q => by cases q)) (kk ls hL)
  · obtain ⟨x, rfl, h1, h2, rfl⟩ := stI_inv hs; exact lv_istore hx hb hd hL.2 (by rw [← hL.1]; exact h1) rfl (fun ls' h' => kk ls' (hL.st1 (v := .int x) h1 h2 h'))
  · obtain ⟨x, rfl, h1, h2, rfl⟩ := stJ_inv hs; exact lv_lstore hx hb hd hL.2 (by rw [← hL.1]; exact h1) rfl (fun ls' h' => kk ls' (hL.st2 (v := .long x) h1 h2 h'))
  · obtain ⟨x, rfl, h1, h2, rfl⟩ := stA_inv hs; exact lv_astore hx hb hd hL.2 (by rw [← hL.1]; exact h1) rfl (fun ls' h' => kk ls' (hL.st1 (v := .ref x) h1 h2 h'))
  · cases hs
theorem s3_ok (hx : p.tables.exec = Jvm.exec) (hb : c.code = mB M) (hown : s.vm.findClass (cnm (mC M)) = some m.cls) (hts : ∀ w ∈ tb, w.before args s = true) (hL : LR b base ls (mL M) L) (hd : decode (mB M) pc = .ok (ins, 3)) (hs : s3 M ins L st = some (L', st'))
    (kk : ∀ ls', LR b base ls' (mL M) L' → W p l e R s m args below meth c H locs cells slots Q (F0 m (pc + 3) ls' (st'.map (cv b base)))) : W p l e R s m args below meth c H locs cells slots Q (F0 m pc ls (st.map (cv b base))) := by
  unfold s3 at hs
  split at hs
  · cases hs; exact lv_sipush hx hb hd rfl (kk ls hL)
  · obtain ⟨v, hv, he⟩ := Option.map_eq_some_iff.mp hs
    cases he
    exact lv_ldcw hx hb hown (hts _ (iTab_ok _ (lookup_mem hv))) hd (kk ls hL)
  · obtain ⟨v, hv, he⟩ := Option.map_eq_some_iff.mp hs
    cases he
    exact lv_ldc2 hx hb hown (hts _ (lTab_ok _ (lookup_mem hv))) hd (kk ls hL)
  · rename_i k n
    unfold sInc at hs; split at hs
    · rename_i x hxk
      obtain ⟨h1, h2, rfl, rfl⟩ := st1_inv hs
      have hm : (k, cv b base (.int x)) ∈ lvl b base L := lvl_mem.mpr ⟨.int x, hxk, (fun q => by cases q), rfl⟩
      obtain ⟨j, hj⟩ := List.getElem?_of_mem hm
      exact lv_iinc hx hb hd hL.2 hj rfl (by rw [← hL.1]; exact h1) rfl (fun ls' h' => kk ls' (hL.st1 (v := .int (x + Int32.ofInt n)) h1 h2 h'))
    · cases hs
  · cases hs
theorem jmp_inv {off : Int} {q : Nat × List Value} (hs : jmp pc off st = some q) : (pc : Int) + off = (q.1 : Int) ∧ q.2 = st := by
  unfold jmp at hs
  split at hs
  · rename_i h0; cases hs; exact ⟨(Int.toNat_of_nonneg h0).symm, rfl⟩
  · cases hs
theorem brc_inv {t : Bool} {off : Int} {q : Nat × List Value} (hs : brc t pc off st = some q) : ∃ tgt : Nat, (pc : Int) + off = (tgt : Int) ∧ q = (if t = true then tgt else pc + 3, st) := by
  unfold brc at hs
  split at hs
  · rename_i h0; cases hs; exact ⟨_, (Int.toNat_of_nonneg h0).symm, rfl⟩
  · cases hs
set_option maxHeartbeats 1000000 in
theorem br_ok {q : Nat × List Value} (hx : p.tables.exec = Jvm.exec) (hb : c.code = mB M) (hd : decode (mB M) pc = .ok (ins, 3)) (hs : br ins pc st = some q)
    (kk : W p l e R s m args below meth c H locs cells slots Q (F0 m q.1 ls (q.2.map (cv b base)))) : W p l e R s m args below meth c H locs cells slots Q (F0 m pc ls (st.map (cv b base))) := by
  unfold br at hs
  split at hs
  · obtain ⟨h1, h2⟩ := jmp_inv hs; rw [h2] at kk; exact lv_goto hx hb hd h1 kk
  · rename_i cd off
    split at hs
    · rename_i x r
      obtain ⟨tgt, ht, rfl⟩ := brc_inv hs
      have K1 : icB cd x 0 = true → W p l e R s m args below meth c H locs cells slots Q (F0 m tgt ls (r.map (cv b base))) := fun hc => by
        dsimp only at kk; rw [if_pos hc] at kk; exact kk
      have K2 : ¬ icB cd x 0 = true → W p l e R s m args below meth c H locs cells slots Q (F0 m (pc + 3) ls (r.map (cv b base))) := fun hc => by
        dsimp only at kk; rw [if_neg hc] at kk; exact kk
      cases cd with
      | eq => exact lv_if_eq hx hb hd ht (fun q => K1 (by simpa [icB] using q)) (fun q => K2 (by simpa [icB] using q))
      | ne => exact lv_if_ne hx hb hd ht (fun q => K1 (by simpa [icB] using q)) (fun q => K2 (by simpa [icB] using q))
      | lt => exact lv_if_lt hx hb hd ht (fun q => K1 (by simpa [icB] using q)) (fun q => K2 (by simpa [icB] using q))
      | ge => exact lv_if_ge hx hb hd ht (fun q => K1 (by simpa [icB] using q)) (fun q => K2 (by simpa [icB] using q))
      | gt => exact lv_if_gt hx hb hd ht (fun q => K1 (by simpa [icB] using q)) (fun q => K2 (by simpa [icB] using q))
      | le => exact lv_if_le hx hb hd ht (fun q => K1 (by simpa [icB] using q)) (fun q => K2 (by simpa [icB] using q))
    · cases hs
  · rename_i cd off
    split at hs
    · rename_i y x r
      obtain ⟨tgt, ht, rfl⟩ := brc_inv hs
      have K1 : icB cd x y = true → W p l e R s m args below meth c H locs cells slots Q (F0 m tgt ls (r.map (cv b base))) := fun hc => by
        dsimp only at kk; rw [if_pos hc] at kk; exact kk
      have K2 : ¬ icB cd x y = true → W p l e R s m args below meth c H locs cells slots Q (F0 m (pc + 3) ls (r.map (cv b base))) := fun hc => by
        dsimp only at kk; rw [if_neg hc] at kk; exact kk
      cases cd with
      | eq => exact lv_icmp_eq hx hb hd ht (fun q => K1 (by simpa [icB] using q)) (fun q => K2 (by simpa [icB] using q))
      | ne => exact lv_icmp_ne hx hb hd ht (fun q => K1 (by simpa [icB] using q)) (fun q => K2 (by simpa [icB] using q))
      | lt => exact lv_icmp_lt hx hb hd ht (fun q => K1 (by simpa [icB] using q)) (fun q => K2 (by simpa [icB] using q))
      | ge => exact lv_icmp_ge hx hb hd ht (fun q => K1 (by simpa [icB] using q)) (fun q => K2 (by simpa [icB] using q))
      | gt => exact lv_icmp_gt hx hb hd ht (fun q => K1 (by simpa [icB] using q)) (fun q => K2 (by simpa [icB] using q))
      | le => exact lv_icmp_le hx hb hd ht (fun q => K1 (by simpa [icB] using q)) (fun q => K2 (by simpa [icB] using q))
    · cases hs
  · cases hs
theorem sw_ok {len : Nat} {q : Nat × List Value} (hx : p.tables.exec = Jvm.exec) (hb : c.code = mB M) (hd : decode (mB M) pc = .ok (ins, len)) (hs : sw ins pc st = some q)
    (kk : W p l e R s m args below meth c H locs cells slots Q (F0 m q.1 ls (q.2.map (cv b base)))) : W p l e R s m args below meth c H locs cells slots Q (F0 m pc ls (st.map (cv b base))) := by
  unfold sw at hs
  split at hs
  · split at hs
    · split at hs
      · rename_i ha
        obtain ⟨h1, h2⟩ := jmp_inv hs
        rw [h2] at kk
        exact lv_lookup hx hb hd ha rfl h1 kk
      · cases hs
    · cases hs
  · split at hs
    · split at hs
      · rename_i ha
        obtain ⟨h1, h2⟩ := jmp_inv hs
        rw [h2] at kk
        exact lv_tableOut hx hb hd ha h1 kk
      · rename_i ha
        split at hs
        · rename_i off ho
          obtain ⟨h1, h2⟩ := jmp_inv hs
          rw [h2] at kk
          exact lv_tableIn hx hb hd (fun q => ha (Or.inl q)) (fun q => ha (Or.inr q)) ho h1 kk
        · cases hs
    · cases hs
  · cases hs
end SND
