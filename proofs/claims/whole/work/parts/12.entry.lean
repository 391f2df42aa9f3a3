/-! THE CLAIM OUT OF ONE WALK OF THE LAW'S BODY. Your part is whole_start (and what it stands on); all else here is the same for every law, but numbers. -/
def R_law : String := "CadenzaEndsLaw"
def lw_P (b : Addr) (xs : List Int32) (args : Array Value) (s : State) : Prop := args = #[.ref b] ∧ s.IntsAt b xs ∧ xs.length ≤ 320 ∧ (Jvm.Cond.and given_1 narrow_1).before args s = true
def lw_Q (_ : Array Value) (s : State) (o : Outcome) (t : State) : Prop := o = .returned (some (.int 1)) ∧ Framed s o t [] 600000 7302250
def lw_Z (below : List Frame) (a : Array Value) (s : State) : State → Prop := fun t => ∃ o, t.status = .running ∧ Ended t below o ∧ lw_Q a s o t
/-- the law's own end, with 1 on the stack, nothing written that was there before, its room as the claim has it -/
theorem lw_ret {p : Program} {l : Launch} {e : Env} {s : State} {m : MethodId} {below : List Frame} {meth : Method} {c : Code} {b : Nat} (hx : p.tables.exec = Jvm.exec) (hb : c.code = code) (hr : meth.sig.returnType = ret) (hlocks : meth.locks = false) {pc : Nat} {H : Heap} {ls : Array Slot} (hdg : decode code pc = .ok (.ireturn, 1)) : W p l e room_1 s m #[Value.ref b] below meth c H [] 600000 7302250 (lw_Z below #[Value.ref b] s) (F0 m pc ls [.int 1]) := by
  intro T hT X
  obtain ⟨fs, hret, hrun, hended, hW, hframe⟩ := X.leave (v := some (.int 1)) (hlocks := hlocks) (fun h => by rw [hr] at h; cases h)
  have hmeth' : T.vm.method? m = some meth := X.method'
  refine ⟨T.setFrames fs, ?_, .returned (some (.int 1)), hrun, hended, rfl, ⟨_, rfl⟩, hW, hframe⟩
  jvm_step X.here [X.here.top, hx, hb, hdg, hmeth', hr, ret, narrow_b1]
  (try refine ⟨rfl, ?_⟩); (try refine ⟨rfl, ?_⟩)
  first | (intro acts; rw [hret _ acts rfl rfl rfl]) | rw [hret _ _ rfl rfl rfl]
  exact Steps.refl _
/-- what holds at the law's entry: the machine, the code, the tables' words (any of lw_tbl by 'hts w (by decide +kernel)'), the script of L ints xs at the cell b, what the Statement gives of the start (any of its parts by flat_of_before) -/
def lw_At (p : Program) (s : State) (m : MethodId) (meth : Method) (c : Code) (b L : Nat) (xs : Nat → Int32) : Prop :=
  p.tables.exec = Jvm.exec ∧ c.code = code ∧ meth.sig.returnType = ret ∧ c.maxLocals = 4 ∧ s.vm.findClass R_law = some m.cls ∧ (∀ w ∈ lw_tbl, w.before #[Value.ref b] s = true) ∧ va_X b L xs s s.heap ∧ b < s.heap.size ∧ meth.locks = false ∧ (Jvm.Cond.and given_1 narrow_1).before #[Value.ref b] s = true
/-! ===== the law's body, out of a run of the picture ===== -/
theorem inst_in : ∀ ci, ci < 10 → Cond.instantiable (cnm ci) (nmF ci) ∈ tb := by decide +kernel
theorem nest_in : ∀ q ∈ sNest ++ oNest, Cond.methodLinkNest (cnm q.1.1) q.1.2 (mY q.2) "CadenzaEnds" ∈ lw_tbl := by decide +kernel
theorem over_in : Cond.arrayOver (.object "CadenzaEnds$Part") ∈ lw_tbl ∧ Cond.arrayOver (.object "CadenzaEnds$Agreed") ∈ lw_tbl ∧ Cond.arrayOver (.array .long) ∈ lw_tbl := by decide +kernel
/-- the heap at the law's entry: the script alone -/
def h0 (L : Nat) (xs : Nat → Int32) : AH := (1, 0, fun a => if a = 0 then some (iA L xs) else none)
set_option maxHeartbeats 1000000 in
theorem law_run {p : Program} {e : Env} {s : State} {m : MethodId} {below : List Frame} {meth : Method} {c : Code} (l : Launch) {b L : Nat} {xs : Nat → Int32} (C0 : lw_At p s m meth c b L xs) {hF : AH} (hr : Run M_L_law 0 [.ref 0, .null, .null, .null] [] (h0 L xs) = some (hF, some (.int 1))) (hcap : hF.1 ≤ 600001 ∧ hF.2.1 ≤ 7302250) :
    W p l e room_1 s m #[Value.ref b] below meth c s.heap [] 0 0 (lw_Z below #[Value.ref b] s) (entryFrame m ([Value.ref b] : List Value).toArray 4) := by
  obtain ⟨hx, hb, hrt, hml, hown, hts, hX, hbl, hlocks, hgv⟩ := C0
  obtain ⟨n, hn⟩ := Run_ex hr
  have htb : ∀ w ∈ tb, w.before #[Value.ref b] s = true := fun w hw => hts w (List.mem_filter.mp hw).1
  have hk : ∀ ci : Nat, ∃ q : ClassId × (Nat → Nat), ci < 10 → u_Kn s (cnm ci) (tbF ci) (nmF ci) q.1 q.2 := fun ci => by
    by_cases hc : ci < 10
    · obtain ⟨cC, iS, hK⟩ := u_known (C := cnm ci) (T := tbF ci) (N := nmF ci) htb (fld_in ci hc) (htb _ (inst_in ci hc))
      exact ⟨(cC, iS), fun _ => hK⟩
    · exact ⟨(0, fun _ => 0), fun h => absurd h hc⟩
  have hK : knR (fun ci => (Classical.choose (hk ci)).1, fun ci => (Classical.choose (hk ci)).2) s := ⟨fun ci hc => Classical.choose_spec (hk ci) hc, fun q hq => va_Nw.of rfl (hts _ (nest_in q hq)), va_AO.of (hts _ over_in.1), va_AO.of (hts _ over_in.2.1), hts _ over_in.2.2⟩
  generalize (⟨fun ci => (Classical.choose (hk ci)).1, fun ci => (Classical.choose (hk ci)).2⟩ : va_G) = D at hK
  have C : Ctx M_L_law p s m #[Value.ref b] meth c D := ⟨hx, hb, hrt, hml, hown, htb, hlocks, fun h => absurd h (by decide), hK⟩
  have hL0 := LR.ent (b := b) (base := s.heap.size) (nL := 4) (vs := [.ref 0]) (by decide)
  rw [lg_entry_eq]
  refine snd_all n M_L_law 0 _ [] _ hF (some (.int 1)) hn (hE := h0 L xs) (H0 := s.heap) (b := b) (base := s.heap.size) (R := room_1) C ⟨by decide, by decide⟩ hL0 ⟨hbl, Nat.le_refl _, rfl, fun a c hc => ?_⟩ va_S.rf ⟨Nat.zero_add _, Nat.zero_add _⟩ ⟨?_, ?_⟩ ?_
  · simp only [h0] at hc
    split at hc
    · rename_i ha
      cases hc
      subst ha
      exact ⟨Nat.zero_lt_one, Or.inl ⟨rfl, rfl, xs, rfl, hX⟩⟩
    · cases hc
  · show hF.1 ≤ 1 + 600000; omega
  · show hF.2.1 ≤ 0 + 7302250; omega
  · intro H' locs' cells' slots' pc' ls' hh' hS' hc' hrr
    have hd : decode code pc' = .ok (.ireturn, 1) := by
      unfold retI at hrr
      split at hrr
      · rename_i hd; exact hd
      · simp at hrr
      · simp at hrr
      · cases hrr
    have hc1 : cells' + 1 = hF.1 := hc'.1
    have hc2 : slots' + 0 = hF.2.1 := hc'.2
    refine va_forget hS'.2.2 (W.widen (k := 600000) (n := 7302250) (by omega) (by omega) ?_)
    exact lw_ret hx hb hrt hlocks hd
