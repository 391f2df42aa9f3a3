/-! ===== a run of the picture is a run of the machine ===== -/
theorem hp1_sz {ins : Instr} {st st' : List Value} {h h' : AH} (hs : hp1 ins st h = some (st', h')) : h'.1 = h.1 ∧ h'.2.1 = h.2.1 := by
  unfold hp1 at hs
  repeat' split at hs
  all_goals first | (cases hs; done) | skip
  all_goals (obtain ⟨v, hv, he⟩ := Option.map_eq_some_iff.mp hs; cases he)
  all_goals first | exact ⟨rfl, rfl⟩ | (obtain ⟨n, f, hc, hin, ha, rfl⟩ := pI_inv hv; exact ⟨rfl, rfl⟩) | (obtain ⟨n, f, hc, hin, ha, rfl⟩ := pJ_inv hv; exact ⟨rfl, rfl⟩) | (obtain ⟨t, n, f, hc, hr, hin, ha, rfl⟩ := pR_inv hv; exact ⟨rfl, rfl⟩)
theorem hp2_sz {ins : Instr} {st st' : List Value} {h h' : AH} (hs : hp2 ins st h = some (st', h')) : h.1 ≤ h'.1 ∧ h.2.1 ≤ h'.2.1 := by
  unfold hp2 at hs
  repeat' split at hs
  all_goals first | (cases hs; done) | skip
  all_goals (cases hs; exact ⟨Nat.le_add_right _ _, Nat.le_add_right _ _⟩)
theorem hp3_sz {M : MI} {ins : Instr} {st st' : List Value} {h h' : AH} (hs : hp3 M ins st h = some (st', h')) : h.1 ≤ h'.1 ∧ h.2.1 ≤ h'.2.1 := by
  unfold hp3 at hs
  repeat' split at hs
  all_goals first | (cases hs; done) | (cases hs; exact ⟨Nat.le_add_right _ _, Nat.le_add_right _ _⟩) | (cases hs; exact ⟨Nat.le_refl _, Nat.le_refl _⟩) | skip
  all_goals (obtain ⟨v, hv, he⟩ := Option.map_eq_some_iff.mp hs; cases he)
  all_goals first | exact ⟨Nat.le_refl _, Nat.le_refl _⟩ | (obtain ⟨fs, -, -, rfl⟩ := pF_inv hv; exact ⟨Nat.le_refl _, Nat.le_refl _⟩)
theorem hp4_sz {M : MI} {ins : Instr} {st st' : List Value} {h h' : AH} (hs : hp4 M ins st h = some (st', h')) : h.1 ≤ h'.1 ∧ h.2.1 ≤ h'.2.1 := by
  unfold hp4 at hs
  repeat' split at hs
  all_goals first | (cases hs; done) | (cases hs; exact ⟨Nat.le_add_right _ _, Nat.le_add_right _ _⟩)
theorem stepI_sz {M : MI} {pc : Nat} {L st : List Value} {h : AH} {q : ST} (hs : stepI M pc L st h = some q) : h.1 ≤ q.2.2.2.1 ∧ h.2.1 ≤ q.2.2.2.2.1 := by
  unfold stepI at hs
  split at hs
  · split at hs
    · cases hs; exact ⟨Nat.le_refl _, Nat.le_refl _⟩
    · obtain ⟨v, hv, he⟩ := Option.map_eq_some_iff.mp hs
      cases he
      obtain ⟨h1, h2⟩ := hp1_sz (st' := v.1) (h' := v.2) hv
      dsimp only; omega
  · split at hs
    · cases hs; exact ⟨Nat.le_refl _, Nat.le_refl _⟩
    · obtain ⟨v, hv, he⟩ := Option.map_eq_some_iff.mp hs
      cases he
      exact hp2_sz (st' := v.1) (h' := v.2) hv
  · split at hs
    · cases hs; exact ⟨Nat.le_refl _, Nat.le_refl _⟩
    · split at hs
      · cases hs; exact ⟨Nat.le_refl _, Nat.le_refl _⟩
      · obtain ⟨v, hv, he⟩ := Option.map_eq_some_iff.mp hs
        cases he
        exact hp3_sz (st' := v.1) (h' := v.2) hv
  · obtain ⟨v, hv, he⟩ := Option.map_eq_some_iff.mp hs
    cases he
    exact hp4_sz (st' := v.1) (h' := v.2) hv
  · obtain ⟨v, hv, he⟩ := Option.map_eq_some_iff.mp hs
    cases he
    exact ⟨Nat.le_refl _, Nat.le_refl _⟩
  · cases hs
theorem exec_sz : ∀ (n : Nat) (M : MI) (pc : Nat) (L st : List Value) (h : AH) (r : AH × Option Value), exec n M pc L st h = some r → h.1 ≤ r.1.1 ∧ h.2.1 ≤ r.1.2.1
  | 0, _, _, _, _, _, _, hr => by cases hr
  | n + 1, M, pc, L, st, h, r, hr => by
    change turn (exec n) M pc L st h = some r at hr
    unfold turn at hr
    split at hr
    · cases hr; exact ⟨Nat.le_refl _, Nat.le_refl _⟩
    · split at hr
      · split at hr
        · split at hr
          · rename_i z hz
            obtain ⟨h1, h2⟩ := exec_sz n _ _ _ _ _ _ hz
            obtain ⟨h3, h4⟩ := exec_sz n _ _ _ _ _ _ hr
            omega
          · cases hr
        · cases hr
      · split at hr
        · rename_i q hq
          obtain ⟨h1, h2⟩ := stepI_sz hq
          obtain ⟨h3, h4⟩ := exec_sz n _ _ _ _ _ _ hr
          omega
        · cases hr
/-- what holds all the while in a method's body -/
def Ctx (M : MI) (p : Program) (s : State) (m : MethodId) (args : Array Value) (meth : Method) (c : Code) (D : va_G) : Prop :=
  p.tables.exec = Jvm.exec ∧ c.code = mB M ∧ meth.sig.returnType = mR M ∧ c.maxLocals = mL M ∧ s.vm.findClass (cnm (mC M)) = some m.cls ∧ (∀ w ∈ tb, w.before args s = true) ∧ meth.locks = false ∧ ((mY M).name = "<init>" → meth.name = "<init>") ∧ knR D s
section SNX
variable {p : Program} {l : Launch} {e : Env} {R : Room} {s : State} {m : MethodId} {args : Array Value} {below : List Frame} {meth : Method} {c : Code} {H H0 : Heap} {locs : List Loc} {cells slots : Nat} {Q : State → Prop}
variable {b base : Nat} {D : va_G} {M : MI} {pc : Nat} {ls : Array Slot} {L st L' st' : List Value} {h h' : AH} {ins : Instr} {hE : AH}
theorem stepI_ok {q : ST} (C : Ctx M p s m args meth c D) (hR : mF M ≤ R.frames ∧ mW M ≤ R.locals) (hL : LR b base ls (mL M) L) (hh : heapR D b base s H h) (hS : va_S (fun q => base ≤ q) H0 H locs) (hE1 : cells + hE.1 = h.1 ∧ slots + hE.2.1 = h.2.1) (hs : stepI M pc L st h = some q) (hcap : q.2.2.2.1 ≤ hE.1 + R.cells ∧ q.2.2.2.2.1 ≤ hE.2.1 + R.slots)
    (kk : ∀ H' locs' ls' cells' slots', LR b base ls' (mL M) q.2.1 → heapR D b base s H' q.2.2.2 → va_S (fun q => base ≤ q) H0 H' locs' → cells' + hE.1 = q.2.2.2.1 ∧ slots' + hE.2.1 = q.2.2.2.2.1 → W p l e R s m args below meth c H' locs' cells' slots' Q (F0 m q.1 ls' (q.2.2.1.map (cv b base)))) : W p l e R s m args below meth c H locs cells slots Q (F0 m pc ls (st.map (cv b base))) := by
  obtain ⟨hx, hb, hr, hml, hown, hts, hlk, hmn, hK⟩ := C
  unfold stepI at hs
  split at hs
  · rename_i ins hd
    split at hs
    · rename_i v hv
      cases hs
      exact s1_ok hx hb hL hd hv (fun ls' hL' => kk H locs ls' cells slots hL' hh hS hE1)
    · obtain ⟨v, hv, he⟩ := Option.map_eq_some_iff.mp hs
      cases he
      obtain ⟨h1, h2⟩ := hp1_sz (st' := v.1) (h' := v.2) hv
      exact hp1_ok hx hb hh hK hS hd (st' := v.1) (h' := v.2) hv (fun H' locs' hh' hS' => kk H' locs' ls cells slots hL hh' hS' (by dsimp only; omega))
  · rename_i ins hd
    split at hs
    · rename_i v hv
      cases hs
      exact s2_ok hx hb hown hts hL hd hv (fun ls' hL' => kk H locs ls' cells slots hL' hh hS hE1)
    · obtain ⟨v, hv, he⟩ := Option.map_eq_some_iff.mp hs
      cases he
      exact hp2_ok (hE := hE) hx hb hts hh hS hd (st' := v.1) (h' := v.2) hv hE1 hcap (fun H' cells' slots' hh' hS' hc' => kk H' locs ls cells' slots' hL hh' hS' hc')
  · rename_i ins hd
    split at hs
    · rename_i v hv
      cases hs
      exact s3_ok hx hb hown hts hL hd hv (fun ls' hL' => kk H locs ls' cells slots hL' hh hS hE1)
    · split at hs
      · rename_i v hv
        cases hs
        exact br_ok hx hb hd hv (kk H locs ls cells slots hL hh hS hE1)
      · obtain ⟨v, hv, he⟩ := Option.map_eq_some_iff.mp hs
        cases he
        exact hp3_ok (hE := hE) hx hb hown hts hmn hK hh hS hd (st' := v.1) (h' := v.2) hv hml hL.2.1 hR hE1 hcap (fun H' locs' cells' slots' hh' hS' hc' => kk H' locs' ls cells' slots' hL hh' hS' hc')
  · rename_i ins hd
    obtain ⟨v, hv, he⟩ := Option.map_eq_some_iff.mp hs
    cases he
    exact hp4_ok (hE := hE) hx hb hown hts hK hh hS hd (st' := v.1) (h' := v.2) hv hE1 hcap (fun H' locs' cells' slots' hh' hS' hc' => kk H' locs' ls cells' slots' hL hh' hS' hc')
  · rename_i hd
    obtain ⟨v, hv, he⟩ := Option.map_eq_some_iff.mp hs
    cases he
    exact sw_ok hx hb hd hv (kk H locs ls cells slots hL hh hS hE1)
  · cases hs
theorem retI_st {r : Option Value} (hr : retI M pc st = some r) : st = r.toList := by
  unfold retI at hr
  repeat' split at hr
  all_goals first | (cases hr; done) | (cases hr; rfl)
theorem W_call {mc ms : Nat} {st0 rest : List Value} {Qa : State → Outcome → State → Prop} {free : Addr → Prop} (hr : va_Run p l e R s m args below meth c H locs cells slots mc ms (F0 m pc ls st0) rest Qa free)
    (kk : ∀ (v : Option Value) (st₀ t : State) (H1 : Heap) (L1 : List Loc), st₀.heap = H → t.heap = H1 → s.vm.Alike t.vm → (∀ q ∈ L1, free q.base) → Qa st₀ (.returned v) t → W p l e R s m args below meth c H1 (locs ++ L1) (cells + mc) (slots + ms) Q (F0 m (pc + 3) ls (v.toList ++ rest))) : W p l e R s m args below meth c H locs cells slots Q (F0 m pc ls st0) := by
  intro T hT X
  obtain ⟨v, st₀, t, T', L, h0, X', hL, e1, e2, hq, go⟩ := hr T hT X
  obtain ⟨t2, a1, b1⟩ := kk v st₀ t T'.heap L h0 e1.symm (by rw [← e2]; exact X'.warmed.alike) hL hq T' rfl X'
  exact ⟨t2, go t2 a1, b1⟩
end SNX
def PcM (D : va_G) (b base : Nat) (h : AH) (av : List Value) : Array Value → State → Prop := va_Pc (av.map (cv b base)) (fun U => heapR D b base U U.heap h ∧ knR D U)
def QcM (D : va_G) (b base : Nat) (hF : AH) (r : Option Value) : Array Value → State → Outcome → State → Prop := fun _ st oc t => oc = .returned (r.map (cv b base)) ∧ heapR D b base t t.heap hF ∧ va_F (fun q => base ≤ q) st t
def wsM (M : MI) : List Cond := Cond.code (mY M) (mB M) (mL M) (mR M) :: tb
def rmM (M : MI) (h hF : AH) : Room := { frames := mF M, cells := hF.1 - h.1, slots := hF.2.1 - h.2.1, locals := mW M }
theorem aoA.moved {u U : State} (hvm : u.vm.Alike U.vm) (h : aoA u) : aoA U := by
  obtain ⟨comp, c, k, h1, h2, h3, h4, h5⟩ := arrayOverA_spec h
  obtain ⟨k', hk', he⟩ := hvm.2.2 _ _ h3
  have hi : (U.vm.classes.findIdx? fun (x : Class) => match x.kind with | .array component _ => component == comp | _ => false) = some c := by
    have e1 := va_idx_bare U.vm comp
    have e2 := va_idx_bare u.vm comp
    first | rw [hvm.bare_eq] at e1 | rw [← hvm.bare_eq] at e1
    exact e1.symm.trans (e2.trans h2)
  have hk : k'.kind = .array comp (.array .long) := by rw [he]; exact h4
  have f1 : U.vm.findClass (FieldType.array .long).toString = some comp := by rw [hvm.findClass]; exact h1
  have f2 : U.vm.findClass ("[" ++ (FieldType.array .long).toString) = some c := by rw [hvm.findClass]; exact h5
  unfold aoA Cond.before Cond.holds
  simp only [Cond.value]
  rw [f1, Option.bind_some]
  refine (congrArg (fun o : Option Nat => (o.bind (fun c => (U.vm.classes[c]?).map fun (k : Class) => match k.kind with | .array _ ty => decide (ty = FieldType.array .long) && decide (U.vm.findClass ("[" ++ (FieldType.array .long).toString) = some c) | _ => false) == some true)) hi).trans ?_
  simp [hk', hk, f2]
theorem knR.moved {D : va_G} {s U : State} (hW : s.WarmedH U.vm) (h : knR D s) : knR D U := by
  refine ⟨fun ci hc => u_Kn_moved hW.alike (h.1 ci hc), fun q hq => va_Nw.warmM hW (h.2.1 q hq), h.2.2.1.moved hW.alike, h.2.2.2.1.moved hW.alike, h.2.2.2.2.moved hW.alike⟩
theorem knR.same {D : va_G} {s U : State} (hv : s.vm = U.vm) (h : knR D s) : knR D U := by
  have ha : s.vm.Alike U.vm := hv ▸ Vm.Alike.refl s.vm
  refine ⟨fun ci hc => u_Kn_moved ha (h.1 ci hc), fun q hq => va_Nw.same rfl hv (h.2.1 q hq), h.2.2.1.moved ha, h.2.2.2.1.moved ha, h.2.2.2.2.moved ha⟩
theorem PcM.blind {D : va_G} {b base : Nat} {h : AH} {av : List Value} : FrameBlind (PcM D b base h av) := fun a U g mk q =>
  ⟨q.1, heapR.moved (u := U) (U := U.calling g mk a) (Vm.Alike.refl U.vm) q.2.1, knR.same (s := U) (U := U.calling g mk a) rfl q.2.2⟩
theorem good_tb {M : MI} (hM : MOk M) : GoodIn tb (wsM M) := fun w hw => by
  have hw' : w ∈ tb := by
    rcases List.mem_cons.mp hw with rfl | h
    · exact hM.1
    · exact h
  exact ⟨hw', good_of_word (List.mem_filter.mp hw').2⟩
/-- the claim for runs of n turns -/
def Snd (n : Nat) : Prop := ∀ (M : MI) (pc : Nat) (L st : List Value) (h hF : AH) (r : Option Value), exec n M pc L st h = some (hF, r) →
  ∀ {p : Program} {l : Launch} {e : Env} {R : Room} {s : State} {m : MethodId} {args : Array Value} {below : List Frame} {meth : Method} {c : Code} {H H0 : Heap} {locs : List Loc} {cells slots : Nat} {Q : State → Prop} {b base : Nat} {D : va_G} {ls : Array Slot} {hE : AH},
  Ctx M p s m args meth c D → (mF M ≤ R.frames ∧ mW M ≤ R.locals) → LR b base ls (mL M) L → heapR D b base s H h → va_S (fun q => base ≤ q) H0 H locs → (cells + hE.1 = h.1 ∧ slots + hE.2.1 = h.2.1) → (hF.1 ≤ hE.1 + R.cells ∧ hF.2.1 ≤ hE.2.1 + R.slots) →
  (∀ H' locs' cells' slots' pc' ls', heapR D b base s H' hF → va_S (fun q => base ≤ q) H0 H' locs' → (cells' + hE.1 = hF.1 ∧ slots' + hE.2.1 = hF.2.1) → retI M pc' r.toList = some r → W p l e R s m args below meth c H' locs' cells' slots' Q (F0 m pc' ls' (r.toList.map (cv b base)))) →
  W p l e R s m args below meth c H locs cells slots Q (F0 m pc ls (st.map (cv b base)))
set_option maxHeartbeats 1000000 in
theorem met_of {n : Nat} (hn : Snd n) {M : MI} {av : List Value} {h hF : AH} {r : Option Value} (hM : MOk M) (hx : exec n M 0 (ent (mL M) av) [] h = some (hF, r)) (hl : (flat av).length ≤ mL M) (l : Launch) (D : va_G) (b base : Nat) :
    Met l (mY M) (wsM M) (rmM M h hF) (PcM D b base h av) (QcM D b base hF r) (hF.1 - h.1) (hF.2.1 - h.2.1) (fun q => base ≤ q) := by
  refine va_MetF (cc := mB M) (maxL := mL M) (ret := mR M) hM.2.1 rfl ?_
  intro p e s m args below meth c s₁ B hml hv
  obtain ⟨rfl, hh, hK⟩ := hv
  have hts := atoms_spec (ws := wsM M) B.pre
  have hown : s.vm.findClass (cnm (mC M)) = some m.cls := hM.2.2.1 ▸ findClass_of_methodNamed B.named
  have C : Ctx M p s m ((av.map (cv b base)).toArray) meth c D := ⟨B.exec, B.bytes, B.returns, hml, hown, fun w hw => hts w (List.mem_cons_of_mem _ hw), B.notSynchronized, (fun hi => (name_of_methodNamed B.named B.method).1.trans hi), hK⟩
  have hsz := exec_sz n _ _ _ _ _ _ hx
  rw [lg_entry_eq]
  refine hn M 0 _ [] h hF r hx (hE := h) C ⟨Nat.le_refl _, Nat.le_refl _⟩ (LR.ent hl) hh va_S.rf ⟨Nat.zero_add _, Nat.zero_add _⟩ ⟨?_, ?_⟩ ?_
  · show hF.1 ≤ h.1 + (hF.1 - h.1); omega
  · show hF.2.1 ≤ h.2.1 + (hF.2.1 - h.2.1); omega
  · intro H' locs' cells' slots' pc' ls' hh' hS' hc' hr
    have e1 : cells' = hF.1 - h.1 := by omega
    have e2 : slots' = hF.2.1 - h.2.1 := by omega
    subst e1; subst e2
    have hq : ∀ t : State, t.heap = H' → s.WarmedH t.vm → QcM D b base hF r ((av.map (cv b base)).toArray) s (.returned (r.map (cv b base))) t := fun t ht hW => ⟨rfl, by rw [ht]; exact hh'.moved hW.alike, hS'.F ht⟩
    have hlocks := B.notSynchronized
    unfold retI at hr
    split at hr
    · rename_i hd
      split at hr
      · rename_i v ty hst hty
        split at hr
        · rename_i hnr
          cases hr
          exact W.zret (v := v) (ty := ty) B.exec B.bytes (B.returns.trans hty) hnr hq hS'.2.2 hd
        · cases hr
      · cases hr
    · rename_i hd
      split at hr
      · split at hr
        · rename_i v hst hty
          cases hr
          exact W.lret B.exec B.bytes (B.returns.trans hty) hq hS'.2.2 hd
        · cases hr
      · cases hr
    · rename_i hd
      split at hr
      · split at hr
        · rename_i hst hty
          cases hr
          exact W.vret B.exec B.bytes (B.returns.trans hty) hq hS'.2.2 hd
        · cases hr
      · cases hr
    · cases hr
