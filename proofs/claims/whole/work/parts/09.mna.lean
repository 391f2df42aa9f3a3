/-! ===== new long[n][k] ===== -/
/-- a row of k longs -/
abbrev mRow (cR : ClassId) (K : Nat) : Cell := { cls := cR, slots := Array.replicate K (.long 0), vm := .none }
/-- the array of rows, when i rows are made and set: the array lies at z -/
def mTop (cA : ClassId) (N z i : Nat) : Cell := arrV cA N (fun j => if j < i then .ref (z + 1 + j) else .null)
theorem mTop_zero (cA : ClassId) (N z : Nat) : ({ cls := cA, slots := Array.replicate N .null, vm := .none } : Cell) = mTop cA N z 0 := by
  rw [arrV_new]
  unfold mTop
  congr 1
theorem mTop_set (cA : ClassId) (N z i : Nat) : (mTop cA N z i).setSlot i (.ref (z + 1 + i)) = mTop cA N z (i + 1) := by
  unfold mTop
  rw [arrV_store]
  congr 1
  funext j
  unfold updV
  by_cases h : j = i
  · subst h; rw [if_pos rfl, if_pos (Nat.lt_succ_self _)]
  · rw [if_neg h]
    dsimp only
    by_cases h2 : j < i
    · rw [if_pos h2, if_pos (by omega)]
    · rw [if_neg h2, if_neg (by omega)]
def mSt (u : State) (cA cR : ClassId) (N K : Nat) : Nat → State
  | 0 => u.pushCell (mTop cA N u.heap.size 0)
  | i + 1 => ((mSt u cA cR N K i).pushCell (mRow cR K)).setCell u.heap.size (mTop cA N u.heap.size (i + 1))
theorem mSt_all (u : State) (cA cR : ClassId) (N K : Nat) : ∀ i, (mSt u cA cR N K i).heap.size = u.heap.size + 1 + i ∧ (mSt u cA cR N K i).heap[u.heap.size]? = some (mTop cA N u.heap.size i) ∧ (∀ q, q < u.heap.size → (mSt u cA cR N K i).heap[q]? = u.heap[q]?) ∧ (∀ j, j < i → (mSt u cA cR N K i).heap[u.heap.size + 1 + j]? = some (mRow cR K)) ∧ (mSt u cA cR N K i).vm = u.vm ∧ (mSt u cA cR N K i).slotsUsed = u.slotsUsed + N + i * K
  | 0 => ⟨by simp [mSt], by simp [mSt], fun q hq => State.heap_pushCell_of_lt _ _ hq, fun j hj => absurd hj (Nat.not_lt_zero _), rfl, by simp [mSt, mTop, arrV_size]⟩
  | i + 1 => by
    obtain ⟨a1, a2, a3, a4, a5, a6⟩ := mSt_all u cA cR N K i
    have old : ∀ q, q < u.heap.size + 1 + i → ((mSt u cA cR N K i).pushCell (mRow cR K)).heap[q]? = (mSt u cA cR N K i).heap[q]? := fun q hq => State.heap_pushCell_of_lt _ _ (by rw [a1]; exact hq)
    have oth : ∀ q, q ≠ u.heap.size → (mSt u cA cR N K (i + 1)).heap[q]? = ((mSt u cA cR N K i).pushCell (mRow cR K)).heap[q]? := fun q hq => State.heap_setCell_other (Ne.symm hq)
    refine ⟨?_, ?_, fun q hq => ?_, fun j hj => ?_, ?_, ?_⟩
    · simp [mSt, State.setCell, a1]; omega
    · exact State.heap_setCell_self ((old _ (by omega)).trans a2)
    · rw [oth q (by omega), old q (by omega)]; exact a3 q hq
    · rw [oth _ (by omega)]
      by_cases h : j < i
      · rw [old _ (by omega)]; exact a4 j h
      · rw [show u.heap.size + 1 + j = (mSt u cA cR N K i).heap.size by rw [a1]; omega]
        exact State.heap_pushCell_size _ _
    · simp [mSt, a5]
    · simp [mSt, a6, Nat.succ_mul]; omega
theorem mSt_top (u : State) (f : JFrame) (cA cR : ClassId) (N K : Nat) : ∀ i, mSt (u.setTop f) cA cR N K i = (mSt u cA cR N K i).setTop f
  | 0 => rfl
  | i + 1 => by simp only [mSt, mSt_top u f cA cR N K i, State.heap_setTop, State.pushCell_setTop, State.setCell_setTop]
section SNO
variable {E : CtlPost} {e : Env} {d : Bool} {acts : List Action} {u : State}
/-- an array of default values is made -/
theorem mna_new {cA cR : ClassId} {k : Class} {ty : FieldType} {len : Nat} {v : Value} (hk : u.vm.classes[cA]? = some k) (hkind : k.kind = .array cR ty) (h1 : len ≤ e.platform.arrayLengthLimit) (h2 : len * componentBytes ty ≤ e.platform.maxHeapBytes) (hf : fits ty v = true) (hv : v.isDefault = true) (h3 : u.heap.size < e.platform.maxCells) (h4 : u.slotsUsed + len ≤ e.platform.maxSlots) {Q : Addr → Pre} (hq : Q u.heap.size d acts (u.pushCell { cls := cA, slots := Array.replicate len v, vm := .none })) : wp (Jvm.newArray cA len v) Q E e d acts u := by
  have a1 : allocActs (Array.replicate len v) u.heap.size acts = acts := by
    unfold allocActs
    rw [if_pos]
    rw [Array.all_replicate]
    split
    · rfl
    · exact hv
  have a2 : ¬ len > e.platform.arrayLengthLimit := by omega
  have a3 : ¬ len * componentBytes ty > e.platform.maxHeapBytes := by omega
  simp only [Jvm.newArray, Jvm.arrayFits, wp_bind', W.ask, W.ite, a2, if_false, wp_pure', W.theClass, hk, hkind, a3, W.alloc, W.stop, Option.some.injEq, exists_eq_left', Array.size_replicate, a1]
  rw [if_neg (by omega)]
  refine ⟨h3, h4, fun i w hw => ?_, hq⟩
  rw [Array.getElem?_replicate] at hw
  split at hw
  · cases hw
    simp [State.fitsSlot, State.slotType?, hk, hkind, hf]
  · cases hw
theorem mna_row {cR cc : ClassId} {k : Class} {n : Int32} (hk : u.vm.classes[cR]? = some k) (hkind : k.kind = .array cc .long) (hn : ¬ n < 0) (h1 : n.toNatClampNeg ≤ e.platform.arrayLengthLimit) (h2 : n.toNatClampNeg * 8 ≤ e.platform.maxHeapBytes) (h3 : u.heap.size < e.platform.maxCells) (h4 : u.slotsUsed + n.toNatClampNeg ≤ e.platform.maxSlots) {Q : Addr → Pre} (hq : Q u.heap.size d acts (u.pushCell (mRow cR n.toNatClampNeg))) : wp (multianewarray.make cR [n]) Q E e d acts u := by
  rw [multianewarray.make]
  simp only [wp_bind', W.ite, hn, if_false, wp_pure', W.theClass, hk, hkind, Option.some.injEq, exists_eq_left']
  exact mna_new hk hkind h1 h2 rfl rfl h3 h4 hq
/-- both dimensions -/
theorem mna_two {cA cR cc : ClassId} {kA kR : Class} {n k : Int32} (hA : u.vm.classes[cA]? = some kA) (hkA : kA.kind = .array cR (.array .long)) (hR : u.vm.classes[cR]? = some kR) (hkR : kR.kind = .array cc .long) (hn : ¬ n < 0) (hk : ¬ k < 0) (l1 : n.toNatClampNeg ≤ e.platform.arrayLengthLimit) (l2 : n.toNatClampNeg * 4 ≤ e.platform.maxHeapBytes) (l3 : k.toNatClampNeg ≤ e.platform.arrayLengthLimit) (l4 : k.toNatClampNeg * 8 ≤ e.platform.maxHeapBytes)
    (hc : u.heap.size + (1 + n.toNatClampNeg) ≤ e.platform.maxCells) (hs : u.slotsUsed + (n.toNatClampNeg + n.toNatClampNeg * k.toNatClampNeg) ≤ e.platform.maxSlots) {Q : Addr → Pre} (hq : ∀ d' acts', Q u.heap.size d' acts' (mSt u cA cR n.toNatClampNeg k.toNatClampNeg n.toNatClampNeg)) : wp (multianewarray.make cA [n, k]) Q E e d acts u := by
  have hfi : ([k].find? (· < 0)) = none := by simp [hk]
  rw [multianewarray.make]
  simp only [wp_bind', W.ite, hn, if_false, wp_pure', W.theClass, hA, hkA, Option.some.injEq, exists_eq_left']
  refine mna_new hA hkA l1 l2 rfl rfl (by omega) (by omega) ?_
  rw [mTop_zero cA _ u.heap.size]
  simp only [hfi]
  rw [ite_self, wp_bind', Std.Legacy.Range.forIn_eq_forIn_range']
  have hsz : ([:n.toNatClampNeg] : Std.Legacy.Range).size = n.toNatClampNeg := by simp [Std.Legacy.Range.size]
  rw [hsz]
  generalize hN : n.toNatClampNeg = N at *
  generalize hK : k.toNatClampNeg = K at *
  show wp (forIn (List.range' 0 N 1) PUnit.unit _) _ E e d acts _
  refine wp_forIn_inv (fun todo v => ∃ i, i + todo.length = N ∧ todo = List.range' i todo.length ∧ v = mSt u cA cR N K i) _ _ ⟨0, by simp, by simp, rfl⟩ ?_ ?_
  · rintro x todo v d' acts' Q' ⟨i, hi, hl, rfl⟩ hnext
    rw [List.length_cons] at hi
    rw [List.length_cons, List.range'_succ] at hl
    obtain ⟨rfl, hl⟩ := List.cons.inj hl
    obtain ⟨a1, a2, -, -, a5, a6⟩ := mSt_all u cA cR N K x
    have hm : x * K + K ≤ N * K := by
      have := Nat.mul_le_mul_right K (show x + 1 ≤ N by omega)
      rw [Nat.succ_mul] at this; exact this
    simp only [wp_bind']
    refine mna_row (by rw [a5]; exact hR) hkR hk (by omega) (by omega) (by rw [a1]; omega) (by rw [a6]; omega) ?_
    rw [hK]
    simp only [wp_bind', W.writeLoc, wp_pure']
    have hlt : u.heap.size < (mSt u cA cR N K x).heap.size := by rw [a1]; omega
    refine ⟨mTop cA N u.heap.size x, by rw [State.heap_pushCell_of_lt (h := hlt)]; exact a2, by simp [mTop, arrV], by simp only [mTop, arrV_size]; omega, ?_, hnext _ _ _ ⟨x + 1, by omega, hl, ?_⟩⟩
    · simp [mTop, arrV, State.fitsSlot, State.slotType?, a5, hA, hkA, fits]
    · rw [a1, mTop_set]; rfl
  · rintro v d' acts' ⟨i, hi, -, rfl⟩
    simp only [List.length_nil, Nat.add_zero] at hi
    subst hi
    simp only [wp_pure']
    exact hq _ _
end SNO
section SNN
variable {p : Program} {l : Launch} {e : Env} {R : Room} {s : State} {m : MethodId} {args : Array Value} {below : List Frame} {meth : Method} {c : Code} {H H0 : Heap} {locs : List Loc} {cells slots : Nat} {Q : State → Prop}
variable {b base : Nat} {D : va_G} {M : MI} {pc : Nat} {ls : Array Slot} {L st L' st' : List Value} {h h' : AH} {ins : Instr} {hE : AH}
theorem mna_stand {T : State} (X : Stand p l e R s m args below meth c T locs cells slots) (cA cR : ClassId) (N K : Nat) : ∀ i, ∃ locs', (∀ y ∈ locs', y ∈ locs ∨ y.base = T.heap.size) ∧ Stand p l e R s m args below meth c (mSt T cA cR N K i) locs' (cells + 1 + i) (slots + N + i * K)
  | 0 => ⟨locs, fun y hy => Or.inl hy, by
    have h := X.pushed (mTop cA N T.heap.size 0)
    rw [show (mTop cA N T.heap.size 0).slots.size = N from arrV_size _ _ _] at h
    rw [Nat.zero_mul]
    exact h⟩
  | i + 1 => by
    obtain ⟨locs', hl, Xi⟩ := mna_stand X cA cR N K i
    obtain ⟨a1, a2, -⟩ := mSt_all T cA cR N K i
    have hlt : T.heap.size < (mSt T cA cR N K i).heap.size := by rw [a1]; omega
    have hcell : ((mSt T cA cR N K i).pushCell (mRow cR K)).heap[T.heap.size]? = some (mTop cA N T.heap.size i) := by rw [State.heap_pushCell_of_lt (h := hlt)]; exact a2
    have h := (Xi.pushed (mRow cR K)).stored hcell i (.ref (T.heap.size + 1 + i))
    rw [mTop_set] at h
    refine ⟨locs' ++ [⟨T.heap.size, i⟩], fun y hy => ?_, ?_⟩
    · rcases List.mem_append.mp hy with h1 | h1
      · exact hl y h1
      · rw [List.mem_singleton.mp h1]; exact Or.inr rfl
    · have e1 : (mRow cR K).slots.size = K := by simp
      rw [e1] at h
      rw [Nat.succ_mul, ← Nat.add_assoc, ← Nat.add_assoc]
      exact h
set_option maxHeartbeats 1000000 in
theorem mna_W {own : String} {index : Nat} {n k : Int32} {rest : List Value} (hx : p.tables.exec = Jvm.exec) (hown : s.vm.findClass own = some m.cls) (hlink : (Cond.classLink own index "[[J").before args s = true) (hover : (Cond.arrayOver (.array .long)).before args s = true) (harr : (Cond.arrayClass .long).before args s = true) (hd : decode c.code pc = .ok (.multianewarray index 2, 4)) (hn : ¬ n < 0) (hk : ¬ k < 0) (n1 : n.toNatClampNeg ≤ 1000) (k1 : k.toNatClampNeg ≤ 1000) (hc : cells + (1 + n.toNatClampNeg) ≤ R.cells) (hs : slots + (n.toNatClampNeg + n.toNatClampNeg * k.toNatClampNeg) ≤ R.slots)
    (kk : ∀ (H' : Heap) (cA cR : ClassId) (locs' : List Loc), H'.size = H.size + 1 + n.toNatClampNeg → (∀ q, q < H.size → H'[q]? = H[q]?) → H'[H.size]? = some (mTop cA n.toNatClampNeg H.size n.toNatClampNeg) → (∀ j, j < n.toNatClampNeg → H'[H.size + 1 + j]? = some (mRow cR k.toNatClampNeg)) → ArrOfT s cA (.array .long) → ArrOfT s cR .long → s.vm.findClass ("[" ++ (FieldType.array .long).toString) = some cA → s.vm.findClass ("[" ++ FieldType.long.toString) = some cR → (∀ y ∈ locs', y ∈ locs ∨ y.base = H.size) →
      W p l e R s m args below meth c H' locs' (cells + 1 + n.toNatClampNeg) (slots + n.toNatClampNeg + n.toNatClampNeg * k.toNatClampNeg) Q (F0 m (pc + 4) ls (.ref H.size :: rest))) : W p l e R s m args below meth c H locs cells slots Q (F0 m pc ls (.int k :: .int n :: rest)) := by
  intro T hT X
  subst hT
  have hpl : e.platform.magicAccessors = ({} : Platform).magicAccessors := by rw [X.admits.platform]
  obtain ⟨cR, cA, kA, f1, -, hA, hkA, f2⟩ := arrayOverA_spec hover
  obtain ⟨cR', kR, cc, f3, hR, hkR⟩ := Cond.arrayClass_spec harr
  cases Option.some.inj (f3.symm.trans f1)
  obtain ⟨c0, f4, hcl⟩ := Cond.classLink_spec hown hlink e.platform hpl
  cases Option.some.inj (f2.symm.trans f4)
  obtain ⟨g1, hw, hrdy⟩ := State.classEntry (e := e) X.warmed hcl
  generalize T.vm.noted m.cls index (.cls cA) = vm1 at g1 hw hrdy
  obtain ⟨kA1, hA1, eA⟩ := hw.alike.2.2 _ _ hA
  obtain ⟨kR1, hR1, eR⟩ := hw.alike.2.2 _ _ hR
  have X1 := X.noted hw
  obtain ⟨r1, r2⟩ := X.roomAbove hc hs
  obtain ⟨locs', hl, XF⟩ := mna_stand X1 cA cR n.toNatClampNeg k.toNatClampNeg n.toNatClampNeg
  obtain ⟨a1, a2, a3, a4, a5, a6⟩ := mSt_all (T.setVm vm1) cA cR n.toNatClampNeg k.toNatClampNeg n.toNatClampNeg
  obtain ⟨t, hst, hQ⟩ := kk _ cA cR locs' a1 a3 a2 a4 (fun N z => ⟨(fun q hq => by cases hq), kA, hA, cR, hkA⟩) (fun N z => ⟨(fun q hq => by cases hq), kR, hR, cc, hkR⟩) f2 f1 hl (mSt (T.setVm vm1) cA cR n.toNatClampNeg k.toNatClampNeg n.toNatClampNeg) rfl XF
  refine ⟨t, ?_, hQ⟩
  have b1 : e.platform.arrayLengthLimit ≥ 1000 := by rw [Launch.admits_arrayLengthLimit X.admits]; decide
  have b2 : e.platform.maxHeapBytes ≥ 100000 := by rw [Launch.admits_maxHeapBytes X.admits]; decide
  jvm_step X.here [hx, hd]
  simp only [multianewarray.sem, wp_bind', W.resolveClassAt_links (State.method?_setTop (F0 m pc ls (.int k :: .int n :: rest)) X.here.top) g1]
  rw [W.popN, if_neg (by decide)]
  refine ⟨F0 m pc ls (.int k :: .int n :: rest), State.topJava?_setTop' (s := T.setVm vm1) _ X.here.top, [.int n, .int k], rest, rfl, rfl, ?_⟩
  simp only [List.mapM_cons, List.mapM_nil, wp_bind', wp_pure']
  refine mna_two (kA := kA1) (kR := kR1) (cR := cR) (cc := cc) hA1 (by rw [eA]; exact hkA) hR1 (by rw [eR]; exact hkR) hn hk (by omega) (by omega) (by omega) (by omega) (by show T.heap.size + _ ≤ _; omega) (by show T.slotsUsed + _ ≤ _; omega) (fun d' acts' => ?_)
  have eS : ((T.setTop (F0 m pc ls (.int k :: .int n :: rest))).setVm vm1).setTop (F0 m pc ls rest) = (T.setVm vm1).setTop (F0 m pc ls rest) := by
    show ((T.setVm vm1).setTop _).setTop _ = _
    rw [State.setTop_setTop]
  rw [eS, mSt_top]
  simp only [wp_bind', W.mark, W.pushRef, State.topJava?_setTop' _ XF.here.top, Option.some.injEq, exists_eq_left', State.setTop_setTop, State.heap_setTop]
  intro acts
  simp [jvm, XF.here.top]
  exact hst
theorem hp4_ok (hx : p.tables.exec = Jvm.exec) (hb : c.code = mB M) (hown : s.vm.findClass (cnm (mC M)) = some m.cls) (hts : ∀ w ∈ tb, w.before args s = true) (hK : knR D s) (hh : heapR D b base s H h) (hS : va_S (fun q => base ≤ q) H0 H locs) (hd : decode (mB M) pc = .ok (ins, 4)) (hs : hp4 M ins st h = some (st', h'))
    (hE1 : cells + hE.1 = h.1 ∧ slots + hE.2.1 = h.2.1) (hcap : h'.1 ≤ hE.1 + R.cells ∧ h'.2.1 ≤ hE.2.1 + R.slots)
    (kk : ∀ H' locs' cells' slots', heapR D b base s H' h' → va_S (fun q => base ≤ q) H0 H' locs' → cells' + hE.1 = h'.1 ∧ slots' + hE.2.1 = h'.2.1 → W p l e R s m args below meth c H' locs' cells' slots' Q (F0 m (pc + 4) ls (st'.map (cv b base)))) : W p l e R s m args below meth c H locs cells slots Q (F0 m pc ls (st.map (cv b base))) := by
  unfold hp4 at hs
  split at hs
  · rename_i i d
    split at hs
    · rename_i k n r
      split at hs
      · rename_i hq
        obtain ⟨rfl, q1, hn, hk, n1, k1⟩ := hq
        cases hs
        have hm : mK M i ∈ jTab := List.contains_iff_mem.mp q1
        simp only [hmul] at hcap
        have hz := hh.2.2.1
        have h1 := hh.2.1
        have hge : base ≤ H.size := by
          rw [hz]
          exact al_ge (by omega)
        refine mna_W hx hown (hts _ (jTab_ok _ hm)) hK.2.2.2.2 (hts _ arr_in.2.1) (by rw [hb]; exact hd) hn hk n1 k1 (by omega) (by omega) fun H' cA cR locs' z1 o1 e1 e2 tA tR fA fR hl => ?_
        rw [hz] at z1 o1 e1 e2
        have K := kk H' locs' (cells + 1 + n.toNatClampNeg) (slots + n.toNatClampNeg + n.toNatClampNeg * k.toNatClampNeg) ⟨hh.1, by show 1 ≤ h.1 + _; omega, ?_, fun a y hy => ?_⟩ ⟨by have := hS.1; omega, fun x x1 x2 => ?_, fun y hy => ?_⟩ (by simp only [hmul]; omega)
        · rw [hz]; exact K
        · show _ = al b base (h.1 + (1 + n.toNatClampNeg))
          rw [z1, al_add h1]; omega
        · simp only [hmul] at hy ⊢
          by_cases c1 : a = h.1
          · rw [if_pos c1] at hy
            cases hy
            subst c1
            refine ⟨by omega, Or.inr ⟨by omega, cA, ?_, tA, fA⟩⟩
            rw [e1]
            unfold mTop
            show _ = some (arrV cA n.toNatClampNeg (fun j => va_rf ((if j < n.toNatClampNeg then some (h.1 + 1 + j) else none).map (al b base))))
            refine congrArg (fun z => some (arrV cA n.toNatClampNeg z)) (funext fun j => ?_)
            by_cases c3 : j < n.toNatClampNeg
            · rw [if_pos c3, if_pos c3, Nat.add_assoc, Nat.add_assoc, ← al_add h1]; rfl
            · rw [if_neg c3, if_neg c3]; rfl
          · rw [if_neg c1] at hy
            by_cases c2 : h.1 < a ∧ a < h.1 + 1 + n.toNatClampNeg
            · rw [if_pos c2] at hy
              cases hy
              refine ⟨by omega, Or.inr ⟨by omega, cR, ?_, tR, fR⟩⟩
              have w := e2 (a - h.1 - 1) (by omega)
              have ea : a = h.1 + (1 + (a - h.1 - 1)) := by omega
              rw [ea, al_add h1, ← Nat.add_assoc, w]
              unfold mRow
              rw [arrV_new]
              rfl
            · rw [if_neg c2] at hy
              have w := hh.2.2.2 a y hy
              exact ⟨by omega, w.2.kept (o1 _ (al_lt hh.1 h1 w.1))⟩
        · rw [o1 x (by have := hS.1; omega)]; exact hS.2.1 x x1 x2
        · rcases hl y hy with w | w
          · exact hS.2.2 y w
          · rw [w]; exact hge
      · cases hs
    · cases hs
  · cases hs
end SNN
