/-! ===== new long[n][k] ===== -/
section SNN
variable {p : Program} {l : Launch} {e : Env} {R : Room} {s : State} {m : MethodId} {args : Array Value} {below : List Frame} {meth : Method} {c : Code} {H H0 : Heap} {locs : List Loc} {cells slots : Nat} {Q : State → Prop}
variable {b base : Nat} {D : va_G} {M : MI} {pc : Nat} {ls : Array Slot} {L st L' st' : List Value} {h h' : AH} {ins : Instr} {hE : AH}
theorem hp4_ok (hx : p.tables.exec = Jvm.exec) (hb : c.code = mB M) (hown : s.vm.findClass (cnm (mC M)) = some m.cls) (hts : ∀ w ∈ tb, w.before args s = true) (hK : knR D s) (hh : heapR D b base s H h) (hS : va_S (fun q => base ≤ q) H0 H locs) (hd : decode (mB M) pc = .ok (ins, 4)) (hs : hp4 M ins st h = some (st', h'))
    (hE1 : cells + hE.1 = h.1 ∧ slots + hE.2.1 = h.2.1) (hcap : h'.1 ≤ hE.1 + R.cells ∧ h'.2.1 ≤ hE.2.1 + R.slots)
    (kk : ∀ H' locs' cells' slots', heapR D b base s H' h' → va_S (fun q => base ≤ q) H0 H' locs' → cells' + hE.1 = h'.1 ∧ slots' + hE.2.1 = h'.2.1 → W p l e R s m args below meth c H' locs' cells' slots' Q (F0 m (pc + 4) ls (st'.map (cv b base)))) : W p l e R s m args below meth c H locs cells slots Q (F0 m pc ls (st.map (cv b base))) := by
  sorry
end SNN
