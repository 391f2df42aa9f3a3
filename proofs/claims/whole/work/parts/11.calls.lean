/-! ===== calls; the claim for all runs ===== -/
theorem st_split {st : List Value} {n : Nat} {v : Value} (h : st[n]? = some v) : st = (st.take n) ++ v :: st.drop (n + 1) ∧ (st.take (n + 1)).reverse = v :: (st.take n).reverse ∧ (st.take n).length = n := by
  have hlt : n < st.length := (List.getElem?_eq_some_iff.mp h).1
  have hv : st[n] = v := (List.getElem?_eq_some_iff.mp h).2
  refine ⟨?_, ?_, by rw [List.length_take]; omega⟩
  · rw [← hv, List.getElem_cons_drop, List.take_append_drop]
  · rw [List.take_succ, h]
    simp
section SNC
variable {p : Program} {l : Launch} {e : Env} {R : Room} {s : State} {m : MethodId} {args : Array Value} {below : List Frame} {meth : Method} {c : Code} {H H0 : Heap} {locs : List Loc} {cells slots : Nat} {Q : State → Prop}
variable {b base : Nat} {D : va_G} {M N : MI} {pc : Nat} {ls : Array Slot} {L st L' st' : List Value} {h h' : AH} {ins : Instr} {hE : AH} {i : Nat} {hF : AH} {r : Option Value}
theorem fit_inv {k : Nat} (hf : cFit M N k st = true) : mF N + 1 ≤ mF M ∧ 19 + mL N + mW N ≤ mW M ∧ k ≤ st.length ∧ (st.drop k).length ≤ 4 := of_decide_eq_true hf
theorem room8 {rest : List Value} (h : rest.length ≤ 4) : ((rest.map (cv b base)).map fun v => v.category).sum ≤ 8 := by
  have h1 := cat_sum (rest.map (cv b base))
  rw [List.length_map] at h1
  omega
/-- what a callee may ask holds -/
theorem pre_ok {av : List Value} (hh : heapR D b base s H h) (hK : knR D s) : PreS s H (PcM D b base h av) (av.map (cv b base)) := ⟨PcM.blind, fun U hU hW => ⟨rfl, by rw [hU]; exact hh.moved hW.alike, hK.moved hW⟩⟩
theorem callV_ok {n : Nat} (hn : Snd n) (C : Ctx M p s m args meth c D) (hR : mF M ≤ R.frames ∧ mW M ≤ R.locals) (hL : LR b base ls (mL M) L) (hh : heapR D b base s H h) (hN : (mK M i, N) ∈ vTab) (hfit : cFit M N (mP N + 1) st = true) (hrec : refO h (mC N) st[mP N]? = true) (hd : decode (mB M) pc = .ok (.invokevirtual i, 3)) (hl : (flat (st.take (mP N + 1)).reverse).length ≤ mL N) (hx : exec n N 0 (ent (mL N) (st.take (mP N + 1)).reverse) [] h = some (hF, r)) (hcap : cells + (hF.1 - h.1) ≤ R.cells ∧ slots + (hF.2.1 - h.2.1) ≤ R.slots) :
    va_Run p l e R s m args below meth c H locs cells slots (hF.1 - h.1) (hF.2.1 - h.2.1) (F0 m pc ls (st.map (cv b base))) ((st.drop (mP N + 1)).map (cv b base)) (QcM D b base hF r (((st.take (mP N + 1)).reverse.map (cv b base)).toArray)) (fun q => base ≤ q) := by
  obtain ⟨hex, hb, hr, hml, hown, hts, hlk, hmn, hK⟩ := C
  have S : CallFix p m c (mB M) (mL M) s args tb (cnm (mC M)) := ⟨hex, hb, hml, hown, hts⟩
  obtain ⟨f1, f2, f3, f4⟩ := fit_inv hfit
  have r1 : (rmM N h hF).frames + 1 ≤ R.frames := by show mF N + 1 ≤ R.frames; omega
  have r2 : 8 + (mL N + 11) + (rmM N h hF).locals ≤ R.locals := by show 8 + (mL N + 11) + mW N ≤ R.locals; omega
  obtain ⟨hM, h10, k1, k2, k3⟩ := vTab_ok (mK M i, N) hN
  dsimp only at hM h10 k1 k2 k3
  have hB : CallB R s args (cnm (mC M)) i (mY N) (mB N) (mL N) (mR N) (wsM N) (rmM N h hF) (hF.1 - h.1) (hF.2.1 - h.2.1) (mP N) := callB_of (Ts := tb) (ws' := tb) (mP N) hts (good_tb hM) rfl rfl rfl (hts _ hM.2.2.2.2) (hts _ k1) hM.2.2.2.1 ⟨r1, r2⟩
  have hMet := met_of hn hM hx hl l D b base
  unfold refO at hrec
  split at hrec
  · rename_i a ha
    split at hrec
    · rename_i q hqa
      have hci : q.1 = mC N := by simpa using hrec
      obtain ⟨e1, e2, e3⟩ := st_split ha
      obtain ⟨-, ha0, -, -, cell, g1, g2, g3, -⟩ := hh.2.2.2 a _ hqa
      have P := pre_ok (av := (st.take (mP N + 1)).reverse) hh hK
      rw [e2] at P hMet ⊢
      refine va_runV (C := cnm (mC N)) (b := al b base a) (As := (st.take (mP N)).reverse.map (cv b base)) (n := mP N) S hMet ⟨hB, hts _ k2, hts _ k3⟩ ⟨P.1, ⟨cell, g1, by rw [g3]; rfl, ?_⟩, P.2⟩ rfl ?_ hL.2.1 ?_ (lv_room (room8 f4)) hd hcap
      · rw [g2, ← hci]; exact (hK.1 q.1 (by rw [hci]; exact h10)).2.1
      · rw [List.length_map, List.length_reverse]; exact e3
      · show st.map (cv b base) = _
        conv => lhs; rw [e1]
        simp [cv, List.map_append, List.map_reverse]
    · cases hrec
  · cases hrec
theorem callS_ok {n : Nat} (hn : Snd n) (C : Ctx M p s m args meth c D) (hR : mF M ≤ R.frames ∧ mW M ≤ R.locals) (hL : LR b base ls (mL M) L) (hh : heapR D b base s H h) (hN : (mK M i, N) ∈ sTab) (hfit : cFit M N (mP N) st = true) (hd : decode (mB M) pc = .ok (.invokestatic i, 3)) (hl : (flat (st.take (mP N)).reverse).length ≤ mL N) (hx : exec n N 0 (ent (mL N) (st.take (mP N)).reverse) [] h = some (hF, r)) (hcap : cells + (hF.1 - h.1) ≤ R.cells ∧ slots + (hF.2.1 - h.2.1) ≤ R.slots) :
    va_Run p l e R s m args below meth c H locs cells slots (hF.1 - h.1) (hF.2.1 - h.2.1) (F0 m pc ls (st.map (cv b base))) ((st.drop (mP N)).map (cv b base)) (QcM D b base hF r (((st.take (mP N)).reverse.map (cv b base)).toArray)) (fun q => base ≤ q) := by
  obtain ⟨hex, hb, hr, hml, hown, hts, hlk, hmn, hK⟩ := C
  have S : CallFix p m c (mB M) (mL M) s args tb (cnm (mC M)) := ⟨hex, hb, hml, hown, hts⟩
  obtain ⟨f1, f2, f3, f4⟩ := fit_inv hfit
  have r1 : (rmM N h hF).frames + 1 ≤ R.frames := by show mF N + 1 ≤ R.frames; omega
  have r2 : 8 + (mL N + 11) + (rmM N h hF).locals ≤ R.locals := by show 8 + (mL N + 11) + mW N ≤ R.locals; omega
  obtain ⟨hM, k1, k2⟩ := sTab_ok (mK M i, N) hN
  dsimp only at hM k1 k2
  have hB : CallB R s args (cnm (mC M)) i (mY N) (mB N) (mL N) (mR N) (wsM N) (rmM N h hF) (hF.1 - h.1) (hF.2.1 - h.2.1) (mP N) := callB_of (Ts := tb) (ws' := tb) (mP N) hts (good_tb hM) rfl rfl rfl (hts _ hM.2.2.2.2) (hts _ k1) hM.2.2.2.1 ⟨r1, r2⟩
  have hMet := met_of hn hM hx hl l D b base
  refine va_runS (As := (st.take (mP N)).reverse.map (cv b base)) (n := mP N) S hMet ⟨hB, hts _ k2⟩ (pre_ok hh hK) rfl ?_ hL.2.1 ?_ (lv_room (room8 f4)) hd hcap
  · rw [List.length_map, List.length_reverse, List.length_take]; omega
  · show st.map (cv b base) = _
    conv => lhs; rw [← List.take_append_drop (mP N) st]
    simp [List.map_append, List.map_reverse]
theorem callSN_ok {n : Nat} (hn : Snd n) (C : Ctx M p s m args meth c D) (hR : mF M ≤ R.frames ∧ mW M ≤ R.locals) (hL : LR b base ls (mL M) L) (hh : heapR D b base s H h) (hN : (mK M i, N) ∈ sNest) (hfit : cFit M N (mP N) st = true) (hd : decode (mB M) pc = .ok (.invokestatic i, 3)) (hl : (flat (st.take (mP N)).reverse).length ≤ mL N) (hx : exec n N 0 (ent (mL N) (st.take (mP N)).reverse) [] h = some (hF, r)) (hcap : cells + (hF.1 - h.1) ≤ R.cells ∧ slots + (hF.2.1 - h.2.1) ≤ R.slots) :
    va_Run p l e R s m args below meth c H locs cells slots (hF.1 - h.1) (hF.2.1 - h.2.1) (F0 m pc ls (st.map (cv b base))) ((st.drop (mP N)).map (cv b base)) (QcM D b base hF r (((st.take (mP N)).reverse.map (cv b base)).toArray)) (fun q => base ≤ q) := by
  obtain ⟨hex, hb, hr, hml, hown, hts, hlk, hmn, hK⟩ := C
  have S : CallFix p m c (mB M) (mL M) s args tb (cnm (mC M)) := ⟨hex, hb, hml, hown, hts⟩
  obtain ⟨f1, f2, f3, f4⟩ := fit_inv hfit
  have r1 : (rmM N h hF).frames + 1 ≤ R.frames := by show mF N + 1 ≤ R.frames; omega
  have r2 : 8 + (mL N + 11) + (rmM N h hF).locals ≤ R.locals := by show 8 + (mL N + 11) + mW N ≤ R.locals; omega
  obtain ⟨hM, k2⟩ := sNest_ok (mK M i, N) hN
  dsimp only at hM k2
  have hz := hK.2.1 (mK M i, N) (List.mem_append_left _ hN)
  dsimp only at hz
  have hB : va_CN R s args (cnm (mC M)) i (mY N) "CadenzaEnds" (mB N) (mL N) (mR N) (wsM N) (rmM N h hF) (hF.1 - h.1) (hF.2.1 - h.2.1) (mP N) := va_cnB (Ts := tb) (ws' := tb) (mP N) hts (good_tb hM) rfl rfl rfl hz (hts _ hM.2.2.2.2) hM.2.2.2.1 ⟨r1, r2⟩
  have hMet := met_of hn hM hx hl l D b base
  refine va_runSN (As := (st.take (mP N)).reverse.map (cv b base)) (n := mP N) S hMet ⟨hB, hts _ k2, trivial⟩ (pre_ok hh hK) rfl ?_ hL.2.1 ?_ (lv_room (room8 f4)) hd hcap
  · rw [List.length_map, List.length_reverse, List.length_take]; omega
  · show st.map (cv b base) = _
    conv => lhs; rw [← List.take_append_drop (mP N) st]
    simp [List.map_append, List.map_reverse]
theorem callI_ok {n : Nat} (hn : Snd n) (C : Ctx M p s m args meth c D) (hR : mF M ≤ R.frames ∧ mW M ≤ R.locals) (hL : LR b base ls (mL M) L) (hh : heapR D b base s H h) (hN : (mK M i, N) ∈ oTab) (hfit : cFit M N (mP N + 1) st = true) (hrec : refA st[mP N]? = true) (hd : decode (mB M) pc = .ok (.invokespecial i, 3)) (hl : (flat (st.take (mP N + 1)).reverse).length ≤ mL N) (hx : exec n N 0 (ent (mL N) (st.take (mP N + 1)).reverse) [] h = some (hF, r)) (hcap : cells + (hF.1 - h.1) ≤ R.cells ∧ slots + (hF.2.1 - h.2.1) ≤ R.slots) :
    va_Run p l e R s m args below meth c H locs cells slots (hF.1 - h.1) (hF.2.1 - h.2.1) (F0 m pc ls (st.map (cv b base))) ((st.drop (mP N + 1)).map (cv b base)) (QcM D b base hF r (((st.take (mP N + 1)).reverse.map (cv b base)).toArray)) (fun q => base ≤ q) := by
  obtain ⟨hex, hb, hr, hml, hown, hts, hlk, hmn, hK⟩ := C
  have S : CallFix p m c (mB M) (mL M) s args tb (cnm (mC M)) := ⟨hex, hb, hml, hown, hts⟩
  obtain ⟨f1, f2, f3, f4⟩ := fit_inv hfit
  have r1 : (rmM N h hF).frames + 1 ≤ R.frames := by show mF N + 1 ≤ R.frames; omega
  have r2 : 8 + (mL N + 11) + (rmM N h hF).locals ≤ R.locals := by show 8 + (mL N + 11) + mW N ≤ R.locals; omega
  obtain ⟨hM, k0, k1', k1, k3⟩ := oTab_ok (mK M i, N) hN
  dsimp only at hM k0 k1' k1 k3
  have hB : CallB R s args (cnm (mC M)) i (mY N) (mB N) (mL N) (mR N) (wsM N) (rmM N h hF) (hF.1 - h.1) (hF.2.1 - h.2.1) (mP N) := callB_of (Ts := tb) (ws' := tb) (mP N) hts (good_tb hM) rfl rfl rfl (hts _ hM.2.2.2.2) (hts _ k1) hM.2.2.2.1 ⟨r1, r2⟩
  have hMet := met_of hn hM hx hl l D b base
  unfold refA at hrec
  split at hrec
  · rename_i a ha
    obtain ⟨e1, e2, e3⟩ := st_split ha
    have P := pre_ok (av := (st.take (mP N + 1)).reverse) hh hK
    rw [e2] at P hMet ⊢
    rw [k0] at hB
    refine va_runI (b := al b base a) (As := (st.take (mP N)).reverse.map (cv b base)) (n := mP N) S hMet ⟨hB, k1', hts _ k3⟩ P rfl ?_ hL.2.1 ?_ (lv_room (room8 f4)) hd hcap
    · rw [List.length_map, List.length_reverse]; exact e3
    · show st.map (cv b base) = _
      conv => lhs; rw [e1]
      simp [cv, List.map_append, List.map_reverse]
  · cases hrec
theorem callIN_ok {n : Nat} (hn : Snd n) (C : Ctx M p s m args meth c D) (hR : mF M ≤ R.frames ∧ mW M ≤ R.locals) (hL : LR b base ls (mL M) L) (hh : heapR D b base s H h) (hN : (mK M i, N) ∈ oNest) (hfit : cFit M N (mP N + 1) st = true) (hrec : refA st[mP N]? = true) (hd : decode (mB M) pc = .ok (.invokespecial i, 3)) (hl : (flat (st.take (mP N + 1)).reverse).length ≤ mL N) (hx : exec n N 0 (ent (mL N) (st.take (mP N + 1)).reverse) [] h = some (hF, r)) (hcap : cells + (hF.1 - h.1) ≤ R.cells ∧ slots + (hF.2.1 - h.2.1) ≤ R.slots) :
    va_Run p l e R s m args below meth c H locs cells slots (hF.1 - h.1) (hF.2.1 - h.2.1) (F0 m pc ls (st.map (cv b base))) ((st.drop (mP N + 1)).map (cv b base)) (QcM D b base hF r (((st.take (mP N + 1)).reverse.map (cv b base)).toArray)) (fun q => base ≤ q) := by
  obtain ⟨hex, hb, hr, hml, hown, hts, hlk, hmn, hK⟩ := C
  have S : CallFix p m c (mB M) (mL M) s args tb (cnm (mC M)) := ⟨hex, hb, hml, hown, hts⟩
  obtain ⟨f1, f2, f3, f4⟩ := fit_inv hfit
  have r1 : (rmM N h hF).frames + 1 ≤ R.frames := by show mF N + 1 ≤ R.frames; omega
  have r2 : 8 + (mL N + 11) + (rmM N h hF).locals ≤ R.locals := by show 8 + (mL N + 11) + mW N ≤ R.locals; omega
  obtain ⟨hM, k0, k1', k3⟩ := oNest_ok (mK M i, N) hN
  dsimp only at hM k0 k1' k3
  have hz := hK.2.1 (mK M i, N) (List.mem_append_right _ hN)
  dsimp only at hz
  have hB : va_CN R s args (cnm (mC M)) i (mY N) "CadenzaEnds" (mB N) (mL N) (mR N) (wsM N) (rmM N h hF) (hF.1 - h.1) (hF.2.1 - h.2.1) (mP N) := va_cnB (Ts := tb) (ws' := tb) (mP N) hts (good_tb hM) rfl rfl rfl hz (hts _ hM.2.2.2.2) hM.2.2.2.1 ⟨r1, r2⟩
  have hMet := met_of hn hM hx hl l D b base
  unfold refA at hrec
  split at hrec
  · rename_i a ha
    obtain ⟨e1, e2, e3⟩ := st_split ha
    have P := pre_ok (av := (st.take (mP N + 1)).reverse) hh hK
    rw [e2] at P hMet ⊢
    rw [k0] at hB
    refine va_runIN (b := al b base a) (As := (st.take (mP N)).reverse.map (cv b base)) (n := mP N) S hMet ⟨hB, k1', hts _ k3⟩ P rfl ?_ hL.2.1 ?_ (lv_room (room8 f4)) hd hcap
    · rw [List.length_map, List.length_reverse]; exact e3
    · show st.map (cv b base) = _
      conv => lhs; rw [e1]
      simp [cv, List.map_append, List.map_reverse]
  · cases hrec
theorem call_ok {q : CL} {n : Nat} (hn : Snd n) (C : Ctx M p s m args meth c D) (hR : mF M ≤ R.frames ∧ mW M ≤ R.locals) (hL : LR b base ls (mL M) L) (hh : heapR D b base s H h) (hq : invI M pc st h = some q) (hl : (flat (st.take q.2.1).reverse).length ≤ mL q.1) (hx : exec n q.1 0 (ent (mL q.1) (st.take q.2.1).reverse) [] h = some (hF, r)) (hcap : cells + (hF.1 - h.1) ≤ R.cells ∧ slots + (hF.2.1 - h.2.1) ≤ R.slots) :
    va_Run p l e R s m args below meth c H locs cells slots (hF.1 - h.1) (hF.2.1 - h.2.1) (F0 m pc ls (st.map (cv b base))) ((st.drop q.2.1).map (cv b base)) (QcM D b base hF r (((st.take q.2.1).reverse.map (cv b base)).toArray)) (fun q => base ≤ q) := by
  unfold invI at hq
  split at hq
  · rename_i i hd
    split at hq
    · rename_i N hN
      split at hq
      · rename_i hc
        cases hq
        exact callV_ok hn C hR hL hh (lookup_mem hN) hc.1 hc.2 hd hl hx hcap
      · cases hq
    · cases hq
  · rename_i i hd
    split at hq
    · rename_i N hN
      split at hq
      · rename_i hc
        cases hq
        exact callS_ok hn C hR hL hh (lookup_mem hN) hc hd hl hx hcap
      · cases hq
    · split at hq
      · rename_i N hN
        split at hq
        · rename_i hc
          cases hq
          exact callSN_ok hn C hR hL hh (lookup_mem hN) hc hd hl hx hcap
        · cases hq
      · cases hq
  · rename_i i hd
    split at hq
    · rename_i N hN
      split at hq
      · rename_i hc
        cases hq
        exact callI_ok hn C hR hL hh (lookup_mem hN) hc.1 hc.2 hd hl hx hcap
      · cases hq
    · split at hq
      · rename_i N hN
        split at hq
        · rename_i hc
          cases hq
          exact callIN_ok hn C hR hL hh (lookup_mem hN) hc.1 hc.2 hd hl hx hcap
        · cases hq
      · cases hq
  · cases hq
end SNC
theorem snd_all : ∀ n, Snd n
  | 0 => fun _ _ _ _ _ _ _ hr => by cases hr
  | n + 1 => by
    have hn := snd_all n
    intro M pc L st h hF r hr p l e R s m args below meth c H H0 locs cells slots Q b base D ls hE C hR hL hh hS hE1 hcap ret
    have hr0 := hr
    change turn (exec n) M pc L st h = some (hF, r) at hr
    unfold turn at hr
    split at hr
    · rename_i v hv
      cases hr
      have hst := retI_st hv
      rw [hst] at hv
      rw [hst]
      exact ret H locs cells slots pc ls hh hS hE1 hv
    · split at hr
      · rename_i q hq
        split at hr
        · rename_i hl
          split at hr
          · rename_i z hz
            obtain ⟨h1, rv⟩ := z
            have s1 := exec_sz n _ _ _ _ _ _ hz
            have s2 := exec_sz n _ _ _ _ _ _ hr
            dsimp only at s1 s2 hr
            refine W_call (call_ok hn C hR hL hh hq hl hz ⟨by omega, by omega⟩) fun v st₀ t H1 L1 e0 e1 hvm hf hQ => ?_
            obtain ⟨ev, hh1, hF1⟩ := hQ
            cases ev
            rw [e1] at hh1
            have hh2 := hh1.moved hvm.symm
            have hS2 : va_S (fun q => base ≤ q) H0 H1 (locs ++ L1) := by
              obtain ⟨z1, z2⟩ := hF1
              rw [e0, e1] at z1 z2
              refine ⟨Nat.le_trans hS.1 z1, fun q h1 h2 => (z2 q (Nat.lt_of_lt_of_le h1 hS.1) h2).trans (hS.2.1 q h1 h2), fun q hq => ?_⟩
              rcases List.mem_append.mp hq with h9 | h9
              · exact hS.2.2 q h9
              · exact hf q h9
            have K := hn M (pc + 3) L (rv.toList ++ st.drop q.2.1) h1 hF r hr (l := l) (e := e) (below := below) (Q := Q) (H := H1) (H0 := H0) (locs := locs ++ L1) (cells := cells + (h1.1 - h.1)) (slots := slots + (h1.2.1 - h.2.1)) (hE := hE) C hR hL hh2 hS2 ⟨by omega, by omega⟩ hcap ret
            have e3 : (rv.toList ++ st.drop q.2.1).map (cv b base) = (rv.map (cv b base)).toList ++ (st.drop q.2.1).map (cv b base) := by
              rw [List.map_append]; cases rv <;> rfl
            rw [e3] at K
            exact K
          · cases hr
        · cases hr
      · split at hr
        · rename_i q hq
          have s2 := exec_sz n _ _ _ _ _ _ hr
          dsimp only at s2
          exact stepI_ok (hE := hE) C hR hL hh hS hE1 hq ⟨by omega, by omega⟩ fun H' locs' ls' cells' slots' hL' hh' hS' hc' => hn M _ _ _ _ hF r hr (hE := hE) C hR hL' hh' hS' hc' hcap ret
        · cases hr
