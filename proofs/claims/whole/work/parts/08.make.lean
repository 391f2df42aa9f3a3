/-! ===== new cells, fields ===== -/
section SNM
variable {p : Program} {l : Launch} {e : Env} {R : Room} {s : State} {m : MethodId} {args : Array Value} {below : List Frame} {meth : Method} {c : Code} {H H0 : Heap} {locs : List Loc} {cells slots : Nat} {Q : State → Prop}
variable {b base : Nat} {D : va_G} {M : MI} {pc : Nat} {ls : Array Slot} {L st L' st' : List Value} {h h' : AH} {ins : Instr} {hE : AH}
theorem va_S.grow {A : Nat → Prop} {H1 : Heap} {n : Nat} (hS : va_S A H0 H locs) (hz : H1.size = H.size + n) (ho : ∀ q : Nat, q < H.size → H1[q]? = H[q]?) : va_S A H0 H1 locs :=
  ⟨Nat.le_trans hS.1 (by omega), fun x h1 h2 => (ho x (Nat.lt_of_lt_of_le h1 hS.1)).trans (hS.2.1 x h1 h2), hS.2.2⟩
theorem newA_ok {t : Nat} {at' : ArrayType} {n : Int32} {y : AC} {x : vp_A} (hy : y = .inl (t, x)) (hx : p.tables.exec = Jvm.exec) (hb : c.code = mB M) (hh : heapR D b base s H h) (hS : va_S (fun q => base ≤ q) H0 H locs) (hd : decode (mB M) pc = .ok (.newarray at', 2))
    (harr : (Cond.arrayClass (newarray.typeOf at')).before args s = true) (hty : newarray.typeOf at' = tyN t) (hcell : ∀ cy : ClassId, arrV cy n.toNatClampNeg (fun _ => defaultValue (newarray.typeOf at')) = vp_cell cy (cAr b base x)) (hRA : ∀ cy, s.vm.findClass ("[" ++ (newarray.typeOf at').toString) = some cy → va_RA s cy (tyN t)) (hcb : componentBytes (newarray.typeOf at') ≤ 8)
    (hn : ¬ n < 0) (hn2 : n.toNatClampNeg ≤ 1000000) (hc1 : cells + 1 ≤ R.cells) (hc2 : slots + n.toNatClampNeg ≤ R.slots) {rest : List Value}
    (kk : ∀ H', heapR D b base s H' (hnew h n.toNatClampNeg y) → va_S (fun q => base ≤ q) H0 H' locs → W p l e R s m args below meth c H' locs (cells + 1) (slots + n.toNatClampNeg) Q (F0 m (pc + 2) ls (.ref (al b base h.1) :: rest))) : W p l e R s m args below meth c H locs cells slots Q (F0 m pc ls (.int n :: rest)) := by
  refine va_newaK hx hb harr (g := F0 m pc ls (.int n :: rest)) rfl hd rfl hn rfl ?_ hc1 hc2 hh.2.2.1 fun H' cA e1 z1 o1 hA hf => ?_
  · have : n.toNatClampNeg * componentBytes (newarray.typeOf at') ≤ 1000000 * 8 := Nat.mul_le_mul hn2 hcb
    omega
  · rw [← hh.2.2.1] at z1 o1
    refine kk H' (hh.push z1 o1 ?_) (hS.grow z1 o1)
    subst hy
    have h1 := hh.2.1
    rw [hcell] at e1
    exact Or.inr ⟨by omega, cA, e1, by rw [← hty]; exact hA, hRA cA hf⟩
theorem hp2_ok (hx : p.tables.exec = Jvm.exec) (hb : c.code = mB M) (hts : ∀ w ∈ tb, w.before args s = true) (hh : heapR D b base s H h) (hS : va_S (fun q => base ≤ q) H0 H locs) (hd : decode (mB M) pc = .ok (ins, 2)) (hs : hp2 ins st h = some (st', h'))
    (hE1 : cells + hE.1 = h.1 ∧ slots + hE.2.1 = h.2.1) (hcap : h'.1 ≤ hE.1 + R.cells ∧ h'.2.1 ≤ hE.2.1 + R.slots)
    (kk : ∀ H' cells' slots', heapR D b base s H' h' → va_S (fun q => base ≤ q) H0 H' locs → cells' + hE.1 = h'.1 ∧ slots' + hE.2.1 = h'.2.1 → W p l e R s m args below meth c H' locs cells' slots' Q (F0 m (pc + 2) ls (st'.map (cv b base)))) : W p l e R s m args below meth c H locs cells slots Q (F0 m pc ls (st.map (cv b base))) := by
  unfold hp2 at hs
  split at hs
  · rename_i at'
    split at hs
    · rename_i n r q hq
      split at hs
      · rename_i hn
        cases hs
        simp only [hnew] at hcap
        unfold newP at hq
        split at hq
        · cases hq
          exact newA_ok (t := 0) (x := (n.toNatClampNeg, .inl fun _ => 0)) rfl hx hb hh hS hd (hts _ arr_in.1) rfl (fun cy => rfl) (fun cy h => h) (by decide) hn.1 hn.2 (by omega) (by omega) (fun H' hh' hS' => kk H' _ _ hh' hS' (by simp only [hnew]; omega))
        · cases hq
          exact newA_ok (t := 1) (x := (n.toNatClampNeg, .inr (.inl fun _ => 0))) rfl hx hb hh hS hd (hts _ arr_in.2.1) rfl (fun cy => rfl) (fun cy h => h) (by decide) hn.1 hn.2 (by omega) (by omega) (fun H' hh' hS' => kk H' _ _ hh' hS' (by simp only [hnew]; omega))
        · cases hq
          exact newA_ok (t := 2) (x := (n.toNatClampNeg, .inl fun _ => 0)) rfl hx hb hh hS hd (hts _ arr_in.2.2) rfl (fun cy => rfl) (fun cy h => h) (by decide) hn.1 hn.2 (by omega) (by omega) (fun H' hh' hS' => kk H' _ _ hh' hS' (by simp only [hnew]; omega))
        · cases hq
      · cases hs
    · cases hs
  · cases hs
theorem get_ok {ci k i a : Nat} {v : Value} {rest : List Value} (hx : p.tables.exec = Jvm.exec) (hb : c.code = mB M) (hown : s.vm.findClass (cnm (mC M)) = some m.cls) (hts : ∀ w ∈ tb, w.before args s = true) (hK : knR D s) (hh : heapR D b base s H h) (hq : (mK M i, ci, k) ∈ fTab) (hv : gF h a ci k = some v) (hd : decode (mB M) pc = .ok (.getfield i, 3))
    (kk : W p l e R s m args below meth c H locs cells slots Q (F0 m (pc + 3) ls (cv b base v :: rest))) : W p l e R s m args below meth c H locs cells slots Q (F0 m pc ls (.ref (al b base a) :: rest)) := by
  obtain ⟨fs, hc, hf⟩ := gF_inv hv
  obtain ⟨h1, h2, h3, h4⟩ := fTab_ok _ hq
  obtain ⟨-, ha, -, hlen, hob⟩ := hh.2.2.2 a _ hc
  refine va_get (D := (fun _ => D.1 ci, fun _ => D.2 ci)) (cl := [(cnm ci, tbF ci, nmF ci)]) (tys := []) (ws := [(al b base a, .inr (0, fs.map (cv b base)))]) (C := cnm ci) (T := tbF ci) (N := nmF ci) (ci := 0) (Ts := tb) hx hb hts (fld_in ci h1) hown (kc1 (hK.1 ci h1)) (pc1 ⟨_, rfl, hob⟩) 0 rfl rfl k h2 (hts _ h4) (fun x hx => hx) (v := cv b base v) ?_ hd kk
  rw [List.getElem?_map, hf]; rfl
theorem put_ok {ci k i a : Nat} {v : Value} {rest : List Value} (hx : p.tables.exec = Jvm.exec) (hb : c.code = mB M) (hown : s.vm.findClass (cnm (mC M)) = some m.cls) (hts : ∀ w ∈ tb, w.before args s = true) (hmn : (mY M).name = "<init>" → meth.name = "<init>") (hK : knR D s) (hh : heapR D b base s H h) (hS : va_S (fun q => base ≤ q) H0 H locs) (hq : (mK M i, ci, k) ∈ fTab) (hok : okP M ci k v = true) (hv : pF h a ci k v = some h') (hd : decode (mB M) pc = .ok (.putfield i, 3))
    (kk : ∀ H' locs', heapR D b base s H' h' → va_S (fun q => base ≤ q) H0 H' locs' → W p l e R s m args below meth c H' locs' cells slots Q (F0 m (pc + 3) ls rest)) : W p l e R s m args below meth c H locs cells slots Q (F0 m pc ls (cv b base v :: .ref (al b base a) :: rest)) := by
  obtain ⟨fs, hc, hkl, rfl⟩ := pF_inv hv
  obtain ⟨h1, h2, h3, h4⟩ := fTab_ok _ hq
  obtain ⟨-, ha, -, hlen, hob⟩ := hh.2.2.2 a _ hc
  have hKn := hK.1 ci h1
  have hKc := kc1 hKn
  have hap := va_apart (own := cnm (mC M)) (ci := 0) hts (fld_in ci h1) (tyF ci) (fld_ty ci h1) (fld_nm ci h1) hKc rfl
  obtain ⟨cell, q1, q2, q3, q4⟩ := hob
  obtain ⟨hSl, hfc, kC, hkC, hkind⟩ := hKn
  obtain ⟨cf, kf, fi, f, hi, hsl⟩ := hSl k h2
  have hl0 := u_lays hts (fld_in ci h1) h2
  have hst := (u_facts hfc hkC hl0 hi).1
  have hft := fld_ty ci h1 k h2
  simp only [okP, Bool.and_eq_true, Bool.or_eq_true, decide_eq_true_eq, Bool.not_eq_true'] at hok
  obtain ⟨⟨hn, hfit⟩, hfin⟩ := hok
  have hn' := narrow_cv b base _ _ hn
  have hfit' := fits_cv b base _ _ hfit
  have hlay := hts _ (fld_in ci h1 _ (u_in_lay h2))
  have fin : ∀ H1 : Heap, H1[al b base a]? = some (cell.setSlot f.slot (cv b base v)) → H1.size = H.size → (∀ q, q ≠ al b base a → H1[q]? = H[q]?) → W p l e R s m args below meth c H1 (locs ++ [⟨al b base a, f.slot⟩]) cells slots Q (F0 m (pc + 3) ls rest) := by
    intro H1 e1 z1 o1
    rw [hsl] at e1 ⊢
    refine kk H1 _ (hh.put hc z1 o1 ⟨ha, h1, by rw [List.length_set]; exact hlen, ?_⟩) (hS.put z1 o1 (al_ge ha))
    refine t_OB.to (V := updV (vp_V (fs.map (cv b base))) k (cv b base v)) ⟨_, e1, q2, q3, t_set q4 hap h2 _⟩ (fun j _ => ?_)
    rw [vp_updV_set (by rw [List.length_map]; exact hkl), List.map_set]
  unfold u_lay at hlay
  by_cases hff : (tbF ci k).2.2.2 = true
  · rw [if_pos hff] at hlay
    obtain ⟨hnm, hcls⟩ : (mY M).name = "<init>" ∧ mC M = ci := by
      rcases hfin with h9 | h9
      · rw [hff] at h9; cases h9
      · exact h9
    have hcf : m.cls = cf := by
      obtain ⟨_, _, c', _, _, _, -, -, hf', -, -, -, hown2, -⟩ := Cond.laysFinal_spec hlay
      have e1 : c' = cf := by have := hi.symm.trans hf'; simp at this; exact this.1.symm
      rw [h3, ← hcls] at hown2
      rw [← e1]; exact Option.some.inj (hown.symm.trans hown2)
    have h6 := u_fits hfc hkC hkind (Or.inr hlay) hi hft hn' hfit'
    exact W.putFinK hx hb hown (hts _ h4) hi hst hcf (hmn hnm) (by rw [q2]; exact h6) q1 q3 (by rw [hsl]; exact k2_hasslot (q4 k h2)) rfl rfl hd fin
  · rw [if_neg hff] at hlay
    have h6 := u_store hfc hkC hkind hlay hi hft hn' hfit'
    exact W.putK hx hb (f := f) ⟨hown, hts _ h4, ⟨_, _, _, hi⟩, hst⟩ (by rw [q2]; exact h6) q1 q3 (by rw [hsl]; exact k2_hasslot (q4 k h2)) rfl rfl hd fin
theorem newO_ok {ci i : Nat} {rest : List Value} (hx : p.tables.exec = Jvm.exec) (hb : c.code = mB M) (hown : s.vm.findClass (cnm (mC M)) = some m.cls) (hts : ∀ w ∈ tb, w.before args s = true) (hK : knR D s) (hh : heapR D b base s H h) (hS : va_S (fun q => base ≤ q) H0 H locs) (hq : (mK M i, ci) ∈ nTab) (hd : decode (mB M) pc = .ok (.new i, 3)) (hc1 : cells + 1 ≤ R.cells) (hc2 : slots + nmF ci ≤ R.slots)
    (kk : ∀ H', heapR D b base s H' (hnew h (nmF ci) (oB ci ((List.range (nmF ci)).map (fun k => defaultValue (tyF ci k))))) → va_S (fun q => base ≤ q) H0 H' locs → W p l e R s m args below meth c H' locs (cells + 1) (slots + nmF ci) Q (F0 m (pc + 3) ls (.ref (al b base h.1) :: rest))) : W p l e R s m args below meth c H locs cells slots Q (F0 m pc ls rest) := by
  obtain ⟨h1, h2, h3, h4⟩ := nTab_ok _ hq
  have hKn := hK.1 ci h1
  refine W.newcK hx hb hown (hts _ h2) (hts _ h3) (hts _ h4) rfl hd hc1 hc2 hKn.2.1 hh.2.2.1 fun H1 kC hkC e1 z1 o1 => ?_
  rw [← hh.2.2.1] at z1 o1
  have h0 := hh.2.1
  refine kk H1 (hh.push z1 o1 ⟨by omega, h1, by simp, ?_⟩) (hS.grow z1 o1)
  refine (u_born (tyF ci) hts (fld_in ci h1) hKn hkC e1 (fld_ty ci h1)).to (fun k hk => ?_)
  show _ = (((List.range (nmF ci)).map (fun k => defaultValue (tyF ci k))).map (cv b base)).getD k .null
  have hdef : ∀ ty : FieldType, cv b base (defaultValue ty) = defaultValue ty := fun ty => by cases ty <;> rfl
  simp [hk, hdef]
theorem newQ_ok {i t : Nat} {C : String} {n : Int32} {rest : List Value} (hx : p.tables.exec = Jvm.exec) (hb : c.code = mB M) (hown : s.vm.findClass (cnm (mC M)) = some m.cls) (hclink : (Cond.classLink (cnm (mC M)) i C).before args s = true) (hover : va_AO C s) (hty : tyN t = .object C) (hh : heapR D b base s H h) (hS : va_S (fun q => base ≤ q) H0 H locs) (hd : decode (mB M) pc = .ok (.anewarray i, 3)) (hn : ¬ n < 0) (hn2 : n.toNatClampNeg ≤ 1000000) (hc1 : cells + 1 ≤ R.cells) (hc2 : slots + n.toNatClampNeg ≤ R.slots)
    (kk : ∀ H', heapR D b base s H' (hnew h n.toNatClampNeg (rA t n.toNatClampNeg (fun _ => none))) → va_S (fun q => base ≤ q) H0 H' locs → W p l e R s m args below meth c H' locs (cells + 1) (slots + n.toNatClampNeg) Q (F0 m (pc + 3) ls (.ref (al b base h.1) :: rest))) : W p l e R s m args below meth c H locs cells slots Q (F0 m pc ls (.int n :: rest)) := by
  refine W.anew hx hb hown hclink (va_AO.use hover) rfl hd rfl hn (by omega) hc1 hc2 fun cA kA comp f1 f2 f3 f4 => ?_
  generalize hH1 : H.push ({ cls := cA, slots := Array.replicate n.toNatClampNeg .null, vm := .none } : Cell) = H1
  have z1 : H1.size = H.size + 1 := by rw [← hH1, Array.size_push]
  have e1 : H1[H.size]? = some (arrV cA n.toNatClampNeg (fun _ => .null)) := by rw [← hH1, Array.getElem?_push_size, ← arrV_new]
  have o1 : ∀ q : Nat, q < H.size → H1[q]? = H[q]? := fun q hq => by rw [← hH1, Array.getElem?_push, if_neg (Nat.ne_of_lt hq)]
  have h0 := hh.2.1
  rw [hh.2.2.1] at e1
  have K := kk H1 (hh.push z1 o1 (Or.inr ⟨by omega, cA, e1, by rw [hty]; exact fun N z => ⟨(fun k h => by cases h), kA, f2, comp, f3⟩, by rw [hty]; exact ⟨kA, comp, f2, f3, f4, f1⟩⟩)) (hS.grow z1 o1)
  rw [← hh.2.2.1] at K
  exact K
theorem cat_sum (st : List Value) : (st.map fun v => v.category).sum ≤ 2 * st.length := by
  induction st with
  | nil => exact Nat.le_refl _
  | cons v r ih =>
    have := lv_cat v
    simp only [List.map_cons, List.sum_cons, List.length_cons]
    omega
theorem cat_map (st : List Value) : ((st.map (cv b base)).map fun v => v.category).sum = (st.map fun v => v.category).sum := by
  rw [List.map_map]
  congr 1
  exact List.map_congr_left fun v _ => cv_cat b base v
theorem hp3_ok (hx : p.tables.exec = Jvm.exec) (hb : c.code = mB M) (hown : s.vm.findClass (cnm (mC M)) = some m.cls) (hts : ∀ w ∈ tb, w.before args s = true) (hmn : (mY M).name = "<init>" → meth.name = "<init>") (hK : knR D s) (hh : heapR D b base s H h) (hS : va_S (fun q => base ≤ q) H0 H locs) (hd : decode (mB M) pc = .ok (ins, 3)) (hs : hp3 M ins st h = some (st', h')) (hml : c.maxLocals = mL M) (hsz : ls.size = mL M) (hR : mF M ≤ R.frames ∧ mW M ≤ R.locals)
    (hE1 : cells + hE.1 = h.1 ∧ slots + hE.2.1 = h.2.1) (hcap : h'.1 ≤ hE.1 + R.cells ∧ h'.2.1 ≤ hE.2.1 + R.slots)
    (kk : ∀ H' locs' cells' slots', heapR D b base s H' h' → va_S (fun q => base ≤ q) H0 H' locs' → cells' + hE.1 = h'.1 ∧ slots' + hE.2.1 = h'.2.1 → W p l e R s m args below meth c H' locs' cells' slots' Q (F0 m (pc + 3) ls (st'.map (cv b base)))) : W p l e R s m args below meth c H locs cells slots Q (F0 m pc ls (st.map (cv b base))) := by
  unfold hp3 at hs
  split at hs
  · split at hs
    · rename_i a r q hq
      obtain ⟨v, hv, he⟩ := Option.map_eq_some_iff.mp hs
      cases he
      exact get_ok hx hb hown hts hK hh (lookup_mem hq) hv hd (kk H locs _ _ hh hS hE1)
    · cases hs
  · split at hs
    · rename_i v a r q hq
      split at hs
      · rename_i hok
        obtain ⟨h1, hv, he⟩ := Option.map_eq_some_iff.mp hs
        cases he
        have hsz : h'.1 = h.1 ∧ h'.2.1 = h.2.1 := by obtain ⟨fs, -, -, rfl⟩ := pF_inv hv; exact ⟨rfl, rfl⟩
        exact put_ok hx hb hown hts hmn hK hh hS (lookup_mem hq) hok hv hd (fun H' locs' a1 a2 => kk H' locs' _ _ a1 a2 (by rw [hsz.1, hsz.2]; exact hE1))
      · cases hs
    · cases hs
  · split at hs
    · rename_i ci hq
      cases hs
      simp only [hnew] at hcap
      exact newO_ok hx hb hown hts hK hh hS (lookup_mem hq) hd (by omega) (by omega) (fun H' a1 a2 => kk H' locs _ _ a1 a2 (by simp only [hnew]; omega))
    · cases hs
  · split at hs
    · rename_i n r ci hq
      split at hs
      · rename_i hn
        cases hs
        simp only [hnew] at hcap
        obtain ⟨h1, h2, -⟩ := nTab_ok _ (lookup_mem hq)
        obtain ⟨n1, n2, rfl | rfl⟩ := hn
        · exact newQ_ok (t := 4) hx hb hown (hts _ h2) hK.2.2.1 rfl hh hS hd n1 n2 (by omega) (by omega) (fun H' a1 a2 => kk H' locs _ _ a1 a2 (by simp only [hnew]; omega))
        · exact newQ_ok (t := 5) hx hb hown (hts _ h2) hK.2.2.2.1 rfl hh hS hd n1 n2 (by omega) (by omega) (fun H' a1 a2 => kk H' locs _ _ a1 a2 (by simp only [hnew]; omega))
      · cases hs
    · cases hs
  · split at hs
    · split at hs
      · rename_i hq
        cases hs
        obtain ⟨q1, q2, q3, q4⟩ := hq
        have hm : mK M _ ∈ objTab := List.contains_iff_mem.mp q1
        refine W.objInit hx hb hown (hts _ (obj_ok _ hm)) (hts _ obj_in.1) (hts _ obj_in.2) rfl (hsz.trans hml.symm) rfl hd (by omega) ?_ (kk H locs _ _ hh hS hE1)
        have h1 := cat_sum st'
        rw [← cat_map (b := b) (base := base)] at h1
        show 2 * 0 + _ + 12 ≤ _
        omega
      · cases hs
    · cases hs
  · cases hs
end SNM
