/-! ===== the instructions that read, write and make cells ===== -/
theorem kn1 {D : va_G} {s : State} {cy : ClassId} {ty : FieldType} (h1 : ArrOfT s cy ty) (h2 : va_RA s cy ty) : va_K D [] [(cy, ty)] s :=
  ⟨fun c q h => by simp at h, fun k q h => by
    match k, h with
    | 0, h => cases h; exact ⟨h1, h2⟩
    | k + 1, h => simp at h⟩
theorem pc1 {D : va_G} {cl : List vw_C} {H : Heap} {q : Nat × va_E} (h : va_at D cl q H) : va_P D cl [q] H := fun k x hx => by
  match k, hx with
  | 0, hx => cases hx; exact h
  | k + 1, hx => simp at hx
theorem kc1 {D : va_G} {s : State} {ci : Nat} (h : u_Kn s (cnm ci) (tbF ci) (nmF ci) (D.1 ci) (D.2 ci)) : va_K (fun _ => D.1 ci, fun _ => D.2 ci) [(cnm ci, tbF ci, nmF ci)] [] s :=
  ⟨fun k q hq => by
    match k, hq with
    | 0, hq => cases hq; exact h
    | k + 1, hq => simp at hq, fun k q hq => by simp at hq⟩
theorem al_ge {b base a : Nat} (h : a ≠ 0) : base ≤ al b base a := by
  cases a with
  | zero => exact absurd rfl h
  | succ k => simp only [al]; omega
theorem inb_in {i : Int32} {n : Nat} (h : inb i n = true) : vp_in i n := of_decide_eq_true (p := ¬ (i < 0 ∨ n ≤ i.toNatClampNeg)) h
theorem gI_inv {h : AH} {t a : Nat} {i v : Int32} (hs : gI t h a i = some v) : ∃ n f, h.2.2 a = some (.inl (t, n, .inl f)) ∧ vp_in i n ∧ v = f i.toNatClampNeg := by
  unfold gI at hs
  split at hs
  · rename_i t' n f hc
    split at hs
    · rename_i hq
      obtain ⟨rfl, hq⟩ := hq
      cases hs
      exact ⟨n, f, hc, inb_in hq, rfl⟩
    · cases hs
  · cases hs
theorem pI_inv {h h' : AH} {t a : Nat} {i x : Int32} (hs : pI t h a i x = some h') : ∃ n f, h.2.2 a = some (.inl (t, n, .inl f)) ∧ vp_in i n ∧ a ≠ 0 ∧ h' = hup h a (.inl (t, n, .inl (upd f i.toNatClampNeg x))) := by
  unfold pI at hs
  split at hs
  · rename_i t' n f hc
    split at hs
    · rename_i hq
      obtain ⟨rfl, hq, ha⟩ := hq
      cases hs
      exact ⟨n, f, hc, inb_in hq, ha, rfl⟩
    · cases hs
  · cases hs
theorem gJ_inv {h : AH} {a : Nat} {i : Int32} {v : Int64} (hs : gJ h a i = some v) : ∃ n f, h.2.2 a = some (jA n f) ∧ vp_in i n ∧ a ≠ 0 ∧ v = f i.toNatClampNeg := by
  unfold gJ at hs
  split at hs
  · rename_i t' n f hc
    split at hs
    · rename_i hq
      obtain ⟨rfl, hq, ha⟩ := hq
      cases hs
      exact ⟨n, f, hc, inb_in hq, ha, rfl⟩
    · cases hs
  · cases hs
theorem pJ_inv {h h' : AH} {a : Nat} {i : Int32} {x : Int64} (hs : pJ h a i x = some h') : ∃ n f, h.2.2 a = some (jA n f) ∧ vp_in i n ∧ a ≠ 0 ∧ h' = hup h a (jA n (vp_updL f i.toNatClampNeg x)) := by
  unfold pJ at hs
  split at hs
  · rename_i t' n f hc
    split at hs
    · rename_i hq
      obtain ⟨rfl, hq, ha⟩ := hq
      cases hs
      exact ⟨n, f, hc, inb_in hq, ha, rfl⟩
    · cases hs
  · cases hs
theorem gR_inv {h : AH} {a : Nat} {i : Int32} {v : Nat} (hs : gR h a i = some v) : ∃ t n f, (t = 3 ∨ t = 4 ∨ t = 5) ∧ h.2.2 a = some (rA t n f) ∧ vp_in i n ∧ a ≠ 0 ∧ f i.toNatClampNeg = some v := by
  unfold gR at hs
  split at hs
  · rename_i t' n f hc
    split at hs
    · rename_i hq
      obtain ⟨ht, hq, ha⟩ := hq
      exact ⟨t', n, f, ht, hc, inb_in hq, ha, hs⟩
    · cases hs
  · cases hs
theorem pR_inv {h h' : AH} {a x : Nat} {i : Int32} (hs : pR h a i x = some h') : ∃ t n f, h.2.2 a = some (rA t n f) ∧ okR t (h.2.2 x) = true ∧ vp_in i n ∧ a ≠ 0 ∧ h' = hup h a (rA t n (va_up f i.toNatClampNeg (some x))) := by
  unfold pR at hs
  split at hs
  · rename_i t' n f hc
    split at hs
    · rename_i hq
      obtain ⟨hr, hq, ha⟩ := hq
      cases hs
      exact ⟨t', n, f, hc, hr, inb_in hq, ha, rfl⟩
    · cases hs
  · cases hs
theorem gF_inv {h : AH} {a ci k : Nat} {v : Value} (hs : gF h a ci k = some v) : ∃ fs, h.2.2 a = some (oB ci fs) ∧ fs[k]? = some v := by
  unfold gF at hs
  split at hs
  · rename_i q hc
    split at hs
    · rename_i hq
      subst hq
      exact ⟨q.2, hc, hs⟩
    · cases hs
  · cases hs
theorem pF_inv {h h' : AH} {a ci k : Nat} {v : Value} (hs : pF h a ci k v = some h') : ∃ fs, h.2.2 a = some (oB ci fs) ∧ k < fs.length ∧ h' = hup h a (oB ci (fs.set k v)) := by
  unfold pF at hs
  split at hs
  · rename_i q hc
    split at hs
    · rename_i hq
      obtain ⟨rfl, hk⟩ := hq
      cases hs
      exact ⟨q.2, hc, hk, rfl⟩
    · cases hs
  · cases hs
theorem cell_arrV (cy : ClassId) (b base : Nat) (x : vp_A) : ∃ g, vp_cell cy (cAr b base x) = arrV cy x.1 g := by
  obtain ⟨n, y⟩ := x
  rcases y with f | f | f | f | f
  · exact ⟨fun j => .int (f j), rfl⟩
  · exact ⟨fun j => .long (f j), rfl⟩
  · exact ⟨fun j => .float (f j), rfl⟩
  · exact ⟨fun j => .double (f j), rfl⟩
  · exact ⟨fun j => va_rf ((f j).map (al b base)), rfl⟩
theorem narrow_cv (b base : Nat) (ty : FieldType) (v : Value) (h : narrow ty v = v) : narrow ty (cv b base v) = cv b base v := by
  cases v with
  | ref a => cases ty <;> rfl
  | _ => exact h
theorem fits_cv (b base : Nat) (ty : FieldType) (v : Value) (h : fits ty v = true) : fits ty (cv b base v) = true := by
  cases v with
  | ref a => cases ty <;> first | exact h | cases h
  | _ => exact h
section SNH
variable {p : Program} {l : Launch} {e : Env} {R : Room} {s : State} {m : MethodId} {args : Array Value} {below : List Frame} {meth : Method} {c : Code} {H H0 : Heap} {locs : List Loc} {cells slots : Nat} {Q : State → Prop}
variable {b base : Nat} {D : va_G} {M : MI} {pc : Nat} {ls : Array Slot} {L st L' st' : List Value} {h h' : AH} {ins : Instr}
theorem upd_cell_i {cy : ClassId} {n k : Nat} {f : Nat → Int32} {x : Int32} : (vp_cell cy (n, .inl f)).setSlot k (.int x) = vp_cell cy (n, .inl (upd f k x)) := by
  rw [vp_cell_i, vp_cell_i, arrV_store]
  congr 2
  funext q
  by_cases hq : q = k
  · subst hq; simp [updV, upd]
  · simp [updV, upd, hq]
theorem upd_cell_j {cy : ClassId} {n k : Nat} {f : Nat → Int64} {x : Int64} : (vp_cell cy (n, .inr (.inl f))).setSlot k (.long x) = vp_cell cy (n, .inr (.inl (vp_updL f k x))) := by
  rw [vp_cell_l, vp_cell_l, arrV_store]
  congr 2
  funext q
  by_cases hq : q = k
  · subst hq; simp [updV, vp_updL]
  · simp [updV, vp_updL, hq]
theorem upd_cell_r {cy : ClassId} {n k x : Nat} {f : Nat → Option Nat} : (vp_cell cy (cAr b base (n, .inr (.inr (.inr (.inr f)))))).setSlot k (.ref (al b base x)) = vp_cell cy (cAr b base (n, .inr (.inr (.inr (.inr (va_up f k (some x))))))) := by
  show (vp_cell cy (n, .inr (.inr (.inr (.inr (fun j => (f j).map (al b base))))))).setSlot k _ = vp_cell cy (n, .inr (.inr (.inr (.inr (fun j => ((va_up f k (some x)) j).map (al b base))))))
  rw [vp_cell_q, vp_cell_q, arrV_store]
  congr 2
  funext q
  by_cases hq : q = k
  · subst hq; simp [updV, va_up, va_rf]
  · simp [updV, va_up, hq]
theorem W_len {a : Nat} {n : Nat} (hx : p.tables.exec = Jvm.exec) (hb : c.code = mB M) (hh : heapR D b base s H h) (hn : gN h a = some n) (hd : decode (mB M) pc = .ok (.arraylength, 1)) {rest : List Value}
    (kk : W p l e R s m args below meth c H locs cells slots Q (F0 m (pc + 1) ls (.int (Int32.ofNat n) :: rest))) : W p l e R s m args below meth c H locs cells slots Q (F0 m pc ls (.ref (al b base a) :: rest)) := by
  unfold gN at hn
  split at hn
  · rename_i t n' y hc
    cases hn
    rcases (hh.2.2.2 a _ hc).2 with ⟨rfl, -, f, -, scr, h1, h2, h3, h4, h5⟩ | ⟨-, cy, h1, h2, -⟩
    · exact W.alen hx hb h1 h2 (by rw [h4]) rfl rfl hd kk
    · obtain ⟨g, hg⟩ := cell_arrV cy b base (n, y)
      rw [hg] at h1
      exact W.alen hx hb h1 (h2 _ _) (by rw [arrV_size]) rfl rfl hd kk
  · cases hn
theorem hp1_ok (hx : p.tables.exec = Jvm.exec) (hb : c.code = mB M) (hh : heapR D b base s H h) (hK : knR D s) (hS : va_S (fun q => base ≤ q) H0 H locs) (hd : decode (mB M) pc = .ok (ins, 1)) (hs : hp1 ins st h = some (st', h'))
    (kk : ∀ H' locs', heapR D b base s H' h' → va_S (fun q => base ≤ q) H0 H' locs' → W p l e R s m args below meth c H' locs' cells slots Q (F0 m (pc + 1) ls (st'.map (cv b base)))) : W p l e R s m args below meth c H locs cells slots Q (F0 m pc ls (st.map (cv b base))) := by
  unfold hp1 at hs
  split at hs
  · split at hs
    · rename_i i a r
      obtain ⟨v, hv, he⟩ := Option.map_eq_some_iff.mp hs
      cases he
      obtain ⟨n, f, hc, hin, rfl⟩ := gI_inv hv
      have hlt : i.toNatClampNeg < n := Nat.not_le.mp fun q => hin (Or.inr q)
      rcases (hh.2.2.2 a _ hc).2 with ⟨rfl, -, f', hf, scr, h1, h2, h3, h4, h5⟩ | ⟨-, cy, h1, h2, h3⟩
      · cases hf
        exact W.iald hx hb h1 h2 h3 (by rw [h4]; exact hin) (h5 _ hlt) rfl rfl hd (kk H locs hh hS)
      · exact va_iald (D := D) (cl := []) (tys := [(cy, .int)]) (ws := [(al b base a, .inl (cy, n, .inl f))]) hx hb (kn1 h2 h3) (pc1 h1) 0 0 rfl rfl hin hd (kk H locs hh hS)
    · cases hs
  · split at hs
    · rename_i i a r
      obtain ⟨v, hv, he⟩ := Option.map_eq_some_iff.mp hs
      cases he
      split at hv
      · cases hv
      · rename_i ha
        obtain ⟨n, f, hc, hin, rfl⟩ := gI_inv hv
        rcases (hh.2.2.2 a _ hc).2 with ⟨rfl, -⟩ | ⟨-, cy, h1, h2, h3⟩
        · exact absurd rfl ha
        · exact va_zald (D := D) (cl := []) (tys := [(cy, .boolean)]) (ws := [(al b base a, .inl (cy, n, .inl f))]) hx hb (kn1 h2 h3) (pc1 h1) 0 0 rfl rfl hin hd (kk H locs hh hS)
    · cases hs
  · split at hs
    · rename_i i a r
      obtain ⟨v, hv, he⟩ := Option.map_eq_some_iff.mp hs
      cases he
      obtain ⟨n, f, hc, hin, ha, rfl⟩ := gJ_inv hv
      rcases (hh.2.2.2 a _ hc).2 with ⟨rfl, -⟩ | ⟨-, cy, h1, h2, h3⟩
      · exact absurd rfl ha
      · exact va_lald (D := D) (cl := []) (tys := [(cy, .long)]) (ws := [(al b base a, .inl (cy, n, .inr (.inl f)))]) hx hb (kn1 h2 h3) (pc1 h1) 0 0 rfl rfl hin hd (kk H locs hh hS)
    · cases hs
  · split at hs
    · rename_i i a r
      obtain ⟨v, hv, he⟩ := Option.map_eq_some_iff.mp hs
      cases he
      obtain ⟨t, n, f, ht, hc, hin, ha, hf⟩ := gR_inv hv
      have hlt : i.toNatClampNeg < n := Nat.not_le.mp fun q => hin (Or.inr q)
      rcases (hh.2.2.2 a _ hc).2 with ⟨rfl, -⟩ | ⟨-, cy, h1, h2, h3⟩
      · exact absurd rfl ha
      · have h1' : H[al b base a]? = some (arrV cy n (fun j => va_rf ((f j).map (al b base)))) := h1
        exact W.aald (v := .ref (al b base v)) (ty := tyN t) hx hb h1' (h2 _ _) (by rcases ht with rfl | rfl | rfl <;> rfl) (fun q => by cases q) (by rw [arrV_size]; exact hin) (by rw [arrV_read _ _ hlt, hf]; rfl) rfl rfl hd (kk H locs hh hS)
    · cases hs
  · split at hs
    · rename_i x i a r
      obtain ⟨v, hv, he⟩ := Option.map_eq_some_iff.mp hs
      cases he
      obtain ⟨n, f, hc, hin, ha, rfl⟩ := pI_inv hv
      rcases (hh.2.2.2 a _ hc).2 with ⟨rfl, -⟩ | ⟨-, cy, h1, h2, h3⟩
      · exact absurd rfl ha
      · have h1' : H[al b base a]? = some (vp_cell cy (n, .inl f)) := h1
        refine W.iast hx hb h1' (h2 n (fun j => .int (f j))) (fun q => by cases q) (by show ¬ (i < 0 ∨ (arrV _ _ _).slots.size ≤ _); rw [arrV_size]; exact hin) rfl rfl hd fun H1 e1 z1 o1 => ?_
        rw [upd_cell_i] at e1
        exact kk H1 _ (hh.put hc z1 o1 (Or.inr ⟨ha, cy, e1, h2, h3⟩)) (hS.put z1 o1 (al_ge ha))
    · cases hs
  · split at hs
    · rename_i x i a r
      obtain ⟨v, hv, he⟩ := Option.map_eq_some_iff.mp hs
      cases he
      obtain ⟨n, f, hc, hin, ha, rfl⟩ := pI_inv hv
      rcases (hh.2.2.2 a _ hc).2 with ⟨rfl, -⟩ | ⟨-, cy, h1, h2, h3⟩
      · exact absurd rfl ha
      · have h1' : H[al b base a]? = some (vp_cell cy (n, .inl f)) := h1
        refine W.zast hx hb h1' (h2 n (fun j => .int (f j))) (fun q => by cases q) (by show ¬ (i < 0 ∨ (arrV _ _ _).slots.size ≤ _); rw [arrV_size]; exact hin) rfl rfl hd fun H1 e1 z1 o1 => ?_
        have e2 : H1[al b base a]? = some ((vp_cell cy (n, .inl f)).setSlot i.toNatClampNeg (.int (x &&& 1))) := e1
        rw [upd_cell_i] at e2
        exact kk H1 _ (hh.put hc z1 o1 (Or.inr ⟨ha, cy, e2, h2, h3⟩)) (hS.put z1 o1 (al_ge ha))
    · cases hs
  · split at hs
    · rename_i x i a r
      obtain ⟨v, hv, he⟩ := Option.map_eq_some_iff.mp hs
      cases he
      obtain ⟨n, f, hc, hin, ha, rfl⟩ := pJ_inv hv
      rcases (hh.2.2.2 a _ hc).2 with ⟨rfl, -⟩ | ⟨-, cy, h1, h2, h3⟩
      · exact absurd rfl ha
      · have h1' : H[al b base a]? = some (vp_cell cy (n, .inr (.inl f))) := h1
        refine W.last hx hb h1' (h2 n (fun j => .long (f j))) (fun q => by cases q) (by show ¬ (i < 0 ∨ (arrV _ _ _).slots.size ≤ _); rw [arrV_size]; exact hin) rfl rfl hd fun H1 e1 z1 o1 => ?_
        rw [upd_cell_j] at e1
        exact kk H1 _ (hh.put hc z1 o1 (Or.inr ⟨ha, cy, e1, h2, h3⟩)) (hS.put z1 o1 (al_ge ha))
    · cases hs
  · split at hs
    · rename_i x i a r
      obtain ⟨v, hv, he⟩ := Option.map_eq_some_iff.mp hs
      cases he
      obtain ⟨t, n, f, hc, hr, hin, ha, rfl⟩ := pR_inv hv
      have hlt : i.toNatClampNeg < n := Nat.not_le.mp fun q => hin (Or.inr q)
      have h0 : ¬ i < 0 := fun q => hin (Or.inl q)
      unfold okR at hr
      split at hr
      · rename_i q hq
        obtain ⟨-, hxa, hx10, -, cellV, g1, g2, g3, -⟩ := hh.2.2.2 x _ hq
        have hcls := (hK.1 q.1 hx10).2
        have htq : tyN t = .object (cnm q.1) := by
          simp only [Bool.or_eq_true, Bool.and_eq_true, beq_iff_eq] at hr
          rcases hr with ⟨rfl, h2⟩ | ⟨rfl, h2⟩ <;> rw [h2] <;> rfl
        rcases (hh.2.2.2 a _ hc).2 with ⟨rfl, -⟩ | ⟨-, cy, h1, h2, h3⟩
        · exact absurd rfl ha
        · have h3' : va_RA s cy (tyN t) := h3
          rw [htq] at h3'
          obtain ⟨kA, comp, k1, k2, k3, -⟩ := h3'
          have hcomp : comp = D.1 q.1 := Option.some.inj (k3.symm.trans hcls.1)
          subst hcomp
          obtain ⟨kC, hkC, -⟩ := hcls.2
          have h1' : H[al b base a]? = some (arrV cy n (fun j => va_rf ((f j).map (al b base)))) := h1
          refine W.aast hx hb h1' (fun q h => by cases h) (fun h => by cases h) k1 k2 rfl hkC ⟨h0, by rw [arrV_size]; exact hlt⟩ g1 (fun q h => by rw [g3] at h; cases h) (by rw [g2]; exact hkC) (by rw [g2]; exact va_assign hcls) rfl rfl hd fun H1 e1 z1 o1 => ?_
          have e2 : H1[al b base a]? = some ((vp_cell cy (cAr b base (n, .inr (.inr (.inr (.inr f)))))).setSlot i.toNatClampNeg (.ref (al b base x))) := e1
          rw [upd_cell_r] at e2
          exact kk H1 _ (hh.put hc z1 o1 (Or.inr ⟨ha, cy, e2, h2, h3⟩)) (hS.put z1 o1 (al_ge ha))
      · cases hr
    · cases hs
  · split at hs
    · obtain ⟨v, hv, he⟩ := Option.map_eq_some_iff.mp hs
      cases he
      exact W_len hx hb hh hv hd (kk H locs hh hS)
    · cases hs
  · cases hs
end SNH
