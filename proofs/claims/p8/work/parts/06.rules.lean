/-! the rules of PV for instructions that leave the cells alone: written by wip/gen/rules.py -/
theorem pv_iconst {sc : pv_S} {g : pv_G} {M : pv_M} {Q : Option Value → List pv_C → Prop} {dp kc ks pc : Nat} {lo st : List Value} {h : List pv_C} {n : Int} {v : Int32} (hd : decode M.2.2.1 pc = .ok (.iconst n, 1)) (n0 : Nat) (hp : pc + 1 = n0) (hv : Int32.ofInt n = v) (k : PV sc g M Q dp kc ks n0 lo (.int v :: st) h) : PV sc g M Q dp kc ks pc lo (st) h := by
  intro p e R s m args below meth c X f1 f2 f3 f4 H locs cells slots ls hH hS h1 h2 hL
  subst hp
  exact lv_iconst X.1 X.2.1 hd hv (k p e R s m args below meth c X f1 f2 f3 f4 H locs cells slots ls hH hS h1 h2 hL)
theorem pv_bipush {sc : pv_S} {g : pv_G} {M : pv_M} {Q : Option Value → List pv_C → Prop} {dp kc ks pc : Nat} {lo st : List Value} {h : List pv_C} {n : Int} {v : Int32} (hd : decode M.2.2.1 pc = .ok (.bipush n, 2)) (n0 : Nat) (hp : pc + 2 = n0) (hv : (Int8.ofInt n).toInt32 = v) (k : PV sc g M Q dp kc ks n0 lo (.int v :: st) h) : PV sc g M Q dp kc ks pc lo (st) h := by
  intro p e R s m args below meth c X f1 f2 f3 f4 H locs cells slots ls hH hS h1 h2 hL
  subst hp
  exact lv_bipush X.1 X.2.1 hd hv (k p e R s m args below meth c X f1 f2 f3 f4 H locs cells slots ls hH hS h1 h2 hL)
theorem pv_sipush {sc : pv_S} {g : pv_G} {M : pv_M} {Q : Option Value → List pv_C → Prop} {dp kc ks pc : Nat} {lo st : List Value} {h : List pv_C} {n : Int} {v : Int32} (hd : decode M.2.2.1 pc = .ok (.sipush n, 3)) (n0 : Nat) (hp : pc + 3 = n0) (hv : (Int16.ofInt n).toInt32 = v) (k : PV sc g M Q dp kc ks n0 lo (.int v :: st) h) : PV sc g M Q dp kc ks pc lo (st) h := by
  intro p e R s m args below meth c X f1 f2 f3 f4 H locs cells slots ls hH hS h1 h2 hL
  subst hp
  exact lv_sipush X.1 X.2.1 hd hv (k p e R s m args below meth c X f1 f2 f3 f4 H locs cells slots ls hH hS h1 h2 hL)
theorem pv_lconst {sc : pv_S} {g : pv_G} {M : pv_M} {Q : Option Value → List pv_C → Prop} {dp kc ks pc : Nat} {lo st : List Value} {h : List pv_C} {n : Fin 2} {v : Int64} (hd : decode M.2.2.1 pc = .ok (.lconst n, 1)) (n0 : Nat) (hp : pc + 1 = n0) (hv : Int64.ofNat (n : Nat) = v) (k : PV sc g M Q dp kc ks n0 lo (.long v :: st) h) : PV sc g M Q dp kc ks pc lo (st) h := by
  intro p e R s m args below meth c X f1 f2 f3 f4 H locs cells slots ls hH hS h1 h2 hL
  subst hp
  exact lv_lconst X.1 X.2.1 hd hv (k p e R s m args below meth c X f1 f2 f3 f4 H locs cells slots ls hH hS h1 h2 hL)
theorem pv_null {sc : pv_S} {g : pv_G} {M : pv_M} {Q : Option Value → List pv_C → Prop} {dp kc ks pc : Nat} {lo st : List Value} {h : List pv_C}  (hd : decode M.2.2.1 pc = .ok (.aconst_null, 1)) (n0 : Nat) (hp : pc + 1 = n0) (k : PV sc g M Q dp kc ks n0 lo (.null :: st) h) : PV sc g M Q dp kc ks pc lo (st) h := by
  intro p e R s m args below meth c X f1 f2 f3 f4 H locs cells slots ls hH hS h1 h2 hL
  subst hp
  exact lv_null X.1 X.2.1 hd (k p e R s m args below meth c X f1 f2 f3 f4 H locs cells slots ls hH hS h1 h2 hL)
theorem pv_ldc {sc : pv_S} {g : pv_G} {M : pv_M} {Q : Option Value → List pv_C → Prop} {dp kc ks pc : Nat} {lo st : List Value} {h : List pv_C} {i : Nat} {v : Int32} (hd : decode M.2.2.1 pc = .ok (.ldc i, 2)) (n0 : Nat) (hp : pc + 2 = n0) (hw : Cond.constant M.1 i v ∈ pv_T) (k : PV sc g M Q dp kc ks n0 lo (.int v :: st) h) : PV sc g M Q dp kc ks pc lo (st) h := by
  intro p e R s m args below meth c X f1 f2 f3 f4 H locs cells slots ls hH hS h1 h2 hL
  subst hp
  exact lv_ldc X.1 X.2.1 X.2.2.2.2.1 (X.2.2.2.2.2.2.2.1 _ hw) hd (k p e R s m args below meth c X f1 f2 f3 f4 H locs cells slots ls hH hS h1 h2 hL)
theorem pv_ldcw {sc : pv_S} {g : pv_G} {M : pv_M} {Q : Option Value → List pv_C → Prop} {dp kc ks pc : Nat} {lo st : List Value} {h : List pv_C} {i : Nat} {v : Int32} (hd : decode M.2.2.1 pc = .ok (.ldc_w i, 3)) (n0 : Nat) (hp : pc + 3 = n0) (hw : Cond.constant M.1 i v ∈ pv_T) (k : PV sc g M Q dp kc ks n0 lo (.int v :: st) h) : PV sc g M Q dp kc ks pc lo (st) h := by
  intro p e R s m args below meth c X f1 f2 f3 f4 H locs cells slots ls hH hS h1 h2 hL
  subst hp
  exact lv_ldcw X.1 X.2.1 X.2.2.2.2.1 (X.2.2.2.2.2.2.2.1 _ hw) hd (k p e R s m args below meth c X f1 f2 f3 f4 H locs cells slots ls hH hS h1 h2 hL)
theorem pv_ldc2 {sc : pv_S} {g : pv_G} {M : pv_M} {Q : Option Value → List pv_C → Prop} {dp kc ks pc : Nat} {lo st : List Value} {h : List pv_C} {i : Nat} {v : Int64} (hd : decode M.2.2.1 pc = .ok (.ldc2_w i, 3)) (n0 : Nat) (hp : pc + 3 = n0) (hw : Cond.constantLong M.1 i v ∈ pv_T) (k : PV sc g M Q dp kc ks n0 lo (.long v :: st) h) : PV sc g M Q dp kc ks pc lo (st) h := by
  intro p e R s m args below meth c X f1 f2 f3 f4 H locs cells slots ls hH hS h1 h2 hL
  subst hp
  exact lv_ldc2 X.1 X.2.1 X.2.2.2.2.1 (X.2.2.2.2.2.2.2.1 _ hw) hd (k p e R s m args below meth c X f1 f2 f3 f4 H locs cells slots ls hH hS h1 h2 hL)
theorem pv_iload_n {sc : pv_S} {g : pv_G} {M : pv_M} {Q : Option Value → List pv_C → Prop} {dp kc ks pc : Nat} {lo st : List Value} {h : List pv_C} {n : Fin 4} (i : Nat) {x : Int32} (hd : decode M.2.2.1 pc = .ok (.iload_n n, 1)) (n0 : Nat) (hp : pc + 1 = n0) (hi : (n : Nat) = i) (hl : lo[i]? = some (.int x)) (k : PV sc g M Q dp kc ks n0 lo (.int x :: st) h) : PV sc g M Q dp kc ks pc lo (st) h := by
  intro p e R s m args below meth c X f1 f2 f3 f4 H locs cells slots ls hH hS h1 h2 hL
  subst hp
  exact lv_iload_n X.1 X.2.1 hd hi (hL.2.2 _ _ hl (by simp [pv_U])) (k p e R s m args below meth c X f1 f2 f3 f4 H locs cells slots ls hH hS h1 h2 hL)
theorem pv_iload {sc : pv_S} {g : pv_G} {M : pv_M} {Q : Option Value → List pv_C → Prop} {dp kc ks pc : Nat} {lo st : List Value} {h : List pv_C} {i : Nat} {x : Int32} (hd : decode M.2.2.1 pc = .ok (.iload i, 2)) (n0 : Nat) (hp : pc + 2 = n0) (hl : lo[i]? = some (.int x)) (k : PV sc g M Q dp kc ks n0 lo (.int x :: st) h) : PV sc g M Q dp kc ks pc lo (st) h := by
  intro p e R s m args below meth c X f1 f2 f3 f4 H locs cells slots ls hH hS h1 h2 hL
  subst hp
  exact lv_iload X.1 X.2.1 hd (hL.2.2 _ _ hl (by simp [pv_U])) (k p e R s m args below meth c X f1 f2 f3 f4 H locs cells slots ls hH hS h1 h2 hL)
theorem pv_lload_n {sc : pv_S} {g : pv_G} {M : pv_M} {Q : Option Value → List pv_C → Prop} {dp kc ks pc : Nat} {lo st : List Value} {h : List pv_C} {n : Fin 4} (i : Nat) {x : Int64} (hd : decode M.2.2.1 pc = .ok (.lload_n n, 1)) (n0 : Nat) (hp : pc + 1 = n0) (hi : (n : Nat) = i) (hl : lo[i]? = some (.long x)) (k : PV sc g M Q dp kc ks n0 lo (.long x :: st) h) : PV sc g M Q dp kc ks pc lo (st) h := by
  intro p e R s m args below meth c X f1 f2 f3 f4 H locs cells slots ls hH hS h1 h2 hL
  subst hp
  exact lv_lload_n X.1 X.2.1 hd hi (hL.2.2 _ _ hl (by simp [pv_U])) (k p e R s m args below meth c X f1 f2 f3 f4 H locs cells slots ls hH hS h1 h2 hL)
theorem pv_lload {sc : pv_S} {g : pv_G} {M : pv_M} {Q : Option Value → List pv_C → Prop} {dp kc ks pc : Nat} {lo st : List Value} {h : List pv_C} {i : Nat} {x : Int64} (hd : decode M.2.2.1 pc = .ok (.lload i, 2)) (n0 : Nat) (hp : pc + 2 = n0) (hl : lo[i]? = some (.long x)) (k : PV sc g M Q dp kc ks n0 lo (.long x :: st) h) : PV sc g M Q dp kc ks pc lo (st) h := by
  intro p e R s m args below meth c X f1 f2 f3 f4 H locs cells slots ls hH hS h1 h2 hL
  subst hp
  exact lv_lload X.1 X.2.1 hd (hL.2.2 _ _ hl (by simp [pv_U])) (k p e R s m args below meth c X f1 f2 f3 f4 H locs cells slots ls hH hS h1 h2 hL)
theorem pv_aload_n {sc : pv_S} {g : pv_G} {M : pv_M} {Q : Option Value → List pv_C → Prop} {dp kc ks pc : Nat} {lo st : List Value} {h : List pv_C} {n : Fin 4} (i : Nat) {x : Nat} (hd : decode M.2.2.1 pc = .ok (.aload_n n, 1)) (n0 : Nat) (hp : pc + 1 = n0) (hi : (n : Nat) = i) (hl : lo[i]? = some (.ref x)) (k : PV sc g M Q dp kc ks n0 lo (.ref x :: st) h) : PV sc g M Q dp kc ks pc lo (st) h := by
  intro p e R s m args below meth c X f1 f2 f3 f4 H locs cells slots ls hH hS h1 h2 hL
  subst hp
  exact lv_aload_n X.1 X.2.1 hd hi (hL.2.2 _ _ hl (by simp [pv_U])) (k p e R s m args below meth c X f1 f2 f3 f4 H locs cells slots ls hH hS h1 h2 hL)
theorem pv_aload {sc : pv_S} {g : pv_G} {M : pv_M} {Q : Option Value → List pv_C → Prop} {dp kc ks pc : Nat} {lo st : List Value} {h : List pv_C} {i : Nat} {x : Nat} (hd : decode M.2.2.1 pc = .ok (.aload i, 2)) (n0 : Nat) (hp : pc + 2 = n0) (hl : lo[i]? = some (.ref x)) (k : PV sc g M Q dp kc ks n0 lo (.ref x :: st) h) : PV sc g M Q dp kc ks pc lo (st) h := by
  intro p e R s m args below meth c X f1 f2 f3 f4 H locs cells slots ls hH hS h1 h2 hL
  subst hp
  exact lv_aload X.1 X.2.1 hd (hL.2.2 _ _ hl (by simp [pv_U])) (k p e R s m args below meth c X f1 f2 f3 f4 H locs cells slots ls hH hS h1 h2 hL)
def pv_st (lo : List Value) (i : Nat) (v : Value) : List Value := match i with
  | 0 => lo.set 0 v
  | j + 1 => match lo[j]? with
    | some (.long _) => (lo.set j pv_U).set (j + 1) v
    | _ => lo.set (j + 1) v
def pv_st2 (lo : List Value) (i : Nat) (v : Value) : List Value := (pv_st lo i v).set (i + 1) pv_U
def pv_al (b : Nat) (lo : List Value) : List (Nat × Value) := (lo.mapIdx (fun k v => (k, v))).filterMap (fun q => if q.2 = pv_U then none else some (q.1, pv_lf b q.2))
theorem pv_al_mem {b : Nat} {lo : List Value} {i : Nat} {v : Value} (h : lo[i]? = some v) (hv : v ≠ pv_U) : (i, pv_lf b v) ∈ pv_al b lo := by
  refine List.mem_filterMap.mpr ⟨(i, v), List.mem_of_getElem? (i := i) (by simp [List.getElem?_mapIdx, h]), by simp [hv]⟩
theorem pv_al_of {b : Nat} {lo : List Value} {i : Nat} {w : Value} (h : (i, w) ∈ pv_al b lo) : ∃ v, lo[i]? = some v ∧ v ≠ pv_U ∧ w = pv_lf b v := by
  obtain ⟨⟨j, v⟩, hj, he⟩ := List.mem_filterMap.mp h
  obtain ⟨k, hk⟩ := List.getElem?_of_mem hj
  simp only [List.getElem?_mapIdx] at hk
  cases hc : lo[k]? with
  | none => simp [hc] at hk
  | some u =>
    simp [hc] at hk
    obtain ⟨e1, e2⟩ := hk
    subst e1; subst e2
    by_cases q : u = pv_U
    · simp [q] at he
    · simp [q] at he
      obtain ⟨e1, e2⟩ := he
      subst e1
      exact ⟨u, hc, q, e2.symm⟩
theorem pv_has {b nL : Nat} {ls : Array Slot} {lo : List Value} (h : pv_L b ls nL lo) : lv_has ls nL (pv_al b lo) := by
  refine ⟨h.1, h.2.1, fun q hq => ?_⟩
  obtain ⟨i, w⟩ := q
  obtain ⟨v, e1, e2, e3⟩ := pv_al_of hq
  rw [e3]
  exact h.2.2 i v e1 e2
theorem pv_st_get {lo : List Value} {i j : Nat} {v w : Value} (h : (pv_st lo i v)[j]? = some w) (hw : w ≠ pv_U) : (j = i ∧ w = v) ∨ (j ≠ i ∧ lo[j]? = some w ∧ ¬ (j + 1 = i ∧ w.category = 2 ∧ ∃ x, w = .long x)) := by
  unfold pv_st at h
  match i with
  | 0 =>
    simp only [List.getElem?_set] at h
    by_cases q : 0 = j
    · subst q; simp at h; exact Or.inl ⟨rfl, h.2.symm⟩
    · simp [q] at h; exact Or.inr ⟨fun e => q e.symm, h, fun e => by omega⟩
  | i + 1 =>
    simp only at h
    split at h
    · rename_i u hu
      simp only [List.getElem?_set] at h
      by_cases q : i + 1 = j
      · subst q; simp at h; exact Or.inl ⟨rfl, h.2.symm⟩
      · simp only [q, if_false] at h
        by_cases q2 : i = j
        · subst q2; simp at h; exact absurd h.2.symm hw
        · simp [q2] at h; exact Or.inr ⟨fun e => q e.symm, h, fun e => q2 (by omega)⟩
    · rename_i hu
      simp only [List.getElem?_set] at h
      by_cases q : i + 1 = j
      · subst q; simp at h; exact Or.inl ⟨rfl, h.2.symm⟩
      · simp [q] at h
        refine Or.inr ⟨fun e => q e.symm, h, fun e => ?_⟩
        obtain ⟨e1, -, x, e3⟩ := e
        have e4 : j = i := by omega
        subst e4; subst e3
        exact hu x h
theorem pv_dbl {b nL : Nat} {ls : Array Slot} {lo : List Value} (hd : ∀ (i : Nat) (x : UInt64), lo[i]? ≠ some (.double x)) (h : pv_L b ls nL lo) : True := trivial
/-- the locals behind a store of one slot -/
theorem pv_L1 {b nL i : Nat} {ls' : Array Slot} {lo : List Value} {v : Value} (hnd : ∀ (j : Nat) (x : UInt64), lo[j]? ≠ some (.double x)) (h : lv_has ls' nL ((i, pv_lf b v) :: (pv_al b lo).filter (fun q => !(q.1 == i) && !(q.1 + 1 == i && q.2.category == 2)))) : pv_L b ls' nL (pv_st lo i v) := by
  refine ⟨h.1, h.2.1, fun j w hj hw => ?_⟩
  rcases pv_st_get hj hw with ⟨e1, e2⟩ | ⟨e1, e2, e3⟩
  · subst e1; subst e2; exact h.2.2 _ List.mem_cons_self
  · refine h.2.2 (j, pv_lf b w) (List.mem_cons_of_mem _ (List.mem_filter.mpr ⟨pv_al_mem e2 hw, ?_⟩))
    have e4 : ¬ (j + 1 = i ∧ w.category = 2) := fun q => e3 ⟨q.1, q.2, by
      cases w with
      | long x => exact ⟨x, rfl⟩
      | double x => exact absurd e2 (hnd j x)
      | _ => exact absurd q.2 (by simp [Value.category])⟩
    simp only [pv_lf_cat]
    by_cases q : j + 1 = i
    · have q2 : ¬ w.category = 2 := fun z => e4 ⟨q, z⟩
      simp [e1, q2]
    · simp [e1, q]
theorem pv_L2 {b nL i : Nat} {ls' : Array Slot} {lo : List Value} {v : Value} (hnd : ∀ (j : Nat) (x : UInt64), lo[j]? ≠ some (.double x)) (h : lv_has ls' nL ((i, pv_lf b v) :: (pv_al b lo).filter (fun q => !(q.1 == i) && (!(q.1 == i + 1) && !(q.1 + 1 == i && q.2.category == 2))))) : pv_L b ls' nL (pv_st2 lo i v) := by
  refine ⟨h.1, h.2.1, fun j w hj hw => ?_⟩
  unfold pv_st2 at hj
  rw [List.getElem?_set] at hj
  by_cases q0 : i + 1 = j
  · subst q0; simp at hj; exact absurd hj.2.symm hw
  · simp only [q0, if_false] at hj
    rcases pv_st_get hj hw with ⟨e1, e2⟩ | ⟨e1, e2, e3⟩
    · subst e1; subst e2; exact h.2.2 _ List.mem_cons_self
    · refine h.2.2 (j, pv_lf b w) (List.mem_cons_of_mem _ (List.mem_filter.mpr ⟨pv_al_mem e2 hw, ?_⟩))
      have e4 : ¬ (j + 1 = i ∧ w.category = 2) := fun q => e3 ⟨q.1, q.2, by
        cases w with
        | long x => exact ⟨x, rfl⟩
        | double x => exact absurd e2 (hnd j x)
        | _ => exact absurd q.2 (by simp [Value.category])⟩
      have q1 : ¬ j = i + 1 := fun z => q0 z.symm
      simp only [pv_lf_cat]
      by_cases q : j + 1 = i
      · have q2 : ¬ w.category = 2 := fun z => e4 ⟨q, z⟩
        simp [e1, q1, q2]
      · simp [e1, q1, q]
/-- no double stands in the locals: computed -/
def pv_nd (lo : List Value) : Bool := lo.all (fun v => match v with | .double _ => false | _ => true)
theorem pv_nd_of {lo : List Value} (h : pv_nd lo = true) : ∀ (j : Nat) (x : UInt64), lo[j]? ≠ some (.double x) := fun j x e => by
  have := List.all_eq_true.mp h _ (List.mem_of_getElem? e)
  simp at this
theorem pv_istore_n {sc : pv_S} {g : pv_G} {M : pv_M} {Q : Option Value → List pv_C → Prop} {dp kc ks pc : Nat} {lo st : List Value} {h : List pv_C} {n : Fin 4} (i : Nat) {x : Int32} {lo2 : List Value} (hd : decode M.2.2.1 pc = .ok (.istore_n n, 1)) (n0 : Nat) (hp : pc + 1 = n0) (hi : (n : Nat) = i) (hn : i < M.2.2.2.1) (hnd : pv_nd lo = true) (hlo : pv_st lo i (.int x) = lo2) (k : PV sc g M Q dp kc ks n0 lo2 (st) h) : PV sc g M Q dp kc ks pc lo (.int x :: st) h := by
  intro p e R s m args below meth c X f1 f2 f3 f4 H locs cells slots ls hH hS h1 h2 hL
  subst hp
  exact lv_istore_n X.1 X.2.1 hd hi (pv_has hL) hn rfl (fun ls hl => k p e R s m args below meth c X f1 f2 f3 f4 H locs cells slots ls hH hS h1 h2 (hlo ▸ pv_L1 (pv_nd_of hnd) hl))
theorem pv_istore {sc : pv_S} {g : pv_G} {M : pv_M} {Q : Option Value → List pv_C → Prop} {dp kc ks pc : Nat} {lo st : List Value} {h : List pv_C} {i : Nat} {x : Int32} {lo2 : List Value} (hd : decode M.2.2.1 pc = .ok (.istore i, 2)) (n0 : Nat) (hp : pc + 2 = n0) (hn : i < M.2.2.2.1) (hnd : pv_nd lo = true) (hlo : pv_st lo i (.int x) = lo2) (k : PV sc g M Q dp kc ks n0 lo2 (st) h) : PV sc g M Q dp kc ks pc lo (.int x :: st) h := by
  intro p e R s m args below meth c X f1 f2 f3 f4 H locs cells slots ls hH hS h1 h2 hL
  subst hp
  exact lv_istore X.1 X.2.1 hd (pv_has hL) hn rfl (fun ls hl => k p e R s m args below meth c X f1 f2 f3 f4 H locs cells slots ls hH hS h1 h2 (hlo ▸ pv_L1 (pv_nd_of hnd) hl))
theorem pv_astore_n {sc : pv_S} {g : pv_G} {M : pv_M} {Q : Option Value → List pv_C → Prop} {dp kc ks pc : Nat} {lo st : List Value} {h : List pv_C} {n : Fin 4} (i : Nat) {x : Nat} {lo2 : List Value} (hd : decode M.2.2.1 pc = .ok (.astore_n n, 1)) (n0 : Nat) (hp : pc + 1 = n0) (hi : (n : Nat) = i) (hn : i < M.2.2.2.1) (hnd : pv_nd lo = true) (hlo : pv_st lo i (.ref x) = lo2) (k : PV sc g M Q dp kc ks n0 lo2 (st) h) : PV sc g M Q dp kc ks pc lo (.ref x :: st) h := by
  intro p e R s m args below meth c X f1 f2 f3 f4 H locs cells slots ls hH hS h1 h2 hL
  subst hp
  exact lv_astore_n X.1 X.2.1 hd hi (pv_has hL) hn rfl (fun ls hl => k p e R s m args below meth c X f1 f2 f3 f4 H locs cells slots ls hH hS h1 h2 (hlo ▸ pv_L1 (pv_nd_of hnd) hl))
theorem pv_astore {sc : pv_S} {g : pv_G} {M : pv_M} {Q : Option Value → List pv_C → Prop} {dp kc ks pc : Nat} {lo st : List Value} {h : List pv_C} {i : Nat} {x : Nat} {lo2 : List Value} (hd : decode M.2.2.1 pc = .ok (.astore i, 2)) (n0 : Nat) (hp : pc + 2 = n0) (hn : i < M.2.2.2.1) (hnd : pv_nd lo = true) (hlo : pv_st lo i (.ref x) = lo2) (k : PV sc g M Q dp kc ks n0 lo2 (st) h) : PV sc g M Q dp kc ks pc lo (.ref x :: st) h := by
  intro p e R s m args below meth c X f1 f2 f3 f4 H locs cells slots ls hH hS h1 h2 hL
  subst hp
  exact lv_astore X.1 X.2.1 hd (pv_has hL) hn rfl (fun ls hl => k p e R s m args below meth c X f1 f2 f3 f4 H locs cells slots ls hH hS h1 h2 (hlo ▸ pv_L1 (pv_nd_of hnd) hl))
theorem pv_lstore_n {sc : pv_S} {g : pv_G} {M : pv_M} {Q : Option Value → List pv_C → Prop} {dp kc ks pc : Nat} {lo st : List Value} {h : List pv_C} {n : Fin 4} (i : Nat) {x : Int64} {lo2 : List Value} (hd : decode M.2.2.1 pc = .ok (.lstore_n n, 1)) (n0 : Nat) (hp : pc + 1 = n0) (hi : (n : Nat) = i) (hn : i + 1 < M.2.2.2.1) (hnd : pv_nd lo = true) (hlo : pv_st2 lo i (.long x) = lo2) (k : PV sc g M Q dp kc ks n0 lo2 (st) h) : PV sc g M Q dp kc ks pc lo (.long x :: st) h := by
  intro p e R s m args below meth c X f1 f2 f3 f4 H locs cells slots ls hH hS h1 h2 hL
  subst hp
  exact lv_lstore_n X.1 X.2.1 hd hi (pv_has hL) hn rfl (fun ls hl => k p e R s m args below meth c X f1 f2 f3 f4 H locs cells slots ls hH hS h1 h2 (hlo ▸ pv_L2 (pv_nd_of hnd) hl))
theorem pv_lstore {sc : pv_S} {g : pv_G} {M : pv_M} {Q : Option Value → List pv_C → Prop} {dp kc ks pc : Nat} {lo st : List Value} {h : List pv_C} {i : Nat} {x : Int64} {lo2 : List Value} (hd : decode M.2.2.1 pc = .ok (.lstore i, 2)) (n0 : Nat) (hp : pc + 2 = n0) (hn : i + 1 < M.2.2.2.1) (hnd : pv_nd lo = true) (hlo : pv_st2 lo i (.long x) = lo2) (k : PV sc g M Q dp kc ks n0 lo2 (st) h) : PV sc g M Q dp kc ks pc lo (.long x :: st) h := by
  intro p e R s m args below meth c X f1 f2 f3 f4 H locs cells slots ls hH hS h1 h2 hL
  subst hp
  exact lv_lstore X.1 X.2.1 hd (pv_has hL) hn rfl (fun ls hl => k p e R s m args below meth c X f1 f2 f3 f4 H locs cells slots ls hH hS h1 h2 (hlo ▸ pv_L2 (pv_nd_of hnd) hl))
theorem pv_iinc {sc : pv_S} {g : pv_G} {M : pv_M} {Q : Option Value → List pv_C → Prop} {dp kc ks pc : Nat} {lo st : List Value} {h : List pv_C} {i : Nat} {n : Int} {x v : Int32} {lo2 : List Value} (hd : decode M.2.2.1 pc = .ok (.iinc i n, 3)) (n0 : Nat) (hp : pc + 3 = n0) (hl : lo[i]? = some (.int x)) (hv : x + Int32.ofInt n = v) (hn : i < M.2.2.2.1) (hnd : pv_nd lo = true) (hlo : pv_st lo i (.int v) = lo2) (k : PV sc g M Q dp kc ks n0 lo2 (st) h) : PV sc g M Q dp kc ks pc lo (st) h := by
  intro p e R s m args below meth c X f1 f2 f3 f4 H locs cells slots ls hH hS h1 h2 hL
  subst hp
  obtain ⟨j, hj⟩ := List.getElem?_of_mem (pv_al_mem (b := g.2.2.2) hl (by simp [pv_U]))
  exact lv_iinc X.1 X.2.1 hd (pv_has hL) hj hv hn rfl (fun ls hl => k p e R s m args below meth c X f1 f2 f3 f4 H locs cells slots ls hH hS h1 h2 (hlo ▸ pv_L1 (pv_nd_of hnd) hl))
theorem pv_iadd {sc : pv_S} {g : pv_G} {M : pv_M} {Q : Option Value → List pv_C → Prop} {dp kc ks pc : Nat} {lo st : List Value} {h : List pv_C} {x y : Int32} {v : Int32} (hd : decode M.2.2.1 pc = .ok (.iadd, 1)) (n0 : Nat) (hp : pc + 1 = n0) (hv : x + y = v) (k : PV sc g M Q dp kc ks n0 lo (.int v :: st) h) : PV sc g M Q dp kc ks pc lo (.int y :: .int x :: st) h := by
  intro p e R s m args below meth c X f1 f2 f3 f4 H locs cells slots ls hH hS h1 h2 hL
  subst hp
  subst hv
  exact lv_iadd X.1 X.2.1 hd (k p e R s m args below meth c X f1 f2 f3 f4 H locs cells slots ls hH hS h1 h2 hL)
theorem pv_isub {sc : pv_S} {g : pv_G} {M : pv_M} {Q : Option Value → List pv_C → Prop} {dp kc ks pc : Nat} {lo st : List Value} {h : List pv_C} {x y : Int32} {v : Int32} (hd : decode M.2.2.1 pc = .ok (.isub, 1)) (n0 : Nat) (hp : pc + 1 = n0) (hv : x - y = v) (k : PV sc g M Q dp kc ks n0 lo (.int v :: st) h) : PV sc g M Q dp kc ks pc lo (.int y :: .int x :: st) h := by
  intro p e R s m args below meth c X f1 f2 f3 f4 H locs cells slots ls hH hS h1 h2 hL
  subst hp
  subst hv
  exact lv_isub X.1 X.2.1 hd (k p e R s m args below meth c X f1 f2 f3 f4 H locs cells slots ls hH hS h1 h2 hL)
theorem pv_imul {sc : pv_S} {g : pv_G} {M : pv_M} {Q : Option Value → List pv_C → Prop} {dp kc ks pc : Nat} {lo st : List Value} {h : List pv_C} {x y : Int32} {v : Int32} (hd : decode M.2.2.1 pc = .ok (.imul, 1)) (n0 : Nat) (hp : pc + 1 = n0) (hv : x * y = v) (k : PV sc g M Q dp kc ks n0 lo (.int v :: st) h) : PV sc g M Q dp kc ks pc lo (.int y :: .int x :: st) h := by
  intro p e R s m args below meth c X f1 f2 f3 f4 H locs cells slots ls hH hS h1 h2 hL
  subst hp
  subst hv
  exact lv_imul X.1 X.2.1 hd (k p e R s m args below meth c X f1 f2 f3 f4 H locs cells slots ls hH hS h1 h2 hL)
theorem pv_iand {sc : pv_S} {g : pv_G} {M : pv_M} {Q : Option Value → List pv_C → Prop} {dp kc ks pc : Nat} {lo st : List Value} {h : List pv_C} {x y : Int32} {v : Int32} (hd : decode M.2.2.1 pc = .ok (.iand, 1)) (n0 : Nat) (hp : pc + 1 = n0) (hv : x &&& y = v) (k : PV sc g M Q dp kc ks n0 lo (.int v :: st) h) : PV sc g M Q dp kc ks pc lo (.int y :: .int x :: st) h := by
  intro p e R s m args below meth c X f1 f2 f3 f4 H locs cells slots ls hH hS h1 h2 hL
  subst hp
  subst hv
  exact lv_iand X.1 X.2.1 hd (k p e R s m args below meth c X f1 f2 f3 f4 H locs cells slots ls hH hS h1 h2 hL)
theorem pv_ior {sc : pv_S} {g : pv_G} {M : pv_M} {Q : Option Value → List pv_C → Prop} {dp kc ks pc : Nat} {lo st : List Value} {h : List pv_C} {x y : Int32} {v : Int32} (hd : decode M.2.2.1 pc = .ok (.ior, 1)) (n0 : Nat) (hp : pc + 1 = n0) (hv : x ||| y = v) (k : PV sc g M Q dp kc ks n0 lo (.int v :: st) h) : PV sc g M Q dp kc ks pc lo (.int y :: .int x :: st) h := by
  intro p e R s m args below meth c X f1 f2 f3 f4 H locs cells slots ls hH hS h1 h2 hL
  subst hp
  subst hv
  exact lv_ior X.1 X.2.1 hd (k p e R s m args below meth c X f1 f2 f3 f4 H locs cells slots ls hH hS h1 h2 hL)
theorem pv_ixor {sc : pv_S} {g : pv_G} {M : pv_M} {Q : Option Value → List pv_C → Prop} {dp kc ks pc : Nat} {lo st : List Value} {h : List pv_C} {x y : Int32} {v : Int32} (hd : decode M.2.2.1 pc = .ok (.ixor, 1)) (n0 : Nat) (hp : pc + 1 = n0) (hv : x ^^^ y = v) (k : PV sc g M Q dp kc ks n0 lo (.int v :: st) h) : PV sc g M Q dp kc ks pc lo (.int y :: .int x :: st) h := by
  intro p e R s m args below meth c X f1 f2 f3 f4 H locs cells slots ls hH hS h1 h2 hL
  subst hp
  subst hv
  exact lv_ixor X.1 X.2.1 hd (k p e R s m args below meth c X f1 f2 f3 f4 H locs cells slots ls hH hS h1 h2 hL)
theorem pv_ishl {sc : pv_S} {g : pv_G} {M : pv_M} {Q : Option Value → List pv_C → Prop} {dp kc ks pc : Nat} {lo st : List Value} {h : List pv_C} {x y : Int32} {v : Int32} (hd : decode M.2.2.1 pc = .ok (.ishl, 1)) (n0 : Nat) (hp : pc + 1 = n0) (hv : x <<< (y &&& 31) = v) (k : PV sc g M Q dp kc ks n0 lo (.int v :: st) h) : PV sc g M Q dp kc ks pc lo (.int y :: .int x :: st) h := by
  intro p e R s m args below meth c X f1 f2 f3 f4 H locs cells slots ls hH hS h1 h2 hL
  subst hp
  subst hv
  exact lv_ishl X.1 X.2.1 hd (k p e R s m args below meth c X f1 f2 f3 f4 H locs cells slots ls hH hS h1 h2 hL)
theorem pv_ishr {sc : pv_S} {g : pv_G} {M : pv_M} {Q : Option Value → List pv_C → Prop} {dp kc ks pc : Nat} {lo st : List Value} {h : List pv_C} {x y : Int32} {v : Int32} (hd : decode M.2.2.1 pc = .ok (.ishr, 1)) (n0 : Nat) (hp : pc + 1 = n0) (hv : x >>> (y &&& 31) = v) (k : PV sc g M Q dp kc ks n0 lo (.int v :: st) h) : PV sc g M Q dp kc ks pc lo (.int y :: .int x :: st) h := by
  intro p e R s m args below meth c X f1 f2 f3 f4 H locs cells slots ls hH hS h1 h2 hL
  subst hp
  subst hv
  exact lv_ishr X.1 X.2.1 hd (k p e R s m args below meth c X f1 f2 f3 f4 H locs cells slots ls hH hS h1 h2 hL)
theorem pv_idiv {sc : pv_S} {g : pv_G} {M : pv_M} {Q : Option Value → List pv_C → Prop} {dp kc ks pc : Nat} {lo st : List Value} {h : List pv_C} {x y : Int32} {v : Int32} (hd : decode M.2.2.1 pc = .ok (.idiv, 1)) (n0 : Nat) (hp : pc + 1 = n0) (hne : ¬ y = 0) (hv : x / y = v) (k : PV sc g M Q dp kc ks n0 lo (.int v :: st) h) : PV sc g M Q dp kc ks pc lo (.int y :: .int x :: st) h := by
  intro p e R s m args below meth c X f1 f2 f3 f4 H locs cells slots ls hH hS h1 h2 hL
  subst hp
  subst hv
  exact lv_idiv X.1 X.2.1 hd hne (k p e R s m args below meth c X f1 f2 f3 f4 H locs cells slots ls hH hS h1 h2 hL)
theorem pv_irem {sc : pv_S} {g : pv_G} {M : pv_M} {Q : Option Value → List pv_C → Prop} {dp kc ks pc : Nat} {lo st : List Value} {h : List pv_C} {x y : Int32} {v : Int32} (hd : decode M.2.2.1 pc = .ok (.irem, 1)) (n0 : Nat) (hp : pc + 1 = n0) (hne : ¬ y = 0) (hv : x - x / y * y = v) (k : PV sc g M Q dp kc ks n0 lo (.int v :: st) h) : PV sc g M Q dp kc ks pc lo (.int y :: .int x :: st) h := by
  intro p e R s m args below meth c X f1 f2 f3 f4 H locs cells slots ls hH hS h1 h2 hL
  subst hp
  subst hv
  exact lv_irem X.1 X.2.1 hd hne (k p e R s m args below meth c X f1 f2 f3 f4 H locs cells slots ls hH hS h1 h2 hL)
theorem pv_ineg {sc : pv_S} {g : pv_G} {M : pv_M} {Q : Option Value → List pv_C → Prop} {dp kc ks pc : Nat} {lo st : List Value} {h : List pv_C} {x : Int32} {v : Int32} (hd : decode M.2.2.1 pc = .ok (.ineg, 1)) (n0 : Nat) (hp : pc + 1 = n0) (hv : -x = v) (k : PV sc g M Q dp kc ks n0 lo (.int v :: st) h) : PV sc g M Q dp kc ks pc lo (.int x :: st) h := by
  intro p e R s m args below meth c X f1 f2 f3 f4 H locs cells slots ls hH hS h1 h2 hL
  subst hp
  subst hv
  exact lv_ineg X.1 X.2.1 hd (k p e R s m args below meth c X f1 f2 f3 f4 H locs cells slots ls hH hS h1 h2 hL)
theorem pv_iushr {sc : pv_S} {g : pv_G} {M : pv_M} {Q : Option Value → List pv_C → Prop} {dp kc ks pc : Nat} {lo st : List Value} {h : List pv_C} {x y : Int32} {v : Int32} (hd : decode M.2.2.1 pc = .ok (.iushr, 1)) (n0 : Nat) (hp : pc + 1 = n0) (hv : (x.toUInt32 >>> (y.toUInt32 &&& Int32.toUInt32 31)).toInt32 = v) (k : PV sc g M Q dp kc ks n0 lo (.int v :: st) h) : PV sc g M Q dp kc ks pc lo (.int y :: .int x :: st) h := by
  intro p e R s m args below meth c X f1 f2 f3 f4 H locs cells slots ls hH hS h1 h2 hL
  subst hp
  subst hv
  exact lv_iushr X.1 X.2.1 hd rfl (k p e R s m args below meth c X f1 f2 f3 f4 H locs cells slots ls hH hS h1 h2 hL)
theorem pv_ladd {sc : pv_S} {g : pv_G} {M : pv_M} {Q : Option Value → List pv_C → Prop} {dp kc ks pc : Nat} {lo st : List Value} {h : List pv_C} {x y : Int64} {v : Int64} (hd : decode M.2.2.1 pc = .ok (.ladd, 1)) (n0 : Nat) (hp : pc + 1 = n0) (hv : x + y = v) (k : PV sc g M Q dp kc ks n0 lo (.long v :: st) h) : PV sc g M Q dp kc ks pc lo (.long y :: .long x :: st) h := by
  intro p e R s m args below meth c X f1 f2 f3 f4 H locs cells slots ls hH hS h1 h2 hL
  subst hp
  subst hv
  exact lv_ladd X.1 X.2.1 hd (k p e R s m args below meth c X f1 f2 f3 f4 H locs cells slots ls hH hS h1 h2 hL)
theorem pv_lor {sc : pv_S} {g : pv_G} {M : pv_M} {Q : Option Value → List pv_C → Prop} {dp kc ks pc : Nat} {lo st : List Value} {h : List pv_C} {x y : Int64} {v : Int64} (hd : decode M.2.2.1 pc = .ok (.lor, 1)) (n0 : Nat) (hp : pc + 1 = n0) (hv : x ||| y = v) (k : PV sc g M Q dp kc ks n0 lo (.long v :: st) h) : PV sc g M Q dp kc ks pc lo (.long y :: .long x :: st) h := by
  intro p e R s m args below meth c X f1 f2 f3 f4 H locs cells slots ls hH hS h1 h2 hL
  subst hp
  subst hv
  exact lv_lor X.1 X.2.1 hd (k p e R s m args below meth c X f1 f2 f3 f4 H locs cells slots ls hH hS h1 h2 hL)
theorem pv_lsub {sc : pv_S} {g : pv_G} {M : pv_M} {Q : Option Value → List pv_C → Prop} {dp kc ks pc : Nat} {lo st : List Value} {h : List pv_C} {x y : Int64} {v : Int64} (hd : decode M.2.2.1 pc = .ok (.lsub, 1)) (n0 : Nat) (hp : pc + 1 = n0) (hv : x - y = v) (k : PV sc g M Q dp kc ks n0 lo (.long v :: st) h) : PV sc g M Q dp kc ks pc lo (.long y :: .long x :: st) h := by
  intro p e R s m args below meth c X f1 f2 f3 f4 H locs cells slots ls hH hS h1 h2 hL
  subst hp
  subst hv
  exact lv_lsub X.1 X.2.1 hd (k p e R s m args below meth c X f1 f2 f3 f4 H locs cells slots ls hH hS h1 h2 hL)
theorem pv_lshl {sc : pv_S} {g : pv_G} {M : pv_M} {Q : Option Value → List pv_C → Prop} {dp kc ks pc : Nat} {lo st : List Value} {h : List pv_C} {x : Int64} {y : Int32} {v : Int64} (hd : decode M.2.2.1 pc = .ok (.lshl, 1)) (n0 : Nat) (hp : pc + 1 = n0) (hv : x <<< (y.toInt64 &&& 63) = v) (k : PV sc g M Q dp kc ks n0 lo (.long v :: st) h) : PV sc g M Q dp kc ks pc lo (.int y :: .long x :: st) h := by
  intro p e R s m args below meth c X f1 f2 f3 f4 H locs cells slots ls hH hS h1 h2 hL
  subst hp
  subst hv
  exact lv_lshl X.1 X.2.1 hd rfl (k p e R s m args below meth c X f1 f2 f3 f4 H locs cells slots ls hH hS h1 h2 hL)
theorem pv_lcmp {sc : pv_S} {g : pv_G} {M : pv_M} {Q : Option Value → List pv_C → Prop} {dp kc ks pc : Nat} {lo st : List Value} {h : List pv_C} {x y : Int64} {v : Int32} (hd : decode M.2.2.1 pc = .ok (.lcmp, 1)) (n0 : Nat) (hp : pc + 1 = n0) (hv : lg_cmp x y = v) (k : PV sc g M Q dp kc ks n0 lo (.int v :: st) h) : PV sc g M Q dp kc ks pc lo (.long y :: .long x :: st) h := by
  intro p e R s m args below meth c X f1 f2 f3 f4 H locs cells slots ls hH hS h1 h2 hL
  subst hp
  subst hv
  exact W.lcmp X.1 X.2.1 hd (k p e R s m args below meth c X f1 f2 f3 f4 H locs cells slots ls hH hS h1 h2 hL)
theorem pv_i2l {sc : pv_S} {g : pv_G} {M : pv_M} {Q : Option Value → List pv_C → Prop} {dp kc ks pc : Nat} {lo st : List Value} {h : List pv_C} {x : Int32} {v : Int64} (hd : decode M.2.2.1 pc = .ok (.i2l, 1)) (n0 : Nat) (hp : pc + 1 = n0) (hv : x.toInt64 = v) (k : PV sc g M Q dp kc ks n0 lo (.long v :: st) h) : PV sc g M Q dp kc ks pc lo (.int x :: st) h := by
  intro p e R s m args below meth c X f1 f2 f3 f4 H locs cells slots ls hH hS h1 h2 hL
  subst hp
  subst hv
  exact lv_i2l X.1 X.2.1 hd rfl (k p e R s m args below meth c X f1 f2 f3 f4 H locs cells slots ls hH hS h1 h2 hL)
theorem pv_i2b {sc : pv_S} {g : pv_G} {M : pv_M} {Q : Option Value → List pv_C → Prop} {dp kc ks pc : Nat} {lo st : List Value} {h : List pv_C} {x : Int32} {v : Int32} (hd : decode M.2.2.1 pc = .ok (.i2b, 1)) (n0 : Nat) (hp : pc + 1 = n0) (hv : x.toInt8.toInt32 = v) (k : PV sc g M Q dp kc ks n0 lo (.int v :: st) h) : PV sc g M Q dp kc ks pc lo (.int x :: st) h := by
  intro p e R s m args below meth c X f1 f2 f3 f4 H locs cells slots ls hH hS h1 h2 hL
  subst hp
  subst hv
  exact lv_i2b X.1 X.2.1 hd rfl (k p e R s m args below meth c X f1 f2 f3 f4 H locs cells slots ls hH hS h1 h2 hL)
theorem pv_i2c {sc : pv_S} {g : pv_G} {M : pv_M} {Q : Option Value → List pv_C → Prop} {dp kc ks pc : Nat} {lo st : List Value} {h : List pv_C} {x : Int32} {v : Int32} (hd : decode M.2.2.1 pc = .ok (.i2c, 1)) (n0 : Nat) (hp : pc + 1 = n0) (hv : (x.toUInt32 % 65536).toInt32 = v) (k : PV sc g M Q dp kc ks n0 lo (.int v :: st) h) : PV sc g M Q dp kc ks pc lo (.int x :: st) h := by
  intro p e R s m args below meth c X f1 f2 f3 f4 H locs cells slots ls hH hS h1 h2 hL
  subst hp
  subst hv
  exact lv_i2c X.1 X.2.1 hd rfl (k p e R s m args below meth c X f1 f2 f3 f4 H locs cells slots ls hH hS h1 h2 hL)
theorem pv_dup {sc : pv_S} {g : pv_G} {M : pv_M} {Q : Option Value → List pv_C → Prop} {dp kc ks pc : Nat} {lo st : List Value} {h : List pv_C} {v : Value} (hd : decode M.2.2.1 pc = .ok (.dup, 1)) (n0 : Nat) (hp : pc + 1 = n0) (hv : v.category = 1) (k : PV sc g M Q dp kc ks n0 lo (v :: v :: st) h) : PV sc g M Q dp kc ks pc lo (v :: st) h := by
  intro p e R s m args below meth c X f1 f2 f3 f4 H locs cells slots ls hH hS h1 h2 hL
  subst hp
  exact lv_dup X.1 X.2.1 hd ((pv_lf_cat _ v).trans hv) (k p e R s m args below meth c X f1 f2 f3 f4 H locs cells slots ls hH hS h1 h2 hL)
theorem pv_pop {sc : pv_S} {g : pv_G} {M : pv_M} {Q : Option Value → List pv_C → Prop} {dp kc ks pc : Nat} {lo st : List Value} {h : List pv_C} {v : Value} (hd : decode M.2.2.1 pc = .ok (.pop, 1)) (n0 : Nat) (hp : pc + 1 = n0) (hv : v.category = 1) (k : PV sc g M Q dp kc ks n0 lo (st) h) : PV sc g M Q dp kc ks pc lo (v :: st) h := by
  intro p e R s m args below meth c X f1 f2 f3 f4 H locs cells slots ls hH hS h1 h2 hL
  subst hp
  exact lv_pop X.1 X.2.1 hd ((pv_lf_cat _ v).trans hv) (k p e R s m args below meth c X f1 f2 f3 f4 H locs cells slots ls hH hS h1 h2 hL)
theorem pv_pop2 {sc : pv_S} {g : pv_G} {M : pv_M} {Q : Option Value → List pv_C → Prop} {dp kc ks pc : Nat} {lo st : List Value} {h : List pv_C} {v : Value} (hd : decode M.2.2.1 pc = .ok (.pop2, 1)) (n0 : Nat) (hp : pc + 1 = n0) (hv : v.category = 2) (k : PV sc g M Q dp kc ks n0 lo (st) h) : PV sc g M Q dp kc ks pc lo (v :: st) h := by
  intro p e R s m args below meth c X f1 f2 f3 f4 H locs cells slots ls hH hS h1 h2 hL
  subst hp
  exact lv_pop2_2 X.1 X.2.1 hd ((pv_lf_cat _ v).trans hv) (k p e R s m args below meth c X f1 f2 f3 f4 H locs cells slots ls hH hS h1 h2 hL)
theorem pv_dup2 {sc : pv_S} {g : pv_G} {M : pv_M} {Q : Option Value → List pv_C → Prop} {dp kc ks pc : Nat} {lo st : List Value} {h : List pv_C} {v w : Value} (hd : decode M.2.2.1 pc = .ok (.dup2, 1)) (n0 : Nat) (hp : pc + 1 = n0) (hv : v.category = 1) (hw : w.category = 1) (k : PV sc g M Q dp kc ks n0 lo (v :: w :: v :: w :: st) h) : PV sc g M Q dp kc ks pc lo (v :: w :: st) h := by
  intro p e R s m args below meth c X f1 f2 f3 f4 H locs cells slots ls hH hS h1 h2 hL
  subst hp
  exact lv_dup2_11 X.1 X.2.1 hd ((pv_lf_cat _ v).trans hv) ((pv_lf_cat _ w).trans hw) (k p e R s m args below meth c X f1 f2 f3 f4 H locs cells slots ls hH hS h1 h2 hL)
theorem pv_if_eq {sc : pv_S} {g : pv_G} {M : pv_M} {Q : Option Value → List pv_C → Prop} {dp kc ks pc : Nat} {lo st : List Value} {h : List pv_C} {x : Int32} {off : Int} {tgt : Nat} (hd : decode M.2.2.1 pc = .ok (.ifCond .eq off, 3)) (n0 : Nat) (hp : pc + 3 = n0) (ht : (pc : Int) + off = (tgt : Int)) (kt : x = 0 → PV sc g M Q dp kc ks tgt lo (st) h) (kf : ¬ x = 0 → PV sc g M Q dp kc ks n0 lo (st) h) : PV sc g M Q dp kc ks pc lo (.int x :: st) h := by
  intro p e R s m args below meth c X f1 f2 f3 f4 H locs cells slots ls hH hS h1 h2 hL
  subst hp
  exact lv_if_eq X.1 X.2.1 hd ht (fun q => kt q p e R s m args below meth c X f1 f2 f3 f4 H locs cells slots ls hH hS h1 h2 hL) (fun q => kf q p e R s m args below meth c X f1 f2 f3 f4 H locs cells slots ls hH hS h1 h2 hL)
theorem pv_icmp_eq {sc : pv_S} {g : pv_G} {M : pv_M} {Q : Option Value → List pv_C → Prop} {dp kc ks pc : Nat} {lo st : List Value} {h : List pv_C} {x y : Int32} {off : Int} {tgt : Nat} (hd : decode M.2.2.1 pc = .ok (.if_icmp .eq off, 3)) (n0 : Nat) (hp : pc + 3 = n0) (ht : (pc : Int) + off = (tgt : Int)) (kt : x = y → PV sc g M Q dp kc ks tgt lo (st) h) (kf : ¬ x = y → PV sc g M Q dp kc ks n0 lo (st) h) : PV sc g M Q dp kc ks pc lo (.int y :: .int x :: st) h := by
  intro p e R s m args below meth c X f1 f2 f3 f4 H locs cells slots ls hH hS h1 h2 hL
  subst hp
  exact lv_icmp_eq X.1 X.2.1 hd ht (fun q => kt q p e R s m args below meth c X f1 f2 f3 f4 H locs cells slots ls hH hS h1 h2 hL) (fun q => kf q p e R s m args below meth c X f1 f2 f3 f4 H locs cells slots ls hH hS h1 h2 hL)
theorem pv_if_ne {sc : pv_S} {g : pv_G} {M : pv_M} {Q : Option Value → List pv_C → Prop} {dp kc ks pc : Nat} {lo st : List Value} {h : List pv_C} {x : Int32} {off : Int} {tgt : Nat} (hd : decode M.2.2.1 pc = .ok (.ifCond .ne off, 3)) (n0 : Nat) (hp : pc + 3 = n0) (ht : (pc : Int) + off = (tgt : Int)) (kt : ¬ x = 0 → PV sc g M Q dp kc ks tgt lo (st) h) (kf : x = 0 → PV sc g M Q dp kc ks n0 lo (st) h) : PV sc g M Q dp kc ks pc lo (.int x :: st) h := by
  intro p e R s m args below meth c X f1 f2 f3 f4 H locs cells slots ls hH hS h1 h2 hL
  subst hp
  exact lv_if_ne X.1 X.2.1 hd ht (fun q => kt q p e R s m args below meth c X f1 f2 f3 f4 H locs cells slots ls hH hS h1 h2 hL) (fun q => kf q p e R s m args below meth c X f1 f2 f3 f4 H locs cells slots ls hH hS h1 h2 hL)
theorem pv_icmp_ne {sc : pv_S} {g : pv_G} {M : pv_M} {Q : Option Value → List pv_C → Prop} {dp kc ks pc : Nat} {lo st : List Value} {h : List pv_C} {x y : Int32} {off : Int} {tgt : Nat} (hd : decode M.2.2.1 pc = .ok (.if_icmp .ne off, 3)) (n0 : Nat) (hp : pc + 3 = n0) (ht : (pc : Int) + off = (tgt : Int)) (kt : ¬ x = y → PV sc g M Q dp kc ks tgt lo (st) h) (kf : x = y → PV sc g M Q dp kc ks n0 lo (st) h) : PV sc g M Q dp kc ks pc lo (.int y :: .int x :: st) h := by
  intro p e R s m args below meth c X f1 f2 f3 f4 H locs cells slots ls hH hS h1 h2 hL
  subst hp
  exact lv_icmp_ne X.1 X.2.1 hd ht (fun q => kt q p e R s m args below meth c X f1 f2 f3 f4 H locs cells slots ls hH hS h1 h2 hL) (fun q => kf q p e R s m args below meth c X f1 f2 f3 f4 H locs cells slots ls hH hS h1 h2 hL)
theorem pv_if_lt {sc : pv_S} {g : pv_G} {M : pv_M} {Q : Option Value → List pv_C → Prop} {dp kc ks pc : Nat} {lo st : List Value} {h : List pv_C} {x : Int32} {off : Int} {tgt : Nat} (hd : decode M.2.2.1 pc = .ok (.ifCond .lt off, 3)) (n0 : Nat) (hp : pc + 3 = n0) (ht : (pc : Int) + off = (tgt : Int)) (kt : x < 0 → PV sc g M Q dp kc ks tgt lo (st) h) (kf : ¬ x < 0 → PV sc g M Q dp kc ks n0 lo (st) h) : PV sc g M Q dp kc ks pc lo (.int x :: st) h := by
  intro p e R s m args below meth c X f1 f2 f3 f4 H locs cells slots ls hH hS h1 h2 hL
  subst hp
  exact lv_if_lt X.1 X.2.1 hd ht (fun q => kt q p e R s m args below meth c X f1 f2 f3 f4 H locs cells slots ls hH hS h1 h2 hL) (fun q => kf q p e R s m args below meth c X f1 f2 f3 f4 H locs cells slots ls hH hS h1 h2 hL)
theorem pv_icmp_lt {sc : pv_S} {g : pv_G} {M : pv_M} {Q : Option Value → List pv_C → Prop} {dp kc ks pc : Nat} {lo st : List Value} {h : List pv_C} {x y : Int32} {off : Int} {tgt : Nat} (hd : decode M.2.2.1 pc = .ok (.if_icmp .lt off, 3)) (n0 : Nat) (hp : pc + 3 = n0) (ht : (pc : Int) + off = (tgt : Int)) (kt : x < y → PV sc g M Q dp kc ks tgt lo (st) h) (kf : ¬ x < y → PV sc g M Q dp kc ks n0 lo (st) h) : PV sc g M Q dp kc ks pc lo (.int y :: .int x :: st) h := by
  intro p e R s m args below meth c X f1 f2 f3 f4 H locs cells slots ls hH hS h1 h2 hL
  subst hp
  exact lv_icmp_lt X.1 X.2.1 hd ht (fun q => kt q p e R s m args below meth c X f1 f2 f3 f4 H locs cells slots ls hH hS h1 h2 hL) (fun q => kf q p e R s m args below meth c X f1 f2 f3 f4 H locs cells slots ls hH hS h1 h2 hL)
theorem pv_if_ge {sc : pv_S} {g : pv_G} {M : pv_M} {Q : Option Value → List pv_C → Prop} {dp kc ks pc : Nat} {lo st : List Value} {h : List pv_C} {x : Int32} {off : Int} {tgt : Nat} (hd : decode M.2.2.1 pc = .ok (.ifCond .ge off, 3)) (n0 : Nat) (hp : pc + 3 = n0) (ht : (pc : Int) + off = (tgt : Int)) (kt : 0 ≤ x → PV sc g M Q dp kc ks tgt lo (st) h) (kf : ¬ 0 ≤ x → PV sc g M Q dp kc ks n0 lo (st) h) : PV sc g M Q dp kc ks pc lo (.int x :: st) h := by
  intro p e R s m args below meth c X f1 f2 f3 f4 H locs cells slots ls hH hS h1 h2 hL
  subst hp
  exact lv_if_ge X.1 X.2.1 hd ht (fun q => kt q p e R s m args below meth c X f1 f2 f3 f4 H locs cells slots ls hH hS h1 h2 hL) (fun q => kf q p e R s m args below meth c X f1 f2 f3 f4 H locs cells slots ls hH hS h1 h2 hL)
theorem pv_icmp_ge {sc : pv_S} {g : pv_G} {M : pv_M} {Q : Option Value → List pv_C → Prop} {dp kc ks pc : Nat} {lo st : List Value} {h : List pv_C} {x y : Int32} {off : Int} {tgt : Nat} (hd : decode M.2.2.1 pc = .ok (.if_icmp .ge off, 3)) (n0 : Nat) (hp : pc + 3 = n0) (ht : (pc : Int) + off = (tgt : Int)) (kt : y ≤ x → PV sc g M Q dp kc ks tgt lo (st) h) (kf : ¬ y ≤ x → PV sc g M Q dp kc ks n0 lo (st) h) : PV sc g M Q dp kc ks pc lo (.int y :: .int x :: st) h := by
  intro p e R s m args below meth c X f1 f2 f3 f4 H locs cells slots ls hH hS h1 h2 hL
  subst hp
  exact lv_icmp_ge X.1 X.2.1 hd ht (fun q => kt q p e R s m args below meth c X f1 f2 f3 f4 H locs cells slots ls hH hS h1 h2 hL) (fun q => kf q p e R s m args below meth c X f1 f2 f3 f4 H locs cells slots ls hH hS h1 h2 hL)
theorem pv_if_gt {sc : pv_S} {g : pv_G} {M : pv_M} {Q : Option Value → List pv_C → Prop} {dp kc ks pc : Nat} {lo st : List Value} {h : List pv_C} {x : Int32} {off : Int} {tgt : Nat} (hd : decode M.2.2.1 pc = .ok (.ifCond .gt off, 3)) (n0 : Nat) (hp : pc + 3 = n0) (ht : (pc : Int) + off = (tgt : Int)) (kt : 0 < x → PV sc g M Q dp kc ks tgt lo (st) h) (kf : ¬ 0 < x → PV sc g M Q dp kc ks n0 lo (st) h) : PV sc g M Q dp kc ks pc lo (.int x :: st) h := by
  intro p e R s m args below meth c X f1 f2 f3 f4 H locs cells slots ls hH hS h1 h2 hL
  subst hp
  exact lv_if_gt X.1 X.2.1 hd ht (fun q => kt q p e R s m args below meth c X f1 f2 f3 f4 H locs cells slots ls hH hS h1 h2 hL) (fun q => kf q p e R s m args below meth c X f1 f2 f3 f4 H locs cells slots ls hH hS h1 h2 hL)
theorem pv_icmp_gt {sc : pv_S} {g : pv_G} {M : pv_M} {Q : Option Value → List pv_C → Prop} {dp kc ks pc : Nat} {lo st : List Value} {h : List pv_C} {x y : Int32} {off : Int} {tgt : Nat} (hd : decode M.2.2.1 pc = .ok (.if_icmp .gt off, 3)) (n0 : Nat) (hp : pc + 3 = n0) (ht : (pc : Int) + off = (tgt : Int)) (kt : y < x → PV sc g M Q dp kc ks tgt lo (st) h) (kf : ¬ y < x → PV sc g M Q dp kc ks n0 lo (st) h) : PV sc g M Q dp kc ks pc lo (.int y :: .int x :: st) h := by
  intro p e R s m args below meth c X f1 f2 f3 f4 H locs cells slots ls hH hS h1 h2 hL
  subst hp
  exact lv_icmp_gt X.1 X.2.1 hd ht (fun q => kt q p e R s m args below meth c X f1 f2 f3 f4 H locs cells slots ls hH hS h1 h2 hL) (fun q => kf q p e R s m args below meth c X f1 f2 f3 f4 H locs cells slots ls hH hS h1 h2 hL)
theorem pv_if_le {sc : pv_S} {g : pv_G} {M : pv_M} {Q : Option Value → List pv_C → Prop} {dp kc ks pc : Nat} {lo st : List Value} {h : List pv_C} {x : Int32} {off : Int} {tgt : Nat} (hd : decode M.2.2.1 pc = .ok (.ifCond .le off, 3)) (n0 : Nat) (hp : pc + 3 = n0) (ht : (pc : Int) + off = (tgt : Int)) (kt : x ≤ 0 → PV sc g M Q dp kc ks tgt lo (st) h) (kf : ¬ x ≤ 0 → PV sc g M Q dp kc ks n0 lo (st) h) : PV sc g M Q dp kc ks pc lo (.int x :: st) h := by
  intro p e R s m args below meth c X f1 f2 f3 f4 H locs cells slots ls hH hS h1 h2 hL
  subst hp
  exact lv_if_le X.1 X.2.1 hd ht (fun q => kt q p e R s m args below meth c X f1 f2 f3 f4 H locs cells slots ls hH hS h1 h2 hL) (fun q => kf q p e R s m args below meth c X f1 f2 f3 f4 H locs cells slots ls hH hS h1 h2 hL)
theorem pv_icmp_le {sc : pv_S} {g : pv_G} {M : pv_M} {Q : Option Value → List pv_C → Prop} {dp kc ks pc : Nat} {lo st : List Value} {h : List pv_C} {x y : Int32} {off : Int} {tgt : Nat} (hd : decode M.2.2.1 pc = .ok (.if_icmp .le off, 3)) (n0 : Nat) (hp : pc + 3 = n0) (ht : (pc : Int) + off = (tgt : Int)) (kt : x ≤ y → PV sc g M Q dp kc ks tgt lo (st) h) (kf : ¬ x ≤ y → PV sc g M Q dp kc ks n0 lo (st) h) : PV sc g M Q dp kc ks pc lo (.int y :: .int x :: st) h := by
  intro p e R s m args below meth c X f1 f2 f3 f4 H locs cells slots ls hH hS h1 h2 hL
  subst hp
  exact lv_icmp_le X.1 X.2.1 hd ht (fun q => kt q p e R s m args below meth c X f1 f2 f3 f4 H locs cells slots ls hH hS h1 h2 hL) (fun q => kf q p e R s m args below meth c X f1 f2 f3 f4 H locs cells slots ls hH hS h1 h2 hL)
theorem pv_goto {sc : pv_S} {g : pv_G} {M : pv_M} {Q : Option Value → List pv_C → Prop} {dp kc ks pc : Nat} {lo st : List Value} {h : List pv_C} {off : Int} {tgt : Nat} (hd : decode M.2.2.1 pc = .ok (.goto off, 3)) (ht : (pc : Int) + off = (tgt : Int)) (k : PV sc g M Q dp kc ks tgt lo (st) h) : PV sc g M Q dp kc ks pc lo (st) h := by
  intro p e R s m args below meth c X f1 f2 f3 f4 H locs cells slots ls hH hS h1 h2 hL
  exact lv_goto X.1 X.2.1 hd ht (k p e R s m args below meth c X f1 f2 f3 f4 H locs cells slots ls hH hS h1 h2 hL)
theorem pv_ifnull_0 {sc : pv_S} {g : pv_G} {M : pv_M} {Q : Option Value → List pv_C → Prop} {dp kc ks pc : Nat} {lo st : List Value} {h : List pv_C} {x : Nat} {off : Int} (hd : decode M.2.2.1 pc = .ok (.ifnull off, 3)) (k : PV sc g M Q dp kc ks (pc + 3) lo (st) h) : PV sc g M Q dp kc ks pc lo (.ref x :: st) h := by
  intro p e R s m args below meth c X f1 f2 f3 f4 H locs cells slots ls hH hS h1 h2 hL
  exact lv_ifnull X.1 X.2.1 hd (k p e R s m args below meth c X f1 f2 f3 f4 H locs cells slots ls hH hS h1 h2 hL)
theorem pv_ifnullN {sc : pv_S} {g : pv_G} {M : pv_M} {Q : Option Value → List pv_C → Prop} {dp kc ks pc : Nat} {lo st : List Value} {h : List pv_C} {off : Int} {tgt : Nat} (hd : decode M.2.2.1 pc = .ok (.ifnull off, 3)) (ht : (pc : Int) + off = (tgt : Int)) (k : PV sc g M Q dp kc ks tgt lo (st) h) : PV sc g M Q dp kc ks pc lo (.null :: st) h := by
  intro p e R s m args below meth c X f1 f2 f3 f4 H locs cells slots ls hH hS h1 h2 hL
  exact lv_ifnullN X.1 X.2.1 hd ht (k p e R s m args below meth c X f1 f2 f3 f4 H locs cells slots ls hH hS h1 h2 hL)
theorem pv_ifnonnull {sc : pv_S} {g : pv_G} {M : pv_M} {Q : Option Value → List pv_C → Prop} {dp kc ks pc : Nat} {lo st : List Value} {h : List pv_C} {x : Nat} {off : Int} {tgt : Nat} (hd : decode M.2.2.1 pc = .ok (.ifnonnull off, 3)) (ht : (pc : Int) + off = (tgt : Int)) (k : PV sc g M Q dp kc ks tgt lo (st) h) : PV sc g M Q dp kc ks pc lo (.ref x :: st) h := by
  intro p e R s m args below meth c X f1 f2 f3 f4 H locs cells slots ls hH hS h1 h2 hL
  exact lv_ifnonnull X.1 X.2.1 hd ht (k p e R s m args below meth c X f1 f2 f3 f4 H locs cells slots ls hH hS h1 h2 hL)
theorem pv_ifnonnullN_0 {sc : pv_S} {g : pv_G} {M : pv_M} {Q : Option Value → List pv_C → Prop} {dp kc ks pc : Nat} {lo st : List Value} {h : List pv_C} {off : Int} (hd : decode M.2.2.1 pc = .ok (.ifnonnull off, 3)) (k : PV sc g M Q dp kc ks (pc + 3) lo (st) h) : PV sc g M Q dp kc ks pc lo (.null :: st) h := by
  intro p e R s m args below meth c X f1 f2 f3 f4 H locs cells slots ls hH hS h1 h2 hL
  exact lv_ifnonnullN X.1 X.2.1 hd (k p e R s m args below meth c X f1 f2 f3 f4 H locs cells slots ls hH hS h1 h2 hL)
theorem pv_tableOut {sc : pv_S} {g : pv_G} {M : pv_M} {Q : Option Value → List pv_C → Prop} {dp kc ks pc : Nat} {lo st : List Value} {h : List pv_C} {dflt l1 l2 : Int} {offs : Array Int} {len : Nat} {x : Int32} {tgt : Nat} (hd : decode M.2.2.1 pc = .ok (.tableswitch dflt l1 l2 offs, len)) (hx : x.toInt < l1 ∨ l2 < x.toInt) (ht : (pc : Int) + dflt = (tgt : Int)) (k : PV sc g M Q dp kc ks tgt lo (st) h) : PV sc g M Q dp kc ks pc lo (.int x :: st) h := by
  intro p e R s m args below meth c X f1 f2 f3 f4 H locs cells slots ls hH hS h1 h2 hL
  exact lv_tableOut X.1 X.2.1 hd hx ht (k p e R s m args below meth c X f1 f2 f3 f4 H locs cells slots ls hH hS h1 h2 hL)
theorem pv_tableIn {sc : pv_S} {g : pv_G} {M : pv_M} {Q : Option Value → List pv_C → Prop} {dp kc ks pc : Nat} {lo st : List Value} {h : List pv_C} {dflt l1 l2 : Int} {offs : Array Int} {len : Nat} {x : Int32} {off : Int} {tgt : Nat} (hd : decode M.2.2.1 pc = .ok (.tableswitch dflt l1 l2 offs, len)) (hx1 : ¬ x.toInt < l1) (hx2 : ¬ l2 < x.toInt) (ho : offs[(x.toInt - l1).toNat]? = some off) (ht : (pc : Int) + off = (tgt : Int)) (k : PV sc g M Q dp kc ks tgt lo (st) h) : PV sc g M Q dp kc ks pc lo (.int x :: st) h := by
  intro p e R s m args below meth c X f1 f2 f3 f4 H locs cells slots ls hH hS h1 h2 hL
  exact lv_tableIn X.1 X.2.1 hd hx1 hx2 ho ht (k p e R s m args below meth c X f1 f2 f3 f4 H locs cells slots ls hH hS h1 h2 hL)
theorem pv_lookup {sc : pv_S} {g : pv_G} {M : pv_M} {Q : Option Value → List pv_C → Prop} {dp kc ks pc : Nat} {lo st : List Value} {h : List pv_C} {dflt : Int} {ps : Array (Int × Int)} {len : Nat} {x : Int32} {off : Int} {tgt : Nat} (hd : decode M.2.2.1 pc = .ok (.lookupswitch dflt ps, len)) (hp : (ps.toList.zip (ps.toList.drop 1)).all (fun (a, next) => a.1 < next.1) = true) (ho : Op.lookupswitch.offset ps.toList dflt x.toInt = off) (ht : (pc : Int) + off = (tgt : Int)) (k : PV sc g M Q dp kc ks tgt lo (st) h) : PV sc g M Q dp kc ks pc lo (.int x :: st) h := by
  intro p e R s m args below meth c X f1 f2 f3 f4 H locs cells slots ls hH hS h1 h2 hL
  exact lv_lookup X.1 X.2.1 hd hp ho ht (k p e R s m args below meth c X f1 f2 f3 f4 H locs cells slots ls hH hS h1 h2 hL)
theorem pv_ifnull {sc : pv_S} {g : pv_G} {M : pv_M} {Q : Option Value → List pv_C → Prop} {dp kc ks pc : Nat} {lo st : List Value} {h : List pv_C} {x : Nat} {off : Int} (hd : decode M.2.2.1 pc = .ok (.ifnull off, 3)) (n0 : Nat) (hp : pc + 3 = n0) (k : PV sc g M Q dp kc ks n0 lo (st) h) : PV sc g M Q dp kc ks pc lo (.ref x :: st) h := by subst hp; exact pv_ifnull_0 hd k
theorem pv_ifnonnullN {sc : pv_S} {g : pv_G} {M : pv_M} {Q : Option Value → List pv_C → Prop} {dp kc ks pc : Nat} {lo st : List Value} {h : List pv_C} {off : Int} (hd : decode M.2.2.1 pc = .ok (.ifnonnull off, 3)) (n0 : Nat) (hp : pc + 3 = n0) (k : PV sc g M Q dp kc ks n0 lo (st) h) : PV sc g M Q dp kc ks pc lo (.null :: st) h := by subst hp; exact pv_ifnonnullN_0 hd k
theorem pv_top {sc : pv_S} {g : pv_G} {M : pv_M} {Q : Option Value → List pv_C → Prop} {dp kc ks pc : Nat} {lo st : List Value} {h : List pv_C} {x y : Int32} (he : x = y) (k : PV sc g M Q dp kc ks pc lo (.int y :: st) h) : PV sc g M Q dp kc ks pc lo (.int x :: st) h := by subst he; exact k
