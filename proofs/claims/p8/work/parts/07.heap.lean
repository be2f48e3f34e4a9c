/-! the rules of PV for cells: written by wip/gen/rules2.py -/
abbrev pv_o (ci : Nat) (fs : List Value) : pv_C := .inr (ci, fs)
abbrev pv_i (n : Nat) (f : Nat → Int32) : pv_C := .inl (0, n, .inl f)
abbrev pv_z (n : Nat) (f : Nat → Int32) : pv_C := .inl (1, n, .inl f)
abbrev pv_l (n : Nat) (f : Nat → Int64) : pv_C := .inl (2, n, .inr (.inl f))
abbrev pv_b (n : Nat) (f : Nat → Int32) : pv_C := .inl (3, n, .inl f)
abbrev pv_q (t n : Nat) (f : Nat → Option Nat) : pv_C := .inl (t, n, .inr (.inr (.inr (.inr f))))
theorem pv_map_get {b : Nat} {fs : List Value} {k : Nat} {v : Value} (hv : fs[k]? = some v) : (fs.map (pv_lf b))[k]? = some (pv_lf b v) := by rw [List.getElem?_map, hv]; rfl
theorem pv_map_set {b : Nat} {fs : List Value} {k : Nat} {v : Value} : (fs.map (pv_lf b)).set k (pv_lf b v) = (fs.set k v).map (pv_lf b) := by rw [List.map_set]
theorem pv_get {sc : pv_S} {g : pv_G} {M : pv_M} {Q : Option Value → List pv_C → Prop} {dp kc ks pc : Nat} {lo st : List Value} {h : List pv_C} {idx a ci N : Nat} {C : String} {T : u_T} {ty : Nat → FieldType} {fs : List Value} {v : Value} (hd : decode M.2.2.1 pc = .ok (.getfield idx, 3)) (F : pv_F ci C T N ty) (i : Nat) (hw : Cond.fieldLink M.1 idx (T i).1 (T i).2.1 (T i).2.2.1 ∈ pv_T) (hi : i < N) (ha : h[a]? = some (pv_o ci fs)) (hv : fs[i]? = some v) (n0 : Nat) (hp : pc + 3 = n0) (k : PV sc g M Q dp kc ks n0 lo (v :: st) h) : PV sc g M Q dp kc ks pc lo (.ref a :: st) h := by
  intro p e R s m args below meth c X f1 f2 f3 f4 H locs cells slots ls hH hS h1 h2 hL
  subst hp
  exact va_get (D := g.2.1) X.1 X.2.1 X.2.2.2.2.2.2.2.1 F.2.1 X.2.2.2.2.1 X.2.2.2.2.2.2.2.2.1 hH.1 a (pv_W_get ha) F.1 i hi (X.2.2.2.2.2.2.2.1 _ hw) (fun _ q => q) (pv_map_get hv) hd (k p e R s m args below meth c X f1 f2 f3 f4 H locs cells slots ls hH hS h1 h2 hL)
theorem pv_size {D : va_G} {kA : Nat → ClassId} {b : Nat} {h : List pv_C} {H H1 : Heap} (hH : pv_H D kA b h H) (e : H1.size = H.size) (c : pv_C) (a : Nat) : H1.size = b + (h.set a c).length := by rw [e, hH.2, List.length_set]
theorem pv_put {sc : pv_S} {g : pv_G} {M : pv_M} {Q : Option Value → List pv_C → Prop} {dp kc ks pc : Nat} {lo st : List Value} {h : List pv_C} {idx a ci N : Nat} {C : String} {T : u_T} {ty : Nat → FieldType} {fs fs2 : List Value} {v : Value} {h2 : List pv_C} (hd : decode M.2.2.1 pc = .ok (.putfield idx, 3)) (F : pv_F ci C T N ty) (i : Nat) (hw : Cond.fieldLink M.1 idx (T i).1 (T i).2.1 (T i).2.2.1 ∈ pv_T) (hi : i < N) (hf : (T i).2.2.2 = false) (ha : h[a]? = some (pv_o ci fs)) (hl : i < fs.length) (hn : ∀ b, narrow (ty i) (pv_lf b v) = pv_lf b v) (hft : ∀ b, fits (ty i) (pv_lf b v) = true) (hf2 : fs.set i v = fs2) (hh : h.set a (pv_o ci fs2) = h2) (n0 : Nat) (hp : pc + 3 = n0) (k : PV sc g M Q dp kc ks n0 lo (st) h2) : PV sc g M Q dp kc ks pc lo (v :: .ref a :: st) h := by
  intro p e R s m args below meth c X f1 f2 f3 f4 H locs cells slots ls hH hS h1 h2 hL
  subst hp
  subst hf2
  subst hh
  have hap := va_apart (own := M.1) (D := g.2.1) X.2.2.2.2.2.2.2.1 F.2.1 ty F.2.2.1 F.2.2.2 X.2.2.2.2.2.2.2.2.1 F.1
  obtain ⟨r, q0, cell, q1, q2, q3, q4⟩ := hH.1 a _ (pv_W_get ha)
  have hr : r = (C, T, N) := Option.some.inj (q0.symm.trans F.1)
  subst hr
  obtain ⟨hSl, hfc, kC, hkC, hkind⟩ := X.2.2.2.2.2.2.2.2.1.1 ci _ F.1
  obtain ⟨cf, kf, fi, f, hfi, hsl⟩ := hSl i hi
  have hlay := X.2.2.2.2.2.2.2.1 _ (F.2.1 _ (u_in_lay hi))
  unfold u_lay at hlay
  rw [if_neg (by rw [hf]; decide)] at hlay
  have hst := (u_facts hfc hkC (u_lays X.2.2.2.2.2.2.2.1 F.2.1 hi) hfi).1
  have h6 := u_store hfc hkC hkind hlay hfi (F.2.2.1 i hi) (hn g.2.2.2) (hft g.2.2.2)
  refine W.putK X.1 X.2.1 (f := f) (cell := cell) ⟨X.2.2.2.2.1, X.2.2.2.2.2.2.2.1 _ hw, ⟨_, _, _, hfi⟩, hst⟩ (by rw [q2]; exact h6) q1 q3 (by rw [hsl]; exact k2_hasslot (q4 i hi)) rfl rfl hd fun H1 e1 e2 e3 => ?_
  rw [hsl] at e1
  refine k p e R s m args below meth c X f1 f2 f3 f4 H1 _ cells slots ls ⟨?_, (pv_size hH e2 _ a)⟩ (hS.put e2 e3 (show g.2.2.2 ≤ g.2.2.2 + a by omega)) h1 h2 hL
  rw [← pv_W_set]
  refine hH.1.set pv_D (pv_W_get ha) ⟨_, F.1, t_OB.to (V := updV (vp_V (fs.map (pv_lf g.2.2.2))) i (pv_lf g.2.2.2 v)) ⟨_, e1, q2, q3, t_set q4 hap hi _⟩ (fun j _ => ?_)⟩ e3
  rw [← pv_map_set]
  exact vp_updV_set (by rw [List.length_map]; exact hl) _ j
theorem pv_putF {sc : pv_S} {g : pv_G} {M : pv_M} {Q : Option Value → List pv_C → Prop} {dp kc ks pc : Nat} {lo st : List Value} {h : List pv_C} {idx a ci N : Nat} {C : String} {T : u_T} {ty : Nat → FieldType} {fs fs2 : List Value} {v : Value} {h2 : List pv_C} (hd : decode M.2.2.1 pc = .ok (.putfield idx, 3)) (F : pv_F ci C T N ty) (i : Nat) (hw : Cond.fieldLink M.1 idx (T i).1 (T i).2.1 (T i).2.2.1 ∈ pv_T) (hi : i < N) (hf : (T i).2.2.2 = true) (hm : M.2.1 = "<init>") (ho : (T i).1 = M.1) (ha : h[a]? = some (pv_o ci fs)) (hl : i < fs.length) (hn : ∀ b, narrow (ty i) (pv_lf b v) = pv_lf b v) (hft : ∀ b, fits (ty i) (pv_lf b v) = true) (hf2 : fs.set i v = fs2) (hh : h.set a (pv_o ci fs2) = h2) (n0 : Nat) (hp : pc + 3 = n0) (k : PV sc g M Q dp kc ks n0 lo (st) h2) : PV sc g M Q dp kc ks pc lo (v :: .ref a :: st) h := by
  intro p e R s m args below meth c X f1 f2 f3 f4 H locs cells slots ls hH hS h1 h2 hL
  subst hp
  subst hf2
  subst hh
  have hap := va_apart (own := M.1) (D := g.2.1) X.2.2.2.2.2.2.2.1 F.2.1 ty F.2.2.1 F.2.2.2 X.2.2.2.2.2.2.2.2.1 F.1
  obtain ⟨r, q0, cell, q1, q2, q3, q4⟩ := hH.1 a _ (pv_W_get ha)
  have hr : r = (C, T, N) := Option.some.inj (q0.symm.trans F.1)
  subst hr
  obtain ⟨hSl, hfc, kC, hkC, hkind⟩ := X.2.2.2.2.2.2.2.2.1.1 ci _ F.1
  obtain ⟨cf, kf, fi, f, hfi, hsl⟩ := hSl i hi
  have hlay := X.2.2.2.2.2.2.2.1 _ (F.2.1 _ (u_in_lay hi))
  unfold u_lay at hlay
  rw [if_pos hf] at hlay
  have hst := (u_facts hfc hkC (u_lays X.2.2.2.2.2.2.2.1 F.2.1 hi) hfi).1
  have hcf : m.cls = cf := by
    obtain ⟨_, _, c', _, _, _, -, -, hf', -, -, -, hown2, -⟩ := Cond.laysFinal_spec hlay
    have e1 : c' = cf := by have := hfi.symm.trans hf'; simp at this; exact this.1.symm
    rw [ho] at hown2
    rw [← e1]; exact Option.some.inj (X.2.2.2.2.1.symm.trans hown2)
  have h6 := u_fits hfc hkC hkind (Or.inr hlay) hfi (F.2.2.1 i hi) (hn g.2.2.2) (hft g.2.2.2)
  refine W.putFinK X.1 X.2.1 X.2.2.2.2.1 (X.2.2.2.2.2.2.2.1 _ hw) hfi hst hcf (X.2.2.2.2.2.2.1 hm) (by rw [q2]; exact h6) q1 q3 (by rw [hsl]; exact k2_hasslot (q4 i hi)) rfl rfl hd fun H1 e1 e2 e3 => ?_
  rw [hsl] at e1
  refine k p e R s m args below meth c X f1 f2 f3 f4 H1 _ cells slots ls ⟨?_, (pv_size hH e2 _ a)⟩ (hS.put e2 e3 (show g.2.2.2 ≤ g.2.2.2 + a by omega)) h1 h2 hL
  rw [← pv_W_set]
  refine hH.1.set pv_D (pv_W_get ha) ⟨_, F.1, t_OB.to (V := updV (vp_V (fs.map (pv_lf g.2.2.2))) i (pv_lf g.2.2.2 v)) ⟨_, e1, q2, q3, t_set q4 hap hi _⟩ (fun j _ => ?_)⟩ e3
  rw [← pv_map_set]
  exact vp_updV_set (by rw [List.length_map]; exact hl) _ j
theorem pv_iald {sc : pv_S} {g : pv_G} {M : pv_M} {Q : Option Value → List pv_C → Prop} {dp kc ks pc : Nat} {lo st : List Value} {h : List pv_C} {a n : Nat} {f : Nat → Int32} {i : Int32} (hd : decode M.2.2.1 pc = .ok (.iaload, 1)) (ha : h[a]? = some (pv_i n f)) (hi : vp_in i n) {v : Int32} (hv : f i.toNatClampNeg = v) (n0 : Nat) (hp : pc + 1 = n0) (k : PV sc g M Q dp kc ks n0 lo (.int v :: st) h) : PV sc g M Q dp kc ks pc lo (.int i :: .ref a :: st) h := by
  intro p e R s m args below meth c X f1 f2 f3 f4 H locs cells slots ls hH hS h1 h2 hL
  subst hp
  subst hv
  exact va_iald (D := g.2.1) X.1 X.2.1 X.2.2.2.2.2.2.2.2.1 hH.1 a 0 (pv_W_get ha) rfl hi hd (k p e R s m args below meth c X f1 f2 f3 f4 H locs cells slots ls hH hS h1 h2 hL)
theorem pv_zald {sc : pv_S} {g : pv_G} {M : pv_M} {Q : Option Value → List pv_C → Prop} {dp kc ks pc : Nat} {lo st : List Value} {h : List pv_C} {a n : Nat} {f : Nat → Int32} {i : Int32} (hd : decode M.2.2.1 pc = .ok (.baload, 1)) (ha : h[a]? = some (pv_z n f)) (hi : vp_in i n) {v : Int32} (hv : f i.toNatClampNeg = v) (n0 : Nat) (hp : pc + 1 = n0) (k : PV sc g M Q dp kc ks n0 lo (.int v :: st) h) : PV sc g M Q dp kc ks pc lo (.int i :: .ref a :: st) h := by
  intro p e R s m args below meth c X f1 f2 f3 f4 H locs cells slots ls hH hS h1 h2 hL
  subst hp
  subst hv
  exact va_zald (D := g.2.1) X.1 X.2.1 X.2.2.2.2.2.2.2.2.1 hH.1 a 1 (pv_W_get ha) rfl hi hd (k p e R s m args below meth c X f1 f2 f3 f4 H locs cells slots ls hH hS h1 h2 hL)
theorem pv_lald {sc : pv_S} {g : pv_G} {M : pv_M} {Q : Option Value → List pv_C → Prop} {dp kc ks pc : Nat} {lo st : List Value} {h : List pv_C} {a n : Nat} {f : Nat → Int64} {i : Int32} (hd : decode M.2.2.1 pc = .ok (.laload, 1)) (ha : h[a]? = some (pv_l n f)) (hi : vp_in i n) {v : Int64} (hv : f i.toNatClampNeg = v) (n0 : Nat) (hp : pc + 1 = n0) (k : PV sc g M Q dp kc ks n0 lo (.long v :: st) h) : PV sc g M Q dp kc ks pc lo (.int i :: .ref a :: st) h := by
  intro p e R s m args below meth c X f1 f2 f3 f4 H locs cells slots ls hH hS h1 h2 hL
  subst hp
  subst hv
  exact va_lald (D := g.2.1) X.1 X.2.1 X.2.2.2.2.2.2.2.2.1 hH.1 a 2 (pv_W_get ha) rfl hi hd (k p e R s m args below meth c X f1 f2 f3 f4 H locs cells slots ls hH hS h1 h2 hL)
theorem pv_bald {sc : pv_S} {g : pv_G} {M : pv_M} {Q : Option Value → List pv_C → Prop} {dp kc ks pc : Nat} {lo st : List Value} {h : List pv_C} {a n : Nat} {f : Nat → Int32} {i : Int32} (hd : decode M.2.2.1 pc = .ok (.baload, 1)) (ha : h[a]? = some (pv_b n f)) (hi : vp_in i n) {v : Int32} (hv : f i.toNatClampNeg = v) (n0 : Nat) (hp : pc + 1 = n0) (k : PV sc g M Q dp kc ks n0 lo (.int v :: st) h) : PV sc g M Q dp kc ks pc lo (.int i :: .ref a :: st) h := by
  intro p e R s m args below meth c X f1 f2 f3 f4 H locs cells slots ls hH hS h1 h2 hL
  subst hp
  subst hv
  exact va_bald (D := g.2.1) X.1 X.2.1 X.2.2.2.2.2.2.2.2.1 hH.1 a 3 (pv_W_get ha) rfl hi hd (k p e R s m args below meth c X f1 f2 f3 f4 H locs cells slots ls hH hS h1 h2 hL)
theorem pv_rf (b : Nat) (r : Option Nat) : va_rf (r.map (fun a => b + a)) = pv_lf b (va_rf r) := by cases r <;> rfl
theorem pv_aald {sc : pv_S} {g : pv_G} {M : pv_M} {Q : Option Value → List pv_C → Prop} {dp kc ks pc : Nat} {lo st : List Value} {h : List pv_C} {a n t : Nat} {f : Nat → Option Nat} {i : Int32} {C : String} (hd : decode M.2.2.1 pc = .ok (.aaload, 1)) (ha : h[a]? = some (pv_q t n f)) (ht : ∀ kA : Nat → ClassId, (pv_tys kA)[t]? = some (kA t, .object C)) (hi : vp_in i n) {v : Value} (hv : va_rf (f i.toNatClampNeg) = v) (n0 : Nat) (hp : pc + 1 = n0) (k : PV sc g M Q dp kc ks n0 lo (v :: st) h) : PV sc g M Q dp kc ks pc lo (.int i :: .ref a :: st) h := by
  intro p e R s m args below meth c X f1 f2 f3 f4 H locs cells slots ls hH hS h1 h2 hL
  subst hp
  subst hv
  refine va_aldq (D := g.2.1) X.1 X.2.1 X.2.2.2.2.2.2.2.2.1 hH.1 a t (pv_W_get ha) (ht _) hi hd ?_
  rw [pv_rf]
  exact (k p e R s m args below meth c X f1 f2 f3 f4 H locs cells slots ls hH hS h1 h2 hL)
theorem pv_iast {sc : pv_S} {g : pv_G} {M : pv_M} {Q : Option Value → List pv_C → Prop} {dp kc ks pc : Nat} {lo st : List Value} {h : List pv_C} {a n : Nat} {f : Nat → Int32} {i : Int32} {x : Int32} {h2 : List pv_C} (hd : decode M.2.2.1 pc = .ok (.iastore, 1)) (ha : h[a]? = some (pv_i n f)) (hi : vp_in i n) {j : Nat} (hj : i.toNatClampNeg = j) (hh : h.set a (pv_i n (upd f j x)) = h2) (n0 : Nat) (hp : pc + 1 = n0) (k : PV sc g M Q dp kc ks n0 lo (st) h2) : PV sc g M Q dp kc ks pc lo (.int x :: .int i :: .ref a :: st) h := by
  intro p e R s m args below meth c X f1 f2 f3 f4 H locs cells slots ls hH hS h1 h2 hL
  subst hp
  subst hj
  subst hh
  refine W.iast X.1 X.2.1 (hH.1 a _ (pv_W_get ha)) ((X.2.2.2.2.2.2.2.2.1.2 0 _ rfl).1 n (fun j => .int (f j))) (fun q => by cases q) (by show ¬ (i < 0 ∨ (arrV _ _ _).slots.size ≤ _); rw [arrV_size]; exact hi) rfl rfl hd fun H1 e1 z oq => ?_
  refine k p e R s m args below meth c X f1 f2 f3 f4 H1 _ cells slots ls ⟨?_, (pv_size hH z _ a)⟩ (hS.put z oq (show g.2.2.2 ≤ g.2.2.2 + a by omega)) h1 h2 hL
  rw [← pv_W_set]
  refine hH.1.set pv_D (pv_W_get ha) ?_ oq
  show H1[g.2.2.2 + a]? = some (vp_cell _ (n, _))
  rw [e1]
  show some (Cell.setSlot (vp_cell (g.2.2.1 0) (n, .inl (f))) _ _) = some (vp_cell (g.2.2.1 0) (n, .inl (upd f i.toNatClampNeg x)))
  rw [vp_cell_i, vp_cell_i, arrV_store]
  congr 2
  funext q
  by_cases hq : q = i.toNatClampNeg
  · subst hq
    simp [updV, upd, vp_updL]
    try rfl
  · simp [updV, upd, vp_updL, hq]
theorem pv_last {sc : pv_S} {g : pv_G} {M : pv_M} {Q : Option Value → List pv_C → Prop} {dp kc ks pc : Nat} {lo st : List Value} {h : List pv_C} {a n : Nat} {f : Nat → Int64} {i : Int32} {x : Int64} {h2 : List pv_C} (hd : decode M.2.2.1 pc = .ok (.lastore, 1)) (ha : h[a]? = some (pv_l n f)) (hi : vp_in i n) {j : Nat} (hj : i.toNatClampNeg = j) (hh : h.set a (pv_l n (vp_updL f j x)) = h2) (n0 : Nat) (hp : pc + 1 = n0) (k : PV sc g M Q dp kc ks n0 lo (st) h2) : PV sc g M Q dp kc ks pc lo (.long x :: .int i :: .ref a :: st) h := by
  intro p e R s m args below meth c X f1 f2 f3 f4 H locs cells slots ls hH hS h1 h2 hL
  subst hp
  subst hj
  subst hh
  refine W.last X.1 X.2.1 (hH.1 a _ (pv_W_get ha)) ((X.2.2.2.2.2.2.2.2.1.2 2 _ rfl).1 n (fun j => .long (f j))) (fun q => by cases q) (by show ¬ (i < 0 ∨ (arrV _ _ _).slots.size ≤ _); rw [arrV_size]; exact hi) rfl rfl hd fun H1 e1 z oq => ?_
  refine k p e R s m args below meth c X f1 f2 f3 f4 H1 _ cells slots ls ⟨?_, (pv_size hH z _ a)⟩ (hS.put z oq (show g.2.2.2 ≤ g.2.2.2 + a by omega)) h1 h2 hL
  rw [← pv_W_set]
  refine hH.1.set pv_D (pv_W_get ha) ?_ oq
  show H1[g.2.2.2 + a]? = some (vp_cell _ (n, _))
  rw [e1]
  show some (Cell.setSlot (vp_cell (g.2.2.1 2) (n, .inr (.inl (f)))) _ _) = some (vp_cell (g.2.2.1 2) (n, .inr (.inl (vp_updL f i.toNatClampNeg x))))
  rw [vp_cell_l, vp_cell_l, arrV_store]
  congr 2
  funext q
  by_cases hq : q = i.toNatClampNeg
  · subst hq
    simp [updV, upd, vp_updL]
    try rfl
  · simp [updV, upd, vp_updL, hq]
theorem pv_zast {sc : pv_S} {g : pv_G} {M : pv_M} {Q : Option Value → List pv_C → Prop} {dp kc ks pc : Nat} {lo st : List Value} {h : List pv_C} {a n : Nat} {f : Nat → Int32} {i : Int32} {x : Int32} {h2 : List pv_C} (hd : decode M.2.2.1 pc = .ok (.bastore, 1)) (ha : h[a]? = some (pv_z n f)) (hi : vp_in i n) {j : Nat} (hj : i.toNatClampNeg = j) (hh : h.set a (pv_z n (upd f j (vp_nar .boolean x))) = h2) (n0 : Nat) (hp : pc + 1 = n0) (k : PV sc g M Q dp kc ks n0 lo (st) h2) : PV sc g M Q dp kc ks pc lo (.int x :: .int i :: .ref a :: st) h := by
  intro p e R s m args below meth c X f1 f2 f3 f4 H locs cells slots ls hH hS h1 h2 hL
  subst hp
  subst hj
  subst hh
  refine W.zast X.1 X.2.1 (hH.1 a _ (pv_W_get ha)) ((X.2.2.2.2.2.2.2.2.1.2 1 _ rfl).1 n (fun j => .int (f j))) (fun q => by cases q) (by show ¬ (i < 0 ∨ (arrV _ _ _).slots.size ≤ _); rw [arrV_size]; exact hi) rfl rfl hd fun H1 e1 z oq => ?_
  refine k p e R s m args below meth c X f1 f2 f3 f4 H1 _ cells slots ls ⟨?_, (pv_size hH z _ a)⟩ (hS.put z oq (show g.2.2.2 ≤ g.2.2.2 + a by omega)) h1 h2 hL
  rw [← pv_W_set]
  refine hH.1.set pv_D (pv_W_get ha) ?_ oq
  show H1[g.2.2.2 + a]? = some (vp_cell _ (n, _))
  rw [e1]
  show some (Cell.setSlot (vp_cell (g.2.2.1 1) (n, .inl (f))) _ _) = some (vp_cell (g.2.2.1 1) (n, .inl (upd f i.toNatClampNeg (vp_nar .boolean x))))
  rw [vp_cell_i, vp_cell_i, arrV_store]
  congr 2
  funext q
  by_cases hq : q = i.toNatClampNeg
  · subst hq
    simp [updV, upd, vp_updL, vp_nar]
    try rfl
  · simp [updV, upd, vp_updL, hq]
theorem pv_bast {sc : pv_S} {g : pv_G} {M : pv_M} {Q : Option Value → List pv_C → Prop} {dp kc ks pc : Nat} {lo st : List Value} {h : List pv_C} {a n : Nat} {f : Nat → Int32} {i : Int32} {x : Int32} {h2 : List pv_C} (hd : decode M.2.2.1 pc = .ok (.bastore, 1)) (ha : h[a]? = some (pv_b n f)) (hi : vp_in i n) {j : Nat} (hj : i.toNatClampNeg = j) (hh : h.set a (pv_b n (upd f j (vp_nar .byte x))) = h2) (n0 : Nat) (hp : pc + 1 = n0) (k : PV sc g M Q dp kc ks n0 lo (st) h2) : PV sc g M Q dp kc ks pc lo (.int x :: .int i :: .ref a :: st) h := by
  intro p e R s m args below meth c X f1 f2 f3 f4 H locs cells slots ls hH hS h1 h2 hL
  subst hp
  subst hj
  subst hh
  refine W.bast X.1 X.2.1 (hH.1 a _ (pv_W_get ha)) ((X.2.2.2.2.2.2.2.2.1.2 3 _ rfl).1 n (fun j => .int (f j))) (fun q => by cases q) (by show ¬ (i < 0 ∨ (arrV _ _ _).slots.size ≤ _); rw [arrV_size]; exact hi) rfl rfl hd fun H1 e1 z oq => ?_
  refine k p e R s m args below meth c X f1 f2 f3 f4 H1 _ cells slots ls ⟨?_, (pv_size hH z _ a)⟩ (hS.put z oq (show g.2.2.2 ≤ g.2.2.2 + a by omega)) h1 h2 hL
  rw [← pv_W_set]
  refine hH.1.set pv_D (pv_W_get ha) ?_ oq
  show H1[g.2.2.2 + a]? = some (vp_cell _ (n, _))
  rw [e1]
  show some (Cell.setSlot (vp_cell (g.2.2.1 3) (n, .inl (f))) _ _) = some (vp_cell (g.2.2.1 3) (n, .inl (upd f i.toNatClampNeg (vp_nar .byte x))))
  rw [vp_cell_i, vp_cell_i, arrV_store]
  congr 2
  funext q
  by_cases hq : q = i.toNatClampNeg
  · subst hq
    simp [updV, upd, vp_updL, vp_nar]
    try rfl
  · simp [updV, upd, vp_updL, hq]
theorem pv_alen {sc : pv_S} {g : pv_G} {M : pv_M} {Q : Option Value → List pv_C → Prop} {dp kc ks pc : Nat} {lo st : List Value} {h : List pv_C} {a t : Nat} {x : vp_A} {v : Int32} (hd : decode M.2.2.1 pc = .ok (.arraylength, 1)) (ha : h[a]? = some (.inl (t, x))) (ht : t < 6) (hv : Int32.ofNat x.1 = v) (n0 : Nat) (hp : pc + 1 = n0) (k : PV sc g M Q dp kc ks n0 lo (.int v :: st) h) : PV sc g M Q dp kc ks pc lo (.ref a :: st) h := by
  intro p e R s m args below meth c X f1 f2 f3 f4 H locs cells slots ls hH hS h1 h2 hL
  subst hp
  have hx : (pv_la g.2.2.2 x).1 = x.1 := by obtain ⟨n, q⟩ := x; rcases q with q | q | q | q | q <;> rfl
  have ht : (pv_tys g.2.2.1)[t]? = some (g.2.2.1 t, pv_ty t) := by
    match t, ht with
    | 0, _ => rfl
    | 1, _ => rfl
    | 2, _ => rfl
    | 3, _ => rfl
    | 4, _ => rfl
    | 5, _ => rfl
  exact va_alen (D := g.2.1) X.1 X.2.1 X.2.2.2.2.2.2.2.2.1 hH.1 a t (pv_W_get ha) ht (by rw [hx]; exact hv) hd (k p e R s m args below meth c X f1 f2 f3 f4 H locs cells slots ls hH hS h1 h2 hL)
theorem pv_aast {sc : pv_S} {g : pv_G} {M : pv_M} {Q : Option Value → List pv_C → Prop} {dp kc ks pc : Nat} {lo st : List Value} {h : List pv_C} {a n t v : Nat} {f : Nat → Option Nat} {i : Int32} {ci : Nat} {r : vw_C} {fs : List Value} {h2 : List pv_C} (hd : decode M.2.2.1 pc = .ok (.aastore, 1)) (ha : h[a]? = some (pv_q t n f)) (hv : h[v]? = some (pv_o ci fs)) (hc : vwCl[ci]? = some r) (ht : ∀ kA : Nat → ClassId, (pv_tys kA)[t]? = some (kA t, .object r.1)) (hi : vp_in i n) {j : Nat} (hj : i.toNatClampNeg = j) (hh : h.set a (pv_q t n (va_up f j (some v))) = h2) (n0 : Nat) (hp : pc + 1 = n0) (k : PV sc g M Q dp kc ks n0 lo (st) h2) : PV sc g M Q dp kc ks pc lo (.ref v :: .int i :: .ref a :: st) h := by
  intro p e R s m args below meth c X f1 f2 f3 f4 H locs cells slots ls hH hS h1 h2 hL
  subst hp
  subst hj
  subst hh
  have hlt : i.toNatClampNeg < n := Nat.not_le.mp fun q => hi (Or.inr q)
  have h0 : ¬ i < 0 := fun q => hi (Or.inl q)
  obtain ⟨r', hr', cellV, g1, g2, g3, -⟩ := hH.1 v _ (pv_W_get hv)
  have hcls := (X.2.2.2.2.2.2.2.2.1.1 ci r hc).2
  obtain ⟨kA, comp, k1, k2, k3, -⟩ := (X.2.2.2.2.2.2.2.2.1.2 t _ (ht _)).2
  have hcomp : comp = g.2.1.1 ci := Option.some.inj (k3.symm.trans hcls.1)
  subst hcomp
  obtain ⟨kC, hkC, -⟩ := hcls.2
  refine W.aast X.1 X.2.1 (hH.1 a _ (pv_W_get ha)) (fun q h => by cases h) (fun h => by cases h) k1 k2 rfl hkC ⟨h0, by show _ < (arrV _ _ _).slots.size; rw [arrV_size]; exact hlt⟩ g1 (fun q h => by rw [g3] at h; cases h) (by rw [g2]; exact hkC) (by rw [g2]; exact va_assign hcls) rfl rfl hd fun H1 e1 z oq => ?_
  refine k p e R s m args below meth c X f1 f2 f3 f4 H1 _ cells slots ls ⟨?_, (pv_size hH z _ a)⟩ (hS.put z oq (show g.2.2.2 ≤ g.2.2.2 + a by omega)) h1 h2 hL
  rw [← pv_W_set]
  refine hH.1.set pv_D (pv_W_get ha) ?_ oq
  show H1[g.2.2.2 + a]? = some (vp_cell _ (n, _))
  rw [e1]
  show some (Cell.setSlot (vp_cell (g.2.2.1 t) (n, .inr (.inr (.inr (.inr (fun j => (f j).map (fun a => g.2.2.2 + a))))))) _ _) = some (vp_cell (g.2.2.1 t) (n, .inr (.inr (.inr (.inr (fun j => ((va_up f i.toNatClampNeg (some v)) j).map (fun a => g.2.2.2 + a)))))))
  rw [vp_cell_q, vp_cell_q, arrV_store]
  congr 2
  funext q
  by_cases hq : q = i.toNatClampNeg
  · subst hq
    simp [updV, va_up, va_rf]
  · simp [updV, va_up, hq]
theorem pv_push {D : va_G} {kA : Nat → ClassId} {b : Nat} {h : List pv_C} {H H1 : Heap} (hH : pv_H D kA b h H) (c : pv_C) (z : H1.size = H.size + 1) (o : ∀ q, q < H.size → H1[q]? = H[q]?) (hc : va_at D vwCl (b + h.length, pv_E kA b c) H1) : pv_H D kA b (h ++ [c]) H1 := by
  refine ⟨?_, by rw [z, hH.2, List.length_append]; simp; omega⟩
  rw [← pv_W_push]
  refine (hH.1.kept (fun k x hx => o x.1 ((hH.1 k x hx).lt))).app (fun k x hx => ?_)
  have hz : k < 1 := (List.getElem?_eq_some_iff.mp hx).1
  rw [show k = 0 by omega] at hx
  cases hx
  exact hc
theorem pv_Sp {b : Nat} {H0 H H1 : Heap} {locs : List Loc} (hS : va_S (pv_A b) H0 H locs) (z : H1.size = H.size + 1) (o : ∀ q, q < H.size → H1[q]? = H[q]?) : va_S (pv_A b) H0 H1 locs :=
  ⟨Nat.le_trans hS.1 (by omega), fun x h1 h2 => (o x (Nat.lt_of_lt_of_le h1 hS.1)).trans (hS.2.1 x h1 h2), hS.2.2⟩
theorem pv_newa {sc : pv_S} {g : pv_G} {M : pv_M} {Q : Option Value → List pv_C → Prop} {dp kc ks pc : Nat} {lo st : List Value} {h : List pv_C} {at0 : ArrayType} {n : Int32} {x : vp_A} (hd : decode M.2.2.1 pc = .ok (.newarray at0, 2)) (t : Nat) (ht : ∀ kA : Nat → ClassId, (pv_tys kA)[t]? = some (kA t, newarray.typeOf at0)) (hpr : ∀ (U : State) (cA : ClassId), va_RA U cA (newarray.typeOf at0) → U.vm.findClass ("[" ++ (newarray.typeOf at0).toString) = some cA) (hw : Cond.arrayClass (newarray.typeOf at0) ∈ pv_T) (hn : ¬ n < 0) (N : Nat) (hN : n.toNatClampNeg = N) (hx : ∀ (b : Nat) (cA : ClassId), vp_cell cA (pv_la b x) = arrV cA N (fun _ => defaultValue (newarray.typeOf at0))) (hby : N * componentBytes (newarray.typeOf at0) ≤ 536870912) {r2 : Nat} (hr : h.length = r2) (n0 : Nat) (hp : pc + 2 = n0) (k : PV sc g M Q dp kc ks n0 lo (.ref r2 :: st) (h ++ [.inl (t, x)])) : PV sc g M Q dp (kc + 1) (ks + N) pc lo (.int n :: st) h := by
  intro p e R s m args below meth c X f1 f2 f3 f4 H locs cells slots ls hH hS h1 h2 hL
  subst hp
  subst hr
  refine va_newaK X.1 X.2.1 (X.2.2.2.2.2.2.2.1 _ hw) rfl hd rfl hn hN hby (by omega) (by omega) rfl fun H1 cA e1 z1 o1 hAr hNm => ?_
  have hcA : cA = g.2.2.1 t := Option.some.inj (hNm.symm.trans (hpr _ _ ((X.2.2.2.2.2.2.2.2.1.2 t _ (ht _)).2)))
  subst hcA
  have e0 : H.size = g.2.2.2 + h.length := hH.2
  have q := k p e R s m args below meth c X f1 f2 f3 f4 H1 locs (cells + 1) (slots + N) ls (pv_push hH _ z1 o1 (by show H1[g.2.2.2 + h.length]? = some (vp_cell _ _); rw [hx, ← e0]; exact e1)) (pv_Sp hS z1 o1) (by omega) (by omega) hL
  rw [e0]
  exact q
theorem pv_anew {sc : pv_S} {g : pv_G} {M : pv_M} {Q : Option Value → List pv_C → Prop} {dp kc ks pc : Nat} {lo st : List Value} {h : List pv_C} {idx : Nat} {n : Int32} {C : String} (hd : decode M.2.2.1 pc = .ok (.anewarray idx, 3)) (t : Nat) (ht : ∀ kA : Nat → ClassId, (pv_tys kA)[t]? = some (kA t, .object C)) (hC : C = RX0 ∨ C = RX8) (hw : Cond.classLink M.1 idx C ∈ pv_T) (hn : ¬ n < 0) (N : Nat) (hN : n.toNatClampNeg = N) (hby : N * 4 ≤ 536870912) {r2 : Nat} (hr : h.length = r2) (n0 : Nat) (hp : pc + 3 = n0) (k : PV sc g M Q dp kc ks n0 lo (.ref r2 :: st) (h ++ [pv_q t N (fun _ => none)])) : PV sc g M Q dp (kc + 1) (ks + N) pc lo (.int n :: st) h := by
  intro p e R s m args below meth c X f1 f2 f3 f4 H locs cells slots ls hH hS h1 h2 hL
  subst hp
  subst hr
  subst hN
  have hov : va_AO C s := by rcases hC with rfl | rfl; exact X.2.2.2.2.2.2.2.2.2.2.1; exact X.2.2.2.2.2.2.2.2.2.2.2.1
  refine W.anew X.1 X.2.1 X.2.2.2.2.1 (X.2.2.2.2.2.2.2.1 _ hw) (va_AO.use hov) rfl hd rfl hn hby (by omega) (by omega) fun cA kA comp g1 g2 g3 g4 => ?_
  obtain ⟨kA', comp', k1, k2, k3, k4⟩ := (X.2.2.2.2.2.2.2.2.1.2 t _ (ht _)).2
  have hcA : cA = g.2.2.1 t := Option.some.inj (g1.symm.trans k4)
  subst hcA
  have e0 : H.size = g.2.2.2 + h.length := hH.2
  generalize hH1 : H.push ({ cls := g.2.2.1 t, slots := Array.replicate n.toNatClampNeg .null, vm := .none } : Cell) = H1
  have z1 : H1.size = H.size + 1 := by rw [← hH1, Array.size_push]
  have e1 : H1[H.size]? = some (arrV (g.2.2.1 t) n.toNatClampNeg (fun _ => .null)) := by rw [← hH1, Array.getElem?_push_size, ← arrV_new]
  have o1 : ∀ q : Nat, q < H.size → H1[q]? = H[q]? := fun q hq => by rw [← hH1, Array.getElem?_push, if_neg (Nat.ne_of_lt hq)]
  have q := k p e R s m args below meth c X f1 f2 f3 f4 H1 locs (cells + 1) (slots + n.toNatClampNeg) ls (pv_push hH _ z1 o1 (by show H1[g.2.2.2 + h.length]? = some (vp_cell _ (_, .inr (.inr (.inr (.inr _))))); rw [vp_cell_q, ← e0]; exact e1)) (pv_Sp hS z1 o1) (by omega) (by omega) hL
  rw [e0]
  exact q
theorem pv_new {sc : pv_S} {g : pv_G} {M : pv_M} {Q : Option Value → List pv_C → Prop} {dp kc ks pc : Nat} {lo st : List Value} {h : List pv_C} {idx ci N : Nat} {C : String} {T : u_T} {ty : Nat → FieldType} {fs : List Value} (hd : decode M.2.2.1 pc = .ok (.new idx, 3)) (F : pv_F ci C T N ty) (hw : Cond.classLink M.1 idx C ∈ pv_T) (hw2 : Cond.instantiable C N ∈ pv_T) (hw3 : Cond.initialized C ∈ pv_T) (hfs : ∀ (b j : Nat), j < N → defaultValue (ty j) = vp_V (fs.map (pv_lf b)) j) {r2 : Nat} (hr : h.length = r2) (n0 : Nat) (hp : pc + 3 = n0) (k : PV sc g M Q dp kc ks n0 lo (.ref r2 :: st) (h ++ [pv_o ci fs])) : PV sc g M Q dp (kc + 1) (ks + N) pc lo st h := by
  intro p e R s m args below meth c X f1 f2 f3 f4 H locs cells slots ls hH hS h1 h2 hL
  subst hp
  subst hr
  have hKn := X.2.2.2.2.2.2.2.2.1.1 ci _ F.1
  refine W.newcK X.1 X.2.1 X.2.2.2.2.1 (X.2.2.2.2.2.2.2.1 _ hw) (X.2.2.2.2.2.2.2.1 _ hw2) (X.2.2.2.2.2.2.2.1 _ hw3) rfl hd (by omega) (by omega) hKn.2.1 rfl fun H1 kC hkC e1 z1 o1 => ?_
  have e0 : H.size = g.2.2.2 + h.length := hH.2
  rw [e0] at e1 ⊢
  exact k p e R s m args below meth c X f1 f2 f3 f4 H1 locs (cells + 1) (slots + N) ls (pv_push hH _ (by rw [z1]) (by rw [e0]; rw [e0] at o1; exact o1) ⟨_, F.1, (u_born ty X.2.2.2.2.2.2.2.1 F.2.1 hKn hkC e1 F.2.2.1).to (hfs _)⟩) (pv_Sp hS (by rw [z1]) (by rw [e0]; rw [e0] at o1; exact o1)) (by omega) (by omega) hL
