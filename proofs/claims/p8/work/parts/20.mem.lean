/-! the world as a template and a memory: every cell of a fixed layout T, its numbers in m (ints, by address and place), n (longs), r (references that change) -/
/-- a template: an array of a kind and a length, or an object: its number and its fields: none an int, some (inl a) the cell a for good, some (inr k) what r says at k -/
abbrev mv_T : Type := (Nat × Nat) ⊕ (Nat × List (Option (Nat ⊕ Nat)))
def mv_f (m : Nat → Nat → Int32) (r : Nat → Value) (a k : Nat) (d : Option (Nat ⊕ Nat)) : Value := match d with
  | none => .int (m a k)
  | some (.inl b) => .ref b
  | some (.inr j) => r j
def mv_fs (m : Nat → Nat → Int32) (r : Nat → Value) (a : Nat) (ds : List (Option (Nat ⊕ Nat))) : List Value := ds.mapIdx (fun k d => mv_f m r a k d)
/-- arrays: kinds 0, 1, 3 of ints, 2 of longs, 4 and 5 of references: place i holds r (1000 * a + i) -/
def mv_q (r : Nat → Value) (a : Nat) : Nat → Option Nat := fun i => if i < 1000 then (match r (1000 * a + i) with
  | .ref b => some b
  | _ => none) else none
def mv_c (m : Nat → Nat → Int32) (n : Nat → Nat → Int64) (r : Nat → Value) (a : Nat) (t : mv_T) : pv_C := match t with
  | .inl (2, k) => pv_l k (n a)
  | .inl (4, k) => pv_q 4 k (mv_q r a)
  | .inl (5, k) => pv_q 5 k (mv_q r a)
  | .inl (t, k) => .inl (t, k, .inl (m a))
  | .inr (ci, ds) => pv_o ci (mv_fs m r a ds)
def mk (T : List mv_T) (m : Nat → Nat → Int32) (n : Nat → Nat → Int64) (r : Nat → Value) : List pv_C := T.mapIdx (fun a t => mv_c m n r a t)
def up2 {α : Type} (m : Nat → Nat → α) (a i : Nat) (v : α) : Nat → Nat → α := fun b j => if b = a ∧ j = i then v else m b j
def up1 {α : Type} (r : Nat → α) (i : Nat) (v : α) : Nat → α := fun j => if j = i then v else r j
theorem up2_eq {α : Type} (m : Nat → Nat → α) (a i : Nat) (v : α) : up2 m a i v a i = v := by simp [up2]
theorem up2_ne {α : Type} {m : Nat → Nat → α} {a i b j : Nat} {v : α} (h : ¬ (b = a ∧ j = i)) : up2 m a i v b j = m b j := by simp only [up2, if_neg h]
theorem up2_row {m : Nat → Nat → Int32} {a i : Nat} {v : Int32} : up2 m a i v a = upd (m a) i v := by
  funext j
  by_cases h : j = i <;> simp [up2, upd, h]
theorem up2_rowL {m : Nat → Nat → Int64} {a i : Nat} {v : Int64} : up2 m a i v a = vp_updL (m a) i v := by
  funext j
  by_cases h : j = i <;> simp [up2, vp_updL, h]
theorem up2_off {α : Type} {m : Nat → Nat → α} {a i b : Nat} {v : α} (h : b ≠ a) : up2 m a i v b = m b := by
  funext j
  exact up2_ne (fun q => h q.1)
theorem mk_get {T : List mv_T} {m : Nat → Nat → Int32} {n : Nat → Nat → Int64} {r : Nat → Value} {a : Nat} {t : mv_T} (h : T[a]? = some t) : (mk T m n r)[a]? = some (mv_c m n r a t) := by
  simp [mk, List.getElem?_mapIdx, h]
/-- two memories that agree off a cell: one cell is set -/
theorem mk_set {T : List mv_T} {m m' : Nat → Nat → Int32} {n n' : Nat → Nat → Int64} {r r' : Nat → Value} {a : Nat} {t : mv_T} {c : pv_C} (h : T[a]? = some t) (hc : mv_c m' n' r' a t = c) (ho : ∀ b u, T[b]? = some u → b ≠ a → mv_c m' n' r' b u = mv_c m n r b u) : (mk T m n r).set a c = mk T m' n' r' := by
  apply List.ext_getElem?
  intro j
  have hl : a < T.length := (List.getElem?_eq_some_iff.mp h).1
  simp only [mk, List.getElem?_set, List.getElem?_mapIdx, List.length_mapIdx]
  by_cases hj : a = j
  · subst hj
    rw [if_pos rfl, if_pos hl, h, ← hc]
    rfl
  · simp only [hj, if_false]
    cases hu : T[j]? with
    | none => rfl
    | some u => simp [ho j u hu (fun q => hj q.symm)]
theorem mv_c_m {m m' : Nat → Nat → Int32} {n : Nat → Nat → Int64} {r : Nat → Value} {b : Nat} {u : mv_T} (h : m' b = m b) : mv_c m' n r b u = mv_c m n r b u := by
  unfold mv_c
  split <;> first | rfl | (rw [h]) | skip
  all_goals (unfold mv_fs mv_f; simp only [h])
theorem mv_c_n {m : Nat → Nat → Int32} {n n' : Nat → Nat → Int64} {r : Nat → Value} {b : Nat} {u : mv_T} (h : n' b = n b) : mv_c m n' r b u = mv_c m n r b u := by
  unfold mv_c
  split <;> first | rfl | (rw [h])
theorem mk_seti {T : List mv_T} {m : Nat → Nat → Int32} {n : Nat → Nat → Int64} {r : Nat → Value} {a t k i : Nat} {v : Int32} (h : T[a]? = some (.inl (t, k))) (ht : t = 0 ∨ t = 1 ∨ t = 3) : (mk T m n r).set a (.inl (t, k, .inl (upd (m a) i v))) = mk T (up2 m a i v) n r := by
  refine mk_set h ?_ (fun b u _ hb => mv_c_m (up2_off hb))
  rcases ht with rfl | rfl | rfl <;> simp [mv_c, up2_row]
theorem mk_setl {T : List mv_T} {m : Nat → Nat → Int32} {n : Nat → Nat → Int64} {r : Nat → Value} {a k i : Nat} {v : Int64} (h : T[a]? = some (.inl (2, k))) : (mk T m n r).set a (pv_l k (vp_updL (n a) i v)) = mk T m (up2 n a i v) r := by
  refine mk_set h ?_ (fun b u _ hb => mv_c_n (up2_off hb))
  simp [mv_c, up2_rowL]
theorem mv_fs_set {m : Nat → Nat → Int32} {r : Nat → Value} {a k : Nat} {v : Int32} {ds : List (Option (Nat ⊕ Nat))} (hk : ds[k]? = some none) : (mv_fs m r a ds).set k (.int v) = mv_fs (up2 m a k v) r a ds := by
  apply List.ext_getElem?
  intro j
  have hl : k < ds.length := (List.getElem?_eq_some_iff.mp hk).1
  simp only [mv_fs, List.getElem?_set, List.getElem?_mapIdx, List.length_mapIdx]
  by_cases hj : k = j
  · subst hj
    rw [if_pos rfl, if_pos hl, hk]
    simp [mv_f, up2_eq]
  · simp only [hj, if_false]
    cases hu : ds[j]? with
    | none => rfl
    | some d =>
      have e : up2 m a k v a j = m a j := up2_ne (fun q => hj q.2.symm)
      simp [mv_f, e]
theorem mk_seto {T : List mv_T} {m : Nat → Nat → Int32} {n : Nat → Nat → Int64} {r : Nat → Value} {a ci k : Nat} {ds : List (Option (Nat ⊕ Nat))} {v : Int32} (h : T[a]? = some (.inr (ci, ds))) (hk : ds[k]? = some none) : (mk T m n r).set a (pv_o ci ((mv_fs m r a ds).set k (.int v))) = mk T (up2 m a k v) n r := by
  refine mk_set h ?_ (fun b u _ hb => mv_c_m (up2_off hb))
  rw [mv_fs_set hk]
  rfl
theorem mv_fs_get {m : Nat → Nat → Int32} {r : Nat → Value} {a k : Nat} {ds : List (Option (Nat ⊕ Nat))} {d : Option (Nat ⊕ Nat)} (hk : ds[k]? = some d) : (mv_fs m r a ds)[k]? = some (mv_f m r a k d) := by
  simp [mv_fs, List.getElem?_mapIdx, hk]
theorem mv_fs_len {m : Nat → Nat → Int32} {r : Nat → Value} {a : Nat} {ds : List (Option (Nat ⊕ Nat))} : (mv_fs m r a ds).length = ds.length := by simp [mv_fs]
section MV
variable {sc : pv_S} {g : pv_G} {M : pv_M} {Q : Option Value → List pv_C → Prop} {dp kc ks pc : Nat} {lo st : List Value} {T : List mv_T} {m : Nat → Nat → Int32} {n : Nat → Nat → Int64} {r : Nat → Value}
theorem mv_iald {a k : Nat} {i v : Int32} (hd : decode M.2.2.1 pc = .ok (.iaload, 1)) (ha : T[a]? = some (.inl (0, k))) (hi : vp_in i k) (hv : m a i.toNatClampNeg = v) (n0 : Nat) (hp : pc + 1 = n0) (kk : PV sc g M Q dp kc ks n0 lo (.int v :: st) (mk T m n r)) : PV sc g M Q dp kc ks pc lo (.int i :: .ref a :: st) (mk T m n r) := pv_iald hd (mk_get ha) hi hv n0 hp kk
theorem mv_zald {a k : Nat} {i v : Int32} (hd : decode M.2.2.1 pc = .ok (.baload, 1)) (ha : T[a]? = some (.inl (1, k))) (hi : vp_in i k) (hv : m a i.toNatClampNeg = v) (n0 : Nat) (hp : pc + 1 = n0) (kk : PV sc g M Q dp kc ks n0 lo (.int v :: st) (mk T m n r)) : PV sc g M Q dp kc ks pc lo (.int i :: .ref a :: st) (mk T m n r) := pv_zald hd (mk_get ha) hi hv n0 hp kk
theorem mv_bald {a k : Nat} {i v : Int32} (hd : decode M.2.2.1 pc = .ok (.baload, 1)) (ha : T[a]? = some (.inl (3, k))) (hi : vp_in i k) (hv : m a i.toNatClampNeg = v) (n0 : Nat) (hp : pc + 1 = n0) (kk : PV sc g M Q dp kc ks n0 lo (.int v :: st) (mk T m n r)) : PV sc g M Q dp kc ks pc lo (.int i :: .ref a :: st) (mk T m n r) := pv_bald hd (mk_get ha) hi hv n0 hp kk
theorem mv_lald {a k : Nat} {i : Int32} {v : Int64} (hd : decode M.2.2.1 pc = .ok (.laload, 1)) (ha : T[a]? = some (.inl (2, k))) (hi : vp_in i k) (hv : n a i.toNatClampNeg = v) (n0 : Nat) (hp : pc + 1 = n0) (kk : PV sc g M Q dp kc ks n0 lo (.long v :: st) (mk T m n r)) : PV sc g M Q dp kc ks pc lo (.int i :: .ref a :: st) (mk T m n r) := pv_lald hd (mk_get ha) hi hv n0 hp kk
theorem mv_iast {a k : Nat} {i x : Int32} (hd : decode M.2.2.1 pc = .ok (.iastore, 1)) (ha : T[a]? = some (.inl (0, k))) (hi : vp_in i k) {j : Nat} (hj : i.toNatClampNeg = j) (n0 : Nat) (hp : pc + 1 = n0) (kk : PV sc g M Q dp kc ks n0 lo st (mk T (up2 m a j x) n r)) : PV sc g M Q dp kc ks pc lo (.int x :: .int i :: .ref a :: st) (mk T m n r) := pv_iast hd (mk_get ha) hi hj (mk_seti ha (Or.inl rfl)) n0 hp kk
theorem mv_zast {a k : Nat} {i x : Int32} (hd : decode M.2.2.1 pc = .ok (.bastore, 1)) (ha : T[a]? = some (.inl (1, k))) (hi : vp_in i k) {j : Nat} (hj : i.toNatClampNeg = j) {y : Int32} (hy : vp_nar .boolean x = y) (n0 : Nat) (hp : pc + 1 = n0) (kk : PV sc g M Q dp kc ks n0 lo st (mk T (up2 m a j y) n r)) : PV sc g M Q dp kc ks pc lo (.int x :: .int i :: .ref a :: st) (mk T m n r) := by
  subst hy
  exact pv_zast hd (mk_get ha) hi hj (mk_seti ha (Or.inr (Or.inl rfl))) n0 hp kk
theorem mv_bast {a k : Nat} {i x : Int32} (hd : decode M.2.2.1 pc = .ok (.bastore, 1)) (ha : T[a]? = some (.inl (3, k))) (hi : vp_in i k) {j : Nat} (hj : i.toNatClampNeg = j) {y : Int32} (hy : vp_nar .byte x = y) (n0 : Nat) (hp : pc + 1 = n0) (kk : PV sc g M Q dp kc ks n0 lo st (mk T (up2 m a j y) n r)) : PV sc g M Q dp kc ks pc lo (.int x :: .int i :: .ref a :: st) (mk T m n r) := by
  subst hy
  exact pv_bast hd (mk_get ha) hi hj (mk_seti ha (Or.inr (Or.inr rfl))) n0 hp kk
theorem mv_last {a k : Nat} {i : Int32} {x : Int64} (hd : decode M.2.2.1 pc = .ok (.lastore, 1)) (ha : T[a]? = some (.inl (2, k))) (hi : vp_in i k) {j : Nat} (hj : i.toNatClampNeg = j) (n0 : Nat) (hp : pc + 1 = n0) (kk : PV sc g M Q dp kc ks n0 lo st (mk T m (up2 n a j x) r)) : PV sc g M Q dp kc ks pc lo (.long x :: .int i :: .ref a :: st) (mk T m n r) := pv_last hd (mk_get ha) hi hj (mk_setl ha) n0 hp kk
theorem mv_get {idx a ci N : Nat} {C : String} {TT : u_T} {ty : Nat → FieldType} {ds : List (Option (Nat ⊕ Nat))} {d : Option (Nat ⊕ Nat)} {v : Value} (hd : decode M.2.2.1 pc = .ok (.getfield idx, 3)) (F : pv_F ci C TT N ty) (i : Nat) (hw : Cond.fieldLink M.1 idx (TT i).1 (TT i).2.1 (TT i).2.2.1 ∈ pv_T) (hi : i < N) (ha : T[a]? = some (.inr (ci, ds))) (hk : ds[i]? = some d) (hv : mv_f m r a i d = v) (n0 : Nat) (hp : pc + 3 = n0) (kk : PV sc g M Q dp kc ks n0 lo (v :: st) (mk T m n r)) : PV sc g M Q dp kc ks pc lo (.ref a :: st) (mk T m n r) := pv_get hd F i hw hi (mk_get ha) ((mv_fs_get hk).trans (congrArg some hv)) n0 hp kk
theorem mv_put {idx a ci N : Nat} {C : String} {TT : u_T} {ty : Nat → FieldType} {ds : List (Option (Nat ⊕ Nat))} {x : Int32} (hd : decode M.2.2.1 pc = .ok (.putfield idx, 3)) (F : pv_F ci C TT N ty) (i : Nat) (hw : Cond.fieldLink M.1 idx (TT i).1 (TT i).2.1 (TT i).2.2.1 ∈ pv_T) (hi : i < N) (hf : (TT i).2.2.2 = false) (ha : T[a]? = some (.inr (ci, ds))) (hk : ds[i]? = some none) (hn : narrow (ty i) (.int x) = .int x) (hft : fits (ty i) (.int x) = true) (n0 : Nat) (hp : pc + 3 = n0) (kk : PV sc g M Q dp kc ks n0 lo st (mk T (up2 m a i x) n r)) : PV sc g M Q dp kc ks pc lo (.int x :: .ref a :: st) (mk T m n r) :=
  pv_put hd F i hw hi hf (mk_get ha) (by rw [mv_fs_len]; exact (List.getElem?_eq_some_iff.mp hk).1) (fun _ => hn) (fun _ => hft) rfl (mk_seto ha hk) n0 hp kk
end MV
