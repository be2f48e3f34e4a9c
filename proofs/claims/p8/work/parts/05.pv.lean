/-! A pure machine's judgement over the kit's rows: logical addresses (cell k lies at b + k), the whole world as one list of cells. -/
-- kinds of arrays, by number
def pv_ty : Nat → FieldType
  | 0 => .int
  | 1 => .boolean
  | 2 => .long
  | 3 => .byte
  | 4 => .object RX0
  | _ => .object RX8
def pv_tys (kA : Nat → ClassId) : List (ClassId × FieldType) := [(kA 0, pv_ty 0), (kA 1, pv_ty 1), (kA 2, pv_ty 2), (kA 3, pv_ty 3), (kA 4, pv_ty 4), (kA 5, pv_ty 5)]
/-- a cell: an array of a kind, or an object of a class by its number in vwCl -/
abbrev pv_C : Type := (Nat × vp_A) ⊕ (Nat × List Value)
def pv_lf (b : Nat) (v : Value) : Value := match v with
  | .ref a => .ref (b + a)
  | .retAddr (k + 1) => .ref k
  | w => w
def pv_la (b : Nat) (x : vp_A) : vp_A := match x with
  | (n, .inr (.inr (.inr (.inr f)))) => (n, .inr (.inr (.inr (.inr (fun j => (f j).map (fun a => b + a))))))
  | y => y
def pv_E (kA : Nat → ClassId) (b : Nat) (c : pv_C) : va_E := match c with
  | .inl q => .inl (kA q.1, pv_la b q.2)
  | .inr q => .inr (q.1, q.2.map (pv_lf b))
def pv_W (kA : Nat → ClassId) (b : Nat) (h : List pv_C) : va_W := h.mapIdx (fun k c => (b + k, pv_E kA b c))
def pv_A (b : Nat) : Nat → Prop := fun q => b ≤ q
theorem pv_W_get {kA : Nat → ClassId} {b : Nat} {h : List pv_C} {k : Nat} {c : pv_C} (hk : h[k]? = some c) : (pv_W kA b h)[k]? = some (b + k, pv_E kA b c) := by
  simp [pv_W, List.getElem?_mapIdx, hk]
theorem pv_W_at {kA : Nat → ClassId} {b : Nat} {h : List pv_C} {k : Nat} {q : Nat × va_E} (hk : (pv_W kA b h)[k]? = some q) : q.1 = b + k := by
  simp only [pv_W, List.getElem?_mapIdx] at hk
  cases hc : h[k]? with
  | none => simp [hc] at hk
  | some c => simp [hc] at hk; rw [← hk]
theorem pv_W_set {kA : Nat → ClassId} {b : Nat} {h : List pv_C} {k : Nat} (c : pv_C) : (pv_W kA b h).set k (b + k, pv_E kA b c) = pv_W kA b (h.set k c) := by
  apply List.ext_getElem?
  intro j
  simp only [pv_W, List.getElem?_set, List.getElem?_mapIdx, List.length_mapIdx]
  by_cases hj : k = j
  · subst hj
    by_cases hl : k < h.length <;> simp [hl]
  · simp [hj]
theorem pv_W_push {kA : Nat → ClassId} {b : Nat} {h : List pv_C} (c : pv_C) : pv_W kA b h ++ [(b + h.length, pv_E kA b c)] = pv_W kA b (h ++ [c]) := by
  simp [pv_W, List.mapIdx_append]
theorem pv_D {kA : Nat → ClassId} {b : Nat} {h : List pv_C} : va_D (pv_A b) (pv_W kA b h) :=
  ⟨fun i j p q hp hq e => by have h1 := pv_W_at hp; have h2 := pv_W_at hq; omega, fun k q hk => by have h1 := pv_W_at hk; show b ≤ q.1; omega⟩
def pv_H (D : va_G) (kA : Nat → ClassId) (b : Nat) (h : List pv_C) (H : Heap) : Prop := va_P D vwCl (pv_W kA b h) H ∧ H.size = b + h.length
/-- the one String constant, by its place and its bytes' place (kA 6, kA 7), and the one static that is read -/
def pv_Z (kA : Nat → ClassId) (b : Nat) (U : State) : Prop := vk_R "StrikeOut$LawReader" 118 "liwmokdbfg" (kA 6) U ∧ vk_S 1 [10] [[108, 105, 119, 109, 111, 107, 100, 98, 102, 103]] (fun _ => kA 6) (fun _ => kA 7) (pv_A b) U U.heap ∧ va_Z "java/lang/String" "COMPACT_STRINGS" "Z" (.int 1) (pv_A b) U U.heap
theorem pv_Z.moved {kA : Nat → ClassId} {b : Nat} {s U : State} {locs : List Loc} (hW : s.WarmedH U.vm) (hS : va_S (pv_A b) s.heap U.heap locs) (h : pv_Z kA b s) : pv_Z kA b U :=
  ⟨vk_R.warm hW h.1, (vk_S.moved hW.alike h.2.1).kept hS.2.1, (va_Z.moved hW.alike h.2.2).kept hS.2.1⟩
theorem pv_Z.same {kA : Nat → ClassId} {b : Nat} {s U : State} (hv : s.vm = U.vm) (hh : s.heap = U.heap) (h : pv_Z kA b s) : pv_Z kA b U := by
  have ha : s.vm.Alike U.vm := by rw [← hv]; exact Vm.Alike.refl s.vm
  refine ⟨vk_R.same hv.symm h.1, ?_, ?_⟩
  · rw [← hh]; exact vk_S.moved ha h.2.1
  · rw [← hh]; exact va_Z.moved ha h.2.2
/-- what is known of the tables at a state -/
def pv_J (D : va_G) (kA : Nat → ClassId) (b : Nat) (U : State) : Prop := va_K D vwCl (pv_tys kA) U ∧ (∀ q ∈ pv_N, va_Nw (.methodLinkNest q.1 q.2.1 q.2.2.1 q.2.2.2) U) ∧ va_AO RX0 U ∧ va_AO RX8 U ∧ pv_Z kA b U
theorem pv_J.moved {D : va_G} {kA : Nat → ClassId} {b : Nat} {s U : State} {locs : List Loc} {H : Heap} (hW : s.WarmedH U.vm) (hU : U.heap = H) (hS : va_S (pv_A b) s.heap H locs) (h : pv_J D kA b s) : pv_J D kA b U :=
  ⟨va_K.moved hW.alike h.1, fun q hq => va_Nw.warmM hW (h.2.1 q hq), va_AO.moved hW.alike h.2.2.1, va_AO.moved hW.alike h.2.2.2.1, h.2.2.2.2.moved hW (by rw [hU]; exact hS)⟩
theorem pv_J.same {D : va_G} {kA : Nat → ClassId} {b : Nat} {s U : State} (hv : s.vm = U.vm) (hh : s.heap = U.heap) (h : pv_J D kA b s) : pv_J D kA b U :=
  ⟨va_K.moved (by rw [← hv]; exact Vm.Alike.refl s.vm) h.1, fun q hq => va_Nw.same rfl hv (h.2.1 q hq), va_AO.moved (by rw [← hv]; exact Vm.Alike.refl s.vm) h.2.2.1, va_AO.moved (by rw [← hv]; exact Vm.Alike.refl s.vm) h.2.2.2.1, h.2.2.2.2.same hv hh⟩
/-- where it runs: launch, places of the classes, classes of the arrays, base -/
abbrev pv_G : Type := Launch × va_G × (Nat → ClassId) × Nat
def pv_X (g : pv_G) (M : pv_M) (p : Program) (s : State) (m : MethodId) (args : Array Value) (meth : Method) (c : Code) : Prop :=
  p.tables.exec = Jvm.exec ∧ c.code = M.2.2.1 ∧ meth.sig.returnType = M.2.2.2.2 ∧ c.maxLocals = M.2.2.2.1 ∧ s.vm.findClass M.1 = some m.cls ∧ meth.locks = false ∧ (M.2.1 = "<init>" → meth.name = "<init>") ∧ (∀ w ∈ pv_T, w.before args s = true) ∧ pv_J g.2.1 g.2.2.1 g.2.2.2 s
def pv_Q (g : pv_G) (Q : Option Value → List pv_C → Prop) : Array Value → State → Outcome → State → Prop :=
  fun _ st o t => ∃ (r : Option Value) (h' : List pv_C), o = .returned (r.map (pv_lf g.2.2.2)) ∧ Q r h' ∧ pv_H g.2.1 g.2.2.1 g.2.2.2 h' t.heap ∧ va_F (pv_A g.2.2.2) st t
/-- no value: a place of the locals of which nothing is said -/
abbrev pv_U : Value := .retAddr 0
def pv_L (b : Nat) (ls : Array Slot) (nL : Nat) (lo : List Value) : Prop := ls.size = nL ∧ lv_wf ls ∧ ∀ (i : Nat) (v : Value), lo[i]? = some v → v ≠ pv_U → ls[i]? = some (.val (pv_lf b v))
/-- the script, where there is one: its place, how many ints, which -/
abbrev pv_S : Type := Option (Nat × Nat × (Nat → Int32))
def pv_Sc (sc : pv_S) (g : pv_G) (s : State) : Prop := ∀ q, sc = some q → va_X q.1 q.2.1 q.2.2 s s.heap ∧ q.1 < g.2.2.2
/-- THE JUDGEMENT: method M, at pc with locals lo, stack st, cells h, may nest dp frames more, make kc cells of ks slots more; it returns with Q -/
def PV (sc : pv_S) (g : pv_G) (M : pv_M) (Q : Option Value → List pv_C → Prop) (dp kc ks pc : Nat) (lo st : List Value) (h : List pv_C) : Prop :=
  ∀ (p : Program) (e : Env) (R : Room) (s : State) (m : MethodId) (args : Array Value) (below : List Frame) (meth : Method) (c : Code),
    pv_X g M p s m args meth c → dp ≤ R.frames → 40 * dp ≤ R.locals → g.2.2.2 ≤ s.heap.size → pv_Sc sc g s →
    ∀ (H : Heap) (locs : List Loc) (cells slots : Nat) (ls : Array Slot), pv_H g.2.1 g.2.2.1 g.2.2.2 h H → va_S (pv_A g.2.2.2) s.heap H locs → cells + kc ≤ R.cells → slots + ks ≤ R.slots → pv_L g.2.2.2 ls M.2.2.2.1 lo →
    W p g.1 e R s m args below meth c H locs cells slots (MQ below (pv_Q g Q) args s R.cells R.slots (pv_A g.2.2.2)) (F0 m pc ls (st.map (pv_lf g.2.2.2)))
/-- a method's contract -/
def PM (g : pv_G) (M : pv_M) (y : MethodName) (Q : Option Value → List pv_C → Prop) (dp kc ks : Nat) (as : List Value) (h : List pv_C) : Prop :=
  Met g.1 y (.code y M.2.2.1 M.2.2.2.1 M.2.2.2.2 :: pv_T) { frames := dp, cells := kc, slots := ks, locals := 40 * dp }
    (fun v U => v = (as.map (pv_lf g.2.2.2)).toArray ∧ g.2.2.2 ≤ U.heap.size ∧ pv_H g.2.1 g.2.2.1 g.2.2.2 h U.heap ∧ pv_J g.2.1 g.2.2.1 g.2.2.2 U)
    (pv_Q g Q) kc ks (pv_A g.2.2.2)
def pv_en : List Value → List Value
  | [] => []
  | v :: r => if v.category = 2 then v :: pv_U :: pv_en r else v :: pv_en r
theorem pv_lf_cat (b : Nat) (v : Value) : (pv_lf b v).category = v.category := by
  cases v with
  | retAddr k => cases k <;> rfl
  | _ => rfl
theorem pv_en_args {b : Nat} : ∀ (as : List Value) (o i : Nat) (v : Value), (pv_en as)[i]? = some v → v ≠ pv_U → (o + i, pv_lf b v) ∈ lv_args o (as.map (pv_lf b))
  | [], o, i, v, h, _ => by simp [pv_en] at h
  | a :: r, o, i, v, h, hv => by
    simp only [pv_en] at h
    simp only [List.map_cons, lv_args, pv_lf_cat]
    by_cases hc : a.category = 2
    · simp only [hc, if_true] at h ⊢
      match i, h with
      | 0, h => simp at h; subst h; exact List.mem_cons_self
      | 1, h => simp at h; exact absurd h.symm hv
      | i + 2, h =>
        simp at h
        have q := pv_en_args (b := b) r (o + 2) i v h hv
        rw [show o + (i + 2) = o + 2 + i by omega]
        exact List.mem_cons_of_mem _ q
    · simp only [hc, if_false] at h ⊢
      match i, h with
      | 0, h => simp at h; subst h; exact List.mem_cons_self
      | i + 1, h =>
        simp at h
        have q := pv_en_args (b := b) r (o + 1) i v h hv
        rw [show o + (i + 1) = o + 1 + i by omega]
        exact List.mem_cons_of_mem _ q
theorem PM.of {g : pv_G} {M : pv_M} {y : MethodName} {Q : Option Value → List pv_C → Prop} {dp kc ks : Nat} {as : List Value} {h : List pv_C} (k : Nat) {lo : List Value} (hlo : pv_en as ++ List.replicate k pv_U = lo) (hy : plainName y.cls = true) (hc : y.cls = M.1) (hn : y.name = M.2.1) (hsz : ((lg_sl (as.map (pv_lf g.2.2.2))).length ≤ M.2.2.2.1))
    (kk : PV none g M Q dp kc ks 0 lo [] h) : PM g M y Q dp kc ks as h := by
  refine Met.ofW (cc := M.2.2.1) (maxL := M.2.2.2.1) (ret := M.2.2.2.2) hy rfl ?_
  intro p e s m args below meth c s₁ B hml hv
  obtain ⟨rfl, hb, hH, hJ⟩ := hv
  have hts := atoms_spec (ws := .code y M.2.2.1 M.2.2.2.1 M.2.2.2.2 :: pv_T) B.pre
  have hown : s.vm.findClass M.1 = some m.cls := by rw [← hc]; exact findClass_of_methodNamed B.named
  have hin : meth.name = M.2.1 := by rw [← hn]; exact (name_of_methodNamed B.named B.method).1
  have hl := lv_entry (as.map (pv_lf g.2.2.2)) (n := M.2.2.2.1) hsz
  rw [lg_entry_eq]
  have hL : pv_L g.2.2.2 ((lg_sl (as.map (pv_lf g.2.2.2)) ++ List.replicate (M.2.2.2.1 - (lg_sl (as.map (pv_lf g.2.2.2))).length) Slot.unset).toArray) M.2.2.2.1 lo := by
    refine ⟨hl.1, hl.2.1, fun i v hi hv => ?_⟩
    rw [← hlo] at hi
    have h2 : (pv_en as)[i]? = some v := by
      by_cases q : i < (pv_en as).length
      · rw [List.getElem?_append_left q] at hi; exact hi
      · rw [List.getElem?_append_right (by omega), List.getElem?_replicate] at hi
        split at hi
        · exact absurd (Option.some.inj hi).symm hv
        · cases hi
    have h3 := hl.2.2 _ (pv_en_args (b := g.2.2.2) as 0 i v h2 hv)
    simpa using h3
  exact kk p e _ s m _ below meth c ⟨B.exec, B.bytes, B.returns, hml, hown, B.notSynchronized, fun q => hin.trans q, fun w hw => hts w (List.mem_cons_of_mem _ hw), hJ⟩ (Nat.le_refl _) (Nat.le_refl _) hb (fun q hq => by cases hq) s.heap [] 0 0 _ hH va_S.rf (by simp; exact Nat.le_refl _) (by simp; exact Nat.le_refl _) hL
