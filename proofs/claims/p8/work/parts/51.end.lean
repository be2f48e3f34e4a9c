/-! THE CLAIM OUT OF ONE WALK OF THE LAW'S BODY. Your part is whole_start (and what it stands on); all else here is the same for every law, but numbers. -/
def R_law : String := "StrikeOutLaw"
def lw_P (b : Addr) (xs : List Int32) (args : Array Value) (s : State) : Prop := args = #[.ref b] ∧ s.IntsAt b xs ∧ xs.length ≤ 3072 ∧ (Jvm.Cond.and given_1 narrow_1).before args s = true
def lw_Q (_ : Array Value) (s : State) (o : Outcome) (t : State) : Prop := o = .returned (some (.int 1)) ∧ Framed s o t [] 600000 7302250
def lw_Z (below : List Frame) (a : Array Value) (s : State) : State → Prop := fun t => ∃ o, t.status = .running ∧ Ended t below o ∧ lw_Q a s o t
/-- the law's own end, with 1 on the stack, nothing written that was there before, its room as the claim has it -/
theorem lw_ret {p : Program} {l : Launch} {e : Env} {s : State} {m : MethodId} {below : List Frame} {meth : Method} {c : Code} {b : Nat} (hx : p.tables.exec = Jvm.exec) (hb : c.code = code) (hr : meth.sig.returnType = ret) (hlocks : meth.locks = false) {pc : Nat} {H : Heap} {ls : Array Slot} (hdg : decode code pc = .ok (.ireturn, 1)) : W p l e room_1 s m #[Value.ref b] below meth c H [] 600000 7302250 (lw_Z below #[Value.ref b] s) (F0 m pc ls [.int 1]) := by
  intro T hT X
  obtain ⟨fs, hret, hrun, hended, hW, hframe⟩ := X.leave (v := some (.int 1)) (hlocks := hlocks) (fun h => by rw [hr] at h; cases h)
  have hmeth' : T.vm.method? m = some meth := X.method'
  refine ⟨T.setFrames fs, ?_, .returned (some (.int 1)), hrun, hended, rfl, ⟨_, rfl⟩, hW, hframe⟩
  jvm_step X.here [X.here.top, hx, hb, hdg, hmeth', hr, ret, narrow_b1]
  (try refine ⟨rfl, ?_⟩); (try refine ⟨rfl, ?_⟩)
  first | (intro acts; rw [hret _ acts rfl rfl rfl]) | rw [hret _ _ rfl rfl rfl]
  exact Steps.refl _
/-- what holds at the law's entry: the machine, the code, the tables' words (any of lw_tbl by 'hts w (by decide +kernel)'), the script of L ints xs at the cell b, what the Statement gives of the start (any of its parts by flat_of_before) -/
def lw_At (p : Program) (s : State) (m : MethodId) (meth : Method) (c : Code) (b L : Nat) (xs : Nat → Int32) : Prop :=
  p.tables.exec = Jvm.exec ∧ c.code = code ∧ meth.sig.returnType = ret ∧ c.maxLocals = 4 ∧ s.vm.findClass R_law = some m.cls ∧ (∀ w ∈ lw_tbl, w.before #[Value.ref b] s = true) ∧ va_X b L xs s s.heap ∧ b < s.heap.size ∧ meth.locks = false ∧ (Jvm.Cond.and given_1 narrow_1).before #[Value.ref b] s = true
/-- the classes' numbers and slots -/
theorem pv_cls {s : State} {args : Array Value} (hts : ∀ w ∈ lw_tbl, w.before args s = true) : ∀ k : Nat, ∃ (cC : ClassId) (iS : Nat → Nat), ∀ q : vw_C, vwCl[k]? = some q → u_Kn s q.1 q.2.1 q.2.2 cC iS := by
  intro k
  have hT : ∀ w ∈ pv_T, w.before args s = true := fun w hw => hts w (List.mem_filter.mp hw).1
  match k with
  | 0 =>
    obtain ⟨c, i, h⟩ := u_known (C := RX0) (T := TX0) (N := 4) (n := 4) hT (fun w hw => List.mem_filter.mpr ⟨(by decide +kernel : ∀ w ∈ u_ws RX0 TX0 4, w ∈ lw_tbl) w hw, (by decide +kernel : ∀ w ∈ u_ws RX0 TX0 4, goodWord w = true) w hw⟩) (hts (.instantiable RX0 4) (by decide +kernel))
    exact ⟨c, i, fun q e => by cases e; exact h⟩
  | 1 =>
    obtain ⟨c, i, h⟩ := u_known (C := RX1) (T := TX1) (N := 7) (n := 7) hT (fun w hw => List.mem_filter.mpr ⟨(by decide +kernel : ∀ w ∈ u_ws RX1 TX1 7, w ∈ lw_tbl) w hw, (by decide +kernel : ∀ w ∈ u_ws RX1 TX1 7, goodWord w = true) w hw⟩) (hts (.instantiable RX1 7) (by decide +kernel))
    exact ⟨c, i, fun q e => by cases e; exact h⟩
  | 2 =>
    obtain ⟨c, i, h⟩ := u_known (C := RX2) (T := TX2) (N := 4) (n := 4) hT (fun w hw => List.mem_filter.mpr ⟨(by decide +kernel : ∀ w ∈ u_ws RX2 TX2 4, w ∈ lw_tbl) w hw, (by decide +kernel : ∀ w ∈ u_ws RX2 TX2 4, goodWord w = true) w hw⟩) (hts (.instantiable RX2 4) (by decide +kernel))
    exact ⟨c, i, fun q e => by cases e; exact h⟩
  | 3 =>
    obtain ⟨c, i, h⟩ := u_known (C := RX3) (T := TX3) (N := 10) (n := 10) hT (fun w hw => List.mem_filter.mpr ⟨(by decide +kernel : ∀ w ∈ u_ws RX3 TX3 10, w ∈ lw_tbl) w hw, (by decide +kernel : ∀ w ∈ u_ws RX3 TX3 10, goodWord w = true) w hw⟩) (hts (.instantiable RX3 10) (by decide +kernel))
    exact ⟨c, i, fun q e => by cases e; exact h⟩
  | 4 =>
    obtain ⟨c, i, h⟩ := u_known (C := RX4) (T := TX4) (N := 2) (n := 2) hT (fun w hw => List.mem_filter.mpr ⟨(by decide +kernel : ∀ w ∈ u_ws RX4 TX4 2, w ∈ lw_tbl) w hw, (by decide +kernel : ∀ w ∈ u_ws RX4 TX4 2, goodWord w = true) w hw⟩) (hts (.instantiable RX4 2) (by decide +kernel))
    exact ⟨c, i, fun q e => by cases e; exact h⟩
  | 5 =>
    obtain ⟨c, i, h⟩ := u_known (C := RX5) (T := TX5) (N := 3) (n := 3) hT (fun w hw => List.mem_filter.mpr ⟨(by decide +kernel : ∀ w ∈ u_ws RX5 TX5 3, w ∈ lw_tbl) w hw, (by decide +kernel : ∀ w ∈ u_ws RX5 TX5 3, goodWord w = true) w hw⟩) (hts (.instantiable RX5 3) (by decide +kernel))
    exact ⟨c, i, fun q e => by cases e; exact h⟩
  | 6 =>
    obtain ⟨c, i, h⟩ := u_known (C := RX6) (T := TX6) (N := 12) (n := 12) hT (fun w hw => List.mem_filter.mpr ⟨(by decide +kernel : ∀ w ∈ u_ws RX6 TX6 12, w ∈ lw_tbl) w hw, (by decide +kernel : ∀ w ∈ u_ws RX6 TX6 12, goodWord w = true) w hw⟩) (hts (.instantiable RX6 12) (by decide +kernel))
    exact ⟨c, i, fun q e => by cases e; exact h⟩
  | 7 =>
    obtain ⟨c, i, h⟩ := u_known (C := RX7) (T := TX7) (N := 5) (n := 5) hT (fun w hw => List.mem_filter.mpr ⟨(by decide +kernel : ∀ w ∈ u_ws RX7 TX7 5, w ∈ lw_tbl) w hw, (by decide +kernel : ∀ w ∈ u_ws RX7 TX7 5, goodWord w = true) w hw⟩) (hts (.instantiable RX7 5) (by decide +kernel))
    exact ⟨c, i, fun q e => by cases e; exact h⟩
  | 8 =>
    obtain ⟨c, i, h⟩ := u_known (C := RX8) (T := TX8) (N := 2) (n := 2) hT (fun w hw => List.mem_filter.mpr ⟨(by decide +kernel : ∀ w ∈ u_ws RX8 TX8 2, w ∈ lw_tbl) w hw, (by decide +kernel : ∀ w ∈ u_ws RX8 TX8 2, goodWord w = true) w hw⟩) (hts (.instantiable RX8 2) (by decide +kernel))
    exact ⟨c, i, fun q e => by cases e; exact h⟩
  | 9 =>
    obtain ⟨c, i, h⟩ := u_known (C := RX9) (T := TX9) (N := 5) (n := 5) hT (fun w hw => List.mem_filter.mpr ⟨(by decide +kernel : ∀ w ∈ u_ws RX9 TX9 5, w ∈ lw_tbl) w hw, (by decide +kernel : ∀ w ∈ u_ws RX9 TX9 5, goodWord w = true) w hw⟩) (hts (.instantiable RX9 5) (by decide +kernel))
    exact ⟨c, i, fun q e => by cases e; exact h⟩
  | 10 =>
    obtain ⟨c, i, h⟩ := u_known (C := RX10) (T := TX10) (N := 2) (n := 2) hT (fun w hw => List.mem_filter.mpr ⟨(by decide +kernel : ∀ w ∈ u_ws RX10 TX10 2, w ∈ lw_tbl) w hw, (by decide +kernel : ∀ w ∈ u_ws RX10 TX10 2, goodWord w = true) w hw⟩) (hts (.instantiable RX10 2) (by decide +kernel))
    exact ⟨c, i, fun q e => by cases e; exact h⟩
  | 11 =>
    obtain ⟨c, i, h⟩ := u_known (C := RX11) (T := TX11) (N := 17) (n := 17) hT (fun w hw => List.mem_filter.mpr ⟨(by decide +kernel : ∀ w ∈ u_ws RX11 TX11 17, w ∈ lw_tbl) w hw, (by decide +kernel : ∀ w ∈ u_ws RX11 TX11 17, goodWord w = true) w hw⟩) (hts (.instantiable RX11 17) (by decide +kernel))
    exact ⟨c, i, fun q e => by cases e; exact h⟩
  | 12 =>
    obtain ⟨c, i, h⟩ := u_known (C := RX12) (T := TX12) (N := 64) (n := 64) hT (fun w hw => List.mem_filter.mpr ⟨(by decide +kernel : ∀ w ∈ u_ws RX12 TX12 64, w ∈ lw_tbl) w hw, (by decide +kernel : ∀ w ∈ u_ws RX12 TX12 64, goodWord w = true) w hw⟩) (hts (.instantiable RX12 64) (by decide +kernel))
    exact ⟨c, i, fun q e => by cases e; exact h⟩
  | k + 13 => exact ⟨0, fun _ => 0, fun q e => by simp [vwCl] at e⟩
theorem pv_ark {s : State} {args : Array Value} (hts : ∀ w ∈ lw_tbl, w.before args s = true) : ∀ t : Nat, ∃ cA : ClassId, t < 6 → ArrOfT s cA (pv_ty t) ∧ va_RA s cA (pv_ty t) := by
  intro t
  match t with
  | 0 =>
    obtain ⟨cA, kA, comp, h1, h2, h3⟩ := Cond.arrayClass_spec (hts (.arrayClass .int) (by decide +kernel))
    exact ⟨cA, fun _ => ⟨fun n z => ⟨fun k h => (by cases h), kA, h2, comp, h3⟩, h1⟩⟩
  | 1 =>
    obtain ⟨cA, kA, comp, h1, h2, h3⟩ := Cond.arrayClass_spec (hts (.arrayClass .boolean) (by decide +kernel))
    exact ⟨cA, fun _ => ⟨fun n z => ⟨fun k h => (by cases h), kA, h2, comp, h3⟩, h1⟩⟩
  | 2 =>
    obtain ⟨cA, kA, comp, h1, h2, h3⟩ := Cond.arrayClass_spec (hts (.arrayClass .long) (by decide +kernel))
    exact ⟨cA, fun _ => ⟨fun n z => ⟨fun k h => (by cases h), kA, h2, comp, h3⟩, h1⟩⟩
  | 3 =>
    obtain ⟨cA, kA, comp, h1, h2, h3⟩ := Cond.arrayClass_spec (hts (.arrayClass .byte) (by decide +kernel))
    exact ⟨cA, fun _ => ⟨fun n z => ⟨fun k h => (by cases h), kA, h2, comp, h3⟩, h1⟩⟩
  | 4 =>
    obtain ⟨comp, cA, kA, h1, h2, h3, h4, h5⟩ := Cond.arrayOver_spec (hts (.arrayOver (.object RX0)) (by decide +kernel))
    exact ⟨cA, fun _ => ⟨fun n z => ⟨fun k h => (by cases h), kA, h3, comp, h4⟩, ⟨kA, comp, h3, h4, h1, h5⟩⟩⟩
  | 5 =>
    obtain ⟨comp, cA, kA, h1, h2, h3, h4, h5⟩ := Cond.arrayOver_spec (hts (.arrayOver (.object RX8)) (by decide +kernel))
    exact ⟨cA, fun _ => ⟨fun n z => ⟨fun k h => (by cases h), kA, h3, comp, h4⟩, ⟨kA, comp, h3, h4, h1, h5⟩⟩⟩
  | t + 6 => exact ⟨0, fun h => by omega⟩
set_option maxRecDepth 100000 in
theorem pv_nests : ∀ q ∈ pv_N, Cond.methodLinkNest q.1 q.2.1 q.2.2.1 q.2.2.2 ∈ lw_tbl := by decide +kernel
/-- the String constant and the one static that is read -/
theorem pv_str {s : State} {args : Array Value} (hts : ∀ w ∈ lw_tbl, w.before args s = true) (hgv : (Jvm.Cond.and given_1 narrow_1).before args s = true) : ∃ a6 a7 : Nat, ∀ kA : Nat → ClassId, kA 6 = a6 → kA 7 = a7 → pv_Z kA s.heap.size s := by
  have hs := flat_of_before _ hgv
  have hA : ∀ a : Nat, a < s.heap.size → ¬ pv_A s.heap.size a := fun a h q => Nat.not_lt.mpr q h
  obtain ⟨adK, adV, h1, h2⟩ := vk_Sof (args := args) (s := s) (N := 1) (tm := fun _ => .string "StrikeOut$LawReader" 118) (len := [10]) (byt := [[108, 105, 119, 109, 111, 107, 100, 98, 102, 103]]) (A := pv_A s.heap.size)
    (fun i hi => by rw [show i = 0 by omega]; decide)
    (fun i hi => hs (.exactly (.string "StrikeOut$LawReader" 118) "java/lang/String") (by decide +kernel))
    (fun i hi => hs (.eq (.field (.string "StrikeOut$LawReader" 118) "java/lang/String" "coder" "B") (.int 0)) (by decide +kernel))
    (fun i hi => hs (.arrayOf (.field (.string "StrikeOut$LawReader" 118) "java/lang/String" "value" "[B") .byte) (by decide +kernel))
    (fun i hi => by rw [show i = 0 by omega]; exact hs (.eq (.length (.field (.string "StrikeOut$LawReader" 118) "java/lang/String" "value" "[B")) (.int 10)) (by decide +kernel))
    (fun i hi j hj => by
      have e : i = 0 := by omega
      subst e
      have hj : j < 10 := hj
      match j, hj with
      | 0, _ => exact hs (.eq (.elem (.field (.string "StrikeOut$LawReader" 118) "java/lang/String" "value" "[B") (.int 0)) (.int 108)) (by decide +kernel)
      | 1, _ => exact hs (.eq (.elem (.field (.string "StrikeOut$LawReader" 118) "java/lang/String" "value" "[B") (.int 1)) (.int 105)) (by decide +kernel)
      | 2, _ => exact hs (.eq (.elem (.field (.string "StrikeOut$LawReader" 118) "java/lang/String" "value" "[B") (.int 2)) (.int 119)) (by decide +kernel)
      | 3, _ => exact hs (.eq (.elem (.field (.string "StrikeOut$LawReader" 118) "java/lang/String" "value" "[B") (.int 3)) (.int 109)) (by decide +kernel)
      | 4, _ => exact hs (.eq (.elem (.field (.string "StrikeOut$LawReader" 118) "java/lang/String" "value" "[B") (.int 4)) (.int 111)) (by decide +kernel)
      | 5, _ => exact hs (.eq (.elem (.field (.string "StrikeOut$LawReader" 118) "java/lang/String" "value" "[B") (.int 5)) (.int 107)) (by decide +kernel)
      | 6, _ => exact hs (.eq (.elem (.field (.string "StrikeOut$LawReader" 118) "java/lang/String" "value" "[B") (.int 6)) (.int 100)) (by decide +kernel)
      | 7, _ => exact hs (.eq (.elem (.field (.string "StrikeOut$LawReader" 118) "java/lang/String" "value" "[B") (.int 7)) (.int 98)) (by decide +kernel)
      | 8, _ => exact hs (.eq (.elem (.field (.string "StrikeOut$LawReader" 118) "java/lang/String" "value" "[B") (.int 8)) (.int 102)) (by decide +kernel)
      | 9, _ => exact hs (.eq (.elem (.field (.string "StrikeOut$LawReader" 118) "java/lang/String" "value" "[B") (.int 9)) (.int 103)) (by decide +kernel)
      | j + 10, h => exact absurd h (by omega))
    (fun i j hi hj hne => absurd (show i = j by omega) hne) hA
  refine ⟨adK 0, adV 0, fun kA e6 e7 => ⟨vk_R.of (hts (.stringRef "StrikeOut$LawReader" 118 "liwmokdbfg") (by decide +kernel)) (by rw [e6]; exact h2 0 (by omega)), ?_, va_Zof (hts (.laysStatic "java/lang/String" "COMPACT_STRINGS" "Z") (by decide +kernel)) (hts (.initialized "java/lang/String") (by decide +kernel)) (va_eqi (hs (.eq (.static "java/lang/String" "COMPACT_STRINGS" "Z") (.int 1)) (by decide +kernel))) hA⟩⟩
  rw [e6, e7]
  refine ⟨fun i hi => ?_, fun i j hi hj _ => by omega⟩
  have q := h1.1 i hi
  rw [show i = 0 by omega] at q ⊢
  exact q
theorem pv_start {s : State} {args : Array Value} (hts : ∀ w ∈ lw_tbl, w.before args s = true) (hgv : (Jvm.Cond.and given_1 narrow_1).before args s = true) : ∃ (D : va_G) (kA : Nat → ClassId), pv_J D kA s.heap.size s := by
  have H := pv_cls hts
  have H2 := pv_ark hts
  obtain ⟨a6, a7, hZ⟩ := pv_str hts hgv
  refine ⟨(fun k => Classical.choose (H k), fun k => Classical.choose (Classical.choose_spec (H k))), fun t => if t < 6 then Classical.choose (H2 t) else if t = 6 then a6 else a7, ⟨fun k q hq => Classical.choose_spec (Classical.choose_spec (H k)) q hq, fun k q hq => ?_⟩, fun q hq => va_Nw.of rfl (hts _ (pv_nests q hq)), va_AO.of (hts (.arrayOver (.object RX0)) (by decide +kernel)), va_AO.of (hts (.arrayOver (.object RX8)) (by decide +kernel)), hZ _ rfl rfl⟩
  match k, hq with
  | 0, hq => cases hq; exact Classical.choose_spec (H2 0) (by decide)
  | 1, hq => cases hq; exact Classical.choose_spec (H2 1) (by decide)
  | 2, hq => cases hq; exact Classical.choose_spec (H2 2) (by decide)
  | 3, hq => cases hq; exact Classical.choose_spec (H2 3) (by decide)
  | 4, hq => cases hq; exact Classical.choose_spec (H2 4) (by decide)
  | 5, hq => cases hq; exact Classical.choose_spec (H2 5) (by decide)
  | k + 6, hq => simp [pv_tys] at hq
set_option maxHeartbeats 4000000 in
/-- THE LAW, from its entry -/
theorem whole_start {p : Program} {e : Env} {s : State} {m : MethodId} {below : List Frame} {meth : Method} {c : Code} (l : Launch) {b L : Nat} {xs : Nat → Int32} (hL : L ≤ 3072) (C0 : lw_At p s m meth c b L xs) : W p l e room_1 s m #[Value.ref b] below meth c s.heap [] 0 0 (lw_Z below #[Value.ref b] s) (entryFrame m ([Value.ref b] : List Value).toArray 4) := by
  obtain ⟨hx, hb, hr, hml, hown, hts, hX, hbl, hlocks, hgv⟩ := C0
  obtain ⟨D, kA, hJ⟩ := pv_start hts hgv
  have hl := lv_entry ([.ref b]) (n := 4) (Nat.le_of_ble_eq_true rfl)
  rw [lg_entry_eq]
  generalize (lg_sl ([.ref b]) ++ List.replicate (4 - (lg_sl ([.ref b])).length) Slot.unset).toArray = ls at hl ⊢
  have hl : lv_has ls 4 [(0, .ref b)] := hl
  have key := law_all (l, D, kA, s.heap.size) (b := b) (xs := xs) hL p e room_1 s m #[Value.ref b] below meth c
    ⟨hx, hb, hr, hml, hown, hlocks, fun q => absurd q (by decide), fun w hw => hts w (List.mem_filter.mp hw).1, hJ⟩ (by decide) (by decide) (Nat.le_refl _)
    (fun q hq => by cases hq; exact ⟨hX, hbl⟩) s.heap [] 0 0 ls ⟨fun k q hk => by simp [pv_W] at hk, rfl⟩ va_S.rf (by decide) (by decide)
    ⟨hl.1, hl.2.1, fun i v hi hv => by
      match i, hi with
      | 0, hi => cases hi; exact lv_at hl 0 rfl
      | 1, hi => cases hi; exact absurd rfl hv
      | 2, hi => cases hi; exact absurd rfl hv
      | 3, hi => cases hi; exact absurd rfl hv
      | i + 4, hi => simp at hi⟩
  intro T hT X
  obtain ⟨t, a1, o, b1, b2, ⟨r, h', e1, e2, -, -⟩, L', ⟨f1, f2, f3⟩, f4⟩ := key T hT X
  subst e2
  refine ⟨t, a1, o, b1, b2, e1, f1, f2, f3.weaken (fun y hy hlt => absurd hlt (Nat.not_lt.mpr (f4 y hy))) (Nat.le_refl _) (Nat.le_refl _)⟩
set_option maxHeartbeats 4000000 in
theorem lw_walk (l : Launch) (b : Addr) (xs : List Int32) : MetFree l x (headSpec (Jvm.Cond.code x code maxLocals ret :: tables_1) room_1) (lw_P b xs) (fun _ _ _ _ _ => True) lw_Q := by
  refine MetFree.of_bodyS (code := code) (maxLocals := maxLocals) (ret := ret) (by decide) ?_ ?_
  · intro args s m h hn
    obtain ⟨meth, c, h1, h2, h3, h4, h5, h6, -, -⟩ := Cond.code_spec hn (atoms_spec (ws := Jvm.Cond.code x code maxLocals ret :: tables_1) h _ List.mem_cons_self)
    exact ⟨meth, c, h1, h2, h3, h4, h5, h6⟩
  · intro p e s m args below meth c s₁ B hml0 hP _
    obtain ⟨rfl, hx, hbd, hgv⟩ := hP
    obtain ⟨scr, harrAt, hlist, hof, hsmall⟩ := hx
    obtain ⟨hcb, hkn, -, -⟩ := State.arrayAt?_spec harrAt
    have hown : s.vm.findClass R_law = some m.cls := findClass_of_methodNamed B.named
    have hts0 : ∀ c ∈ (Jvm.Cond.code x code maxLocals ret :: tables_1), c.before #[Value.ref b] s = true := atoms_spec (ws := Jvm.Cond.code x code maxLocals ret :: tables_1) B.pre
    have hts : ∀ w ∈ lw_tbl, w.before #[Value.ref b] s = true := k2_hts_sels lw_privs (fun w hw => hts0 w (List.mem_cons_of_mem _ hw)) lw_privs_ok
    have hml : c.maxLocals = 4 := B.maxLocals_eq (hts0 _ List.mem_cons_self)
    have X₀ : Stand p l e room_1 s m #[Value.ref b] below meth c s₁ [] 0 0 := Stand.of_body B
    have hh0 : s₁.heap = s.heap := by rw [B.state]; rfl
    have hsz : scr.slots.size = xs.length := by rw [← Array.length_toList, hlist, List.length_map]
    have hval : ∀ j : Nat, j < xs.length → scr.slots[j]? = some (.int (xs.getD j 0)) := fun j hj => by
      rw [← Array.getElem?_toList, hlist]
      simp [hj]
    have hbl : b < s.heap.size := (Array.getElem?_eq_some_iff.mp hcb).1
    have hX : va_X b xs.length (fun j => xs.getD j 0) s s.heap := ⟨scr, hcb, hof, hkn, hsz, hval⟩
    have K : W p l e room_1 s m #[Value.ref b] below meth c s₁.heap [] 0 0 (lw_Z below #[Value.ref b] s) (entryFrame m ([Value.ref b] : List Value).toArray 4) := by
      rw [hh0]
      exact whole_start l hbd ⟨B.exec, B.bytes, B.returns, hml, hown, hts, hX, hbl, B.notSynchronized, hgv⟩
    obtain ⟨t, a1, o, b1, b2, b3⟩ := K s₁ rfl X₀
    exact ⟨t, o, a1, b1, b2, b3⟩
theorem lw_pre_spec {args : Array Value} {s : State} (h : (Jvm.Cond.and given_1 narrow_1).before args s = true) (hr : rest_1_c.before args s = true) : ∃ (b : Addr) (xs : List Int32), lw_P b xs args s := by
  have hs := flat_of_before _ h
  have hq := flat_of_before _ hr
  have hc : (Cond.count 1).before args s = true := hs _ (by decide +kernel)
  have harr : (Cond.arrayOf (.arg 0) .int).before args s = true := hs _ (by decide +kernel)
  have hle : (Cond.le (.length (.arg 0)) (.int 3072)).before args s = true := hs _ (by decide +kernel)
  have hlen : (Cond.isInt (.length (.arg 0))).before args s = true := hq _ (by decide +kernel)
  have hall : (Cond.all (.arg 0) (.isInt (.elem (.arg 0) (.index 0)))).before args s = true := hq _ (by decide +kernel)
  obtain ⟨b, xs, hb, hx⟩ := State.ints_of_pre rfl harr hlen hall
  have hsm : xs.length < 2 ^ 31 := hx.choose_spec.2.2.2
  have hev : (Term.length (.arg 0)).eval args s none [] s = some (.int xs.length.toInt32) := hx.length_eval hb
  have hv := Cond.le_ints hev (show (Term.int 3072).eval args s none [] s = some (.int 3072) from rfl)
  have hd : xs.length.toInt32 ≤ 3072 := by
    simpa [Cond.before, Cond.holds, hv] using hle
  have hN : xs.length ≤ 3072 := (Int32.ofNat_le_ofNat hsm (by decide)).mp (show Int32.ofNat xs.length ≤ Int32.ofNat 3072 from hd)
  exact ⟨b, xs, Cond.one_arg hc (show args[0]? = some (.ref b) from hb), hx, hN, h⟩
theorem lw_comes (l : Launch) : Comes l x (Jvm.Cond.code x code maxLocals ret :: tables_1) room_1 (fun tb e args s => Calls_1 tb e args s ∧ rest_1 tb e args s ∧ Pre_1 tb e args s)
    (fun _ _ args s o t => lw_Q args s o t) := by
  intro p e ha hc hk s m args below hf hfit hheap happ hpre
  obtain ⟨b, xs, hP⟩ := lw_pre_spec hpre.2.2 hpre.2.1
  obtain ⟨k, o, h1, h2, h3, hQ⟩ := lw_walk l b xs p e ha hc hk s m args below hf ((Spec.applies_iff_loose hf).mp happ).1 hP trivial
  exact ⟨k, o, h1, h2, h3, hQ⟩
theorem lw_frame {s t : State} {o : Outcome} {args : Array Value} (h : Framed s o t [] 600000 7302250) :
    Framed s o t (fieldLocs frame_1_writes args s ++ arrayLocs frame_1_arrays args s ++ staticLocs frame_1_statics s) 600000 7302250 := h
theorem lw_limb (L : Cond) (hL : ∀ (args : Array Value) (s t : State), L.after args s (.returned (some (.int 1))) t = true) :
    ArmFor flags0 classFile x code maxLocals ret World_1 tables_1 room_1 Calls_1 rest_1 Pre_1
      (fun tb e a s o t => postC L tb e a s o t ∧ Framed s o t (fieldLocs frame_1_writes a s ++ arrayLocs frame_1_arrays a s ++ staticLocs frame_1_statics s) 600000 7302250) := by
  intro l _ _ _ p e ha hc hk s m args below hf hfit hheap happ hpre
  obtain ⟨k, o, h1, h2, h3, rfl, hF⟩ := lw_comes l p e ha hc hk s m args below hf hfit hheap happ hpre
  exact ⟨k, _, h1, h2, h3, hL args s _, lw_frame hF⟩
theorem i_vc : Claimed_1_1 ∧ Claimed_1_2 := ⟨lw_limb limb_1_1 (fun args s t => by simp [limb_1_1, Cond.after, Cond.holds, Cond.value]), lw_limb limb_1_2 (fun args s t => Cond.after_iff.mpr (by
  first | (rw [show limb_1_2 = Cond.eq .result (.int 1) from rfl, Cond.eq_ints (x := 1) (y := 1) rfl rfl]; simp; done) | (simp [limb_1_2, Cond.value, Term.eval]; done)))⟩
