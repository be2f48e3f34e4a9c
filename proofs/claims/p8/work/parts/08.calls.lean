/-! the rules of PV for calls and returns -/
theorem pv_widen {p : Program} {l : Launch} {e : Env} {R : Room} {s : State} {m : MethodId} {args : Array Value} {below : List Frame} {meth : Method} {c : Code} {H : Heap} {locs : List Loc} {cells slots : Nat} {Q : State → Prop} {g : JFrame} (h1 : cells ≤ R.cells) (h2 : slots ≤ R.slots) (k : W p l e R s m args below meth c H locs R.cells R.slots Q g) : W p l e R s m args below meth c H locs cells slots Q g := W.widen h1 h2 k
theorem pv_iret {sc : pv_S} {g : pv_G} {M : pv_M} {Q : Option Value → List pv_C → Prop} {dp kc ks pc : Nat} {lo : List Value} {h : List pv_C} {ty : FieldType} {x : Int32} (hd : decode M.2.2.1 pc = .ok (.ireturn, 1)) (hr : M.2.2.2.2 = some ty) (hn : narrow ty (.int x) = .int x) (hq : Q (some (.int x)) h) : PV sc g M Q dp kc ks pc lo [.int x] h := by
  intro p e R s m args below meth c X f1 f2 f3 f4 H locs cells slots ls hH hS h1 h2 hL
  refine pv_widen (by omega) (by omega) ?_
  exact W.zret X.1 X.2.1 (X.2.2.1.trans hr) hn (fun t ht hW => ⟨_, h, rfl, hq, by rw [ht]; exact hH, hS.F ht⟩) hS.2.2 hd X.2.2.2.2.2.1
theorem pv_lret {sc : pv_S} {g : pv_G} {M : pv_M} {Q : Option Value → List pv_C → Prop} {dp kc ks pc : Nat} {lo : List Value} {h : List pv_C} {x : Int64} (hd : decode M.2.2.1 pc = .ok (.lreturn, 1)) (hr : M.2.2.2.2 = some .long) (hq : Q (some (.long x)) h) : PV sc g M Q dp kc ks pc lo [.long x] h := by
  intro p e R s m args below meth c X f1 f2 f3 f4 H locs cells slots ls hH hS h1 h2 hL
  refine pv_widen (by omega) (by omega) ?_
  exact W.lret X.1 X.2.1 (X.2.2.1.trans hr) (fun t ht hW => ⟨_, h, rfl, hq, by rw [ht]; exact hH, hS.F ht⟩) hS.2.2 hd X.2.2.2.2.2.1
theorem pv_vret {sc : pv_S} {g : pv_G} {M : pv_M} {Q : Option Value → List pv_C → Prop} {dp kc ks pc : Nat} {lo : List Value} {h : List pv_C} (hd : decode M.2.2.1 pc = .ok (.return_, 1)) (hr : M.2.2.2.2 = none) (hq : Q none h) : PV sc g M Q dp kc ks pc lo [] h := by
  intro p e R s m args below meth c X f1 f2 f3 f4 H locs cells slots ls hH hS h1 h2 hL
  refine pv_widen (by omega) (by omega) ?_
  exact W.vret X.1 X.2.1 (X.2.2.1.trans hr) (fun t ht hW => ⟨none, h, rfl, hq, by rw [ht]; exact hH, hS.F ht⟩) hS.2.2 hd X.2.2.2.2.2.1
theorem pv_aret {sc : pv_S} {g : pv_G} {M : pv_M} {Q : Option Value → List pv_C → Prop} {dp kc ks pc : Nat} {lo : List Value} {h : List pv_C} {a : Nat} {C : String} (hd : decode M.2.2.1 pc = .ok (.areturn, 1)) (hr : M.2.2.2.2 = some (.object C)) (hq : Q (some (.ref a)) h) : PV sc g M Q dp kc ks pc lo [.ref a] h := by
  intro p e R s m args below meth c X f1 f2 f3 f4 H locs cells slots ls hH hS h1 h2 hL
  refine pv_widen (by omega) (by omega) ?_
  exact W.aret X.1 X.2.1 (X.2.2.1.trans hr) (Or.inl ⟨C, rfl⟩) (Or.inr ⟨_, rfl⟩) (fun t ht hW => ⟨some (.ref a), h, rfl, hq, by rw [ht]; exact hH, hS.F ht⟩) hS.2.2 hd X.2.2.2.2.2.1
theorem pv_G_of {y : MethodName} {M : pv_M} {n : Nat} (hy : pv_y y M n) : GoodIn pv_T (.code y M.2.2.1 M.2.2.2.1 M.2.2.2.2 :: pv_T) := pv_T_good (fun w hw => by rcases List.mem_cons.mp hw with rfl | q; exact hy.1; exact q)
theorem pv_blind {g : pv_G} {as : List Value} {h : List pv_C} : FrameBlind (fun v U => v = (as.map (pv_lf g.2.2.2)).toArray ∧ g.2.2.2 ≤ U.heap.size ∧ pv_H g.2.1 g.2.2.1 g.2.2.2 h U.heap ∧ pv_J g.2.1 g.2.2.1 g.2.2.2 U) :=
  fun a U gg mk q => ⟨q.1, q.2.1, q.2.2.1, pv_J.same rfl rfl q.2.2.2⟩
theorem pv_goes {g : pv_G} {Q' : Option Value → List pv_C → Prop} {p : Program} {e : Env} {R : Room} {s : State} {m : MethodId} {args : Array Value} {below : List Frame} {meth : Method} {c : Code} {H : Heap} {locs : List Loc} {cells slots mc ms pc : Nat} {ls : Array Slot} {st0 rest : List Value} {a : Array Value} {Z : State → Prop}
    (hr : va_Run p g.1 e R s m args below meth c H locs cells slots mc ms (F0 m pc ls st0) rest (pv_Q g Q' a) (pv_A g.2.2.2)) (hS : va_S (pv_A g.2.2.2) s.heap H locs)
    (kk : ∀ (r : Option Value) (h' : List pv_C) (H1 : Heap) (locs1 : List Loc), Q' r h' → pv_H g.2.1 g.2.2.1 g.2.2.2 h' H1 → va_S (pv_A g.2.2.2) s.heap H1 locs1 → W p g.1 e R s m args below meth c H1 locs1 (cells + mc) (slots + ms) Z (F0 m (pc + 3) ls ((r.map (pv_lf g.2.2.2)).toList ++ rest))) : W p g.1 e R s m args below meth c H locs cells slots Z (F0 m pc ls st0) := by
  intro T hT X
  obtain ⟨v, st₀, t, T', L, h0, X', hL, e1, e2, ⟨r, h', hv, hq, hH, hz, hk⟩, st⟩ := hr T hT X
  cases hv
  rw [h0] at hz hk
  obtain ⟨t2, a1, b1⟩ := kk r h' T'.heap (locs ++ L) hq (by rw [e1]; exact hH)
    ⟨Nat.le_trans hS.1 (by rw [e1]; exact hz), fun q h1 h2 => by rw [e1, hk q (Nat.lt_of_lt_of_le h1 hS.1) h2]; exact hS.2.1 q h1 h2, fun q hq => by
      rcases List.mem_append.mp hq with h | h
      · exact hS.2.2 q h
      · exact hL q h⟩ T' rfl X'
  exact ⟨t2, st t2 a1, b1⟩
theorem pv_stk {b : Nat} (r : Option Value) (st : List Value) : (r.map (pv_lf b)).toList ++ st.map (pv_lf b) = (r.toList ++ st).map (pv_lf b) := by cases r <;> rfl
theorem pv_rev {b : Nat} (as st : List Value) : (as.reverse ++ st).map (pv_lf b) = (as.map (pv_lf b)).reverse ++ st.map (pv_lf b) := by rw [List.map_append, List.map_reverse]
theorem pv_cats {b : Nat} (st : List Value) : ((st.map (pv_lf b)).map fun v => v.category).sum = (st.map fun v => v.category).sum := by
  rw [List.map_map]
  congr 1
  exact List.map_congr_left (fun v _ => pv_lf_cat b v)
theorem pv_callv {sc : pv_S} {g : pv_G} {M : pv_M} {Q : Option Value → List pv_C → Prop} {dp kc ks pc : Nat} {lo st st0 : List Value} {h : List pv_C} {y : MethodName} {M' : pv_M} {n idx a ci : Nat} {as fs : List Value} {r0 : vw_C} {dp' kc' ks' kc2 ks2 : Nat} {Q' : Option Value → List pv_C → Prop}
    (hd : decode M.2.2.1 pc = .ok (.invokevirtual idx, 3)) (hl : Cond.methodLink M.1 idx y ∈ pv_T) (hy : pv_y y M' n) (hyv : Cond.instanceMethod y ∈ pv_T ∧ Cond.selects y.cls y y ∈ pv_T) (ha : h[a]? = some (pv_o ci fs)) (hci : vwCl[ci]? = some r0) (hcl : r0.1 = y.cls) (hM : PM g M' y Q' dp' kc' ks' (.ref a :: as) h) (hn : as.length = n) (hs : as.reverse ++ .ref a :: st = st0) (hw : (st.map fun v => v.category).sum ≤ 8) (hdp : dp' + 1 ≤ dp) (hkc : kc' + kc2 = kc) (hks : ks' + ks2 = ks)
    (n0 : Nat) (hp : pc + 3 = n0) (k : ∀ (r : Option Value) (h' : List pv_C), Q' r h' → PV sc g M Q dp kc2 ks2 n0 lo (r.toList ++ st) h') : PV sc g M Q dp kc ks pc lo st0 h := by
  intro p e R s m args below meth c X f1 f2 f3 f4 H locs cells slots ls hH hS h1 h2 hL
  subst hp
  subst hs
  obtain ⟨cellB, hcB, hoB, hclB⟩ := va_recv X.2.2.2.2.2.2.2.2.1 hH.1 hci (pv_W_get ha)
  have hts := X.2.2.2.2.2.2.2.1
  refine pv_goes (va_runV (As := as.map (pv_lf g.2.2.2)) (rest := st.map (pv_lf g.2.2.2)) (C := y.cls) (n := n) ⟨X.1, X.2.1, X.2.2.2.1, X.2.2.2.2.1, hts⟩ hM ⟨callB_of n hts (pv_G_of hy) rfl rfl rfl (hts _ hy.2.1) (hts _ hl) hy.2.2.1 ⟨by show dp' + 1 ≤ _; omega, by have := hy.2.2.2; show 8 + (M'.2.2.2.1 + 11) + 40 * dp' ≤ _; omega⟩, hts _ hyv.1, hts _ hyv.2⟩ ⟨pv_blind, ⟨cellB, hcB, hoB, by rw [← hcl]; exact hclB⟩, fun U hU hW => ⟨rfl, by rw [hU]; exact Nat.le_trans f3 hS.1, by rw [hU]; exact hH, X.2.2.2.2.2.2.2.2.moved hW hU hS⟩⟩ rfl (by rw [List.length_map]; exact hn) hL.1 (by rw [pv_rev]; rfl) (by rw [pv_cats]; show 2 * 0 + _ ≤ 8; omega) hd ⟨by omega, by omega⟩) hS (fun r h' H1 locs1 hq hH1 hS1 => ?_)
  rw [pv_stk]
  exact k r h' hq p e R s m args below meth c X f1 f2 f3 f4 H1 locs1 _ _ ls hH1 hS1 (by omega) (by omega) hL
theorem pv_calls {sc : pv_S} {g : pv_G} {M : pv_M} {Q : Option Value → List pv_C → Prop} {dp kc ks pc : Nat} {lo st st0 : List Value} {h : List pv_C} {y : MethodName} {M' : pv_M} {n idx : Nat} {as : List Value} {dp' kc' ks' kc2 ks2 : Nat} {Q' : Option Value → List pv_C → Prop}
    (hd : decode M.2.2.1 pc = .ok (.invokestatic idx, 3)) (hl : Cond.methodLink M.1 idx y ∈ pv_T) (hy : pv_y y M' n) (hys : Cond.static y ∈ pv_T) (hM : PM g M' y Q' dp' kc' ks' as h) (hn : as.length = n) (hs : as.reverse ++ st = st0) (hw : (st.map fun v => v.category).sum ≤ 8) (hdp : dp' + 1 ≤ dp) (hkc : kc' + kc2 = kc) (hks : ks' + ks2 = ks)
    (n0 : Nat) (hp : pc + 3 = n0) (k : ∀ (r : Option Value) (h' : List pv_C), Q' r h' → PV sc g M Q dp kc2 ks2 n0 lo (r.toList ++ st) h') : PV sc g M Q dp kc ks pc lo st0 h := by
  intro p e R s m args below meth c X f1 f2 f3 f4 H locs cells slots ls hH hS h1 h2 hL
  subst hp
  subst hs
  have hts := X.2.2.2.2.2.2.2.1
  refine pv_goes (va_runS (As := as.map (pv_lf g.2.2.2)) (rest := st.map (pv_lf g.2.2.2)) (n := n) ⟨X.1, X.2.1, X.2.2.2.1, X.2.2.2.2.1, hts⟩ hM ⟨callB_of n hts (pv_G_of hy) rfl rfl rfl (hts _ hy.2.1) (hts _ hl) hy.2.2.1 ⟨by show dp' + 1 ≤ _; omega, by have := hy.2.2.2; show 8 + (M'.2.2.2.1 + 11) + 40 * dp' ≤ _; omega⟩, hts _ hys⟩ ⟨pv_blind, fun U hU hW => ⟨rfl, by rw [hU]; exact Nat.le_trans f3 hS.1, by rw [hU]; exact hH, X.2.2.2.2.2.2.2.2.moved hW hU hS⟩⟩ rfl (by rw [List.length_map]; exact hn) hL.1 (by rw [pv_rev]) (by rw [pv_cats]; show 2 * 0 + _ ≤ 8; omega) hd ⟨by omega, by omega⟩) hS (fun r h' H1 locs1 hq hH1 hS1 => ?_)
  rw [pv_stk]
  exact k r h' hq p e R s m args below meth c X f1 f2 f3 f4 H1 locs1 _ _ ls hH1 hS1 (by omega) (by omega) hL
theorem pv_calli {sc : pv_S} {g : pv_G} {M : pv_M} {Q : Option Value → List pv_C → Prop} {dp kc ks pc : Nat} {lo st st0 : List Value} {h : List pv_C} {y : MethodName} {M' : pv_M} {n idx a : Nat} {as : List Value} {dp' kc' ks' kc2 ks2 : Nat} {Q' : Option Value → List pv_C → Prop}
    (hd : decode M.2.2.1 pc = .ok (.invokespecial idx, 3)) (hl : Cond.methodLink M.1 idx y ∈ pv_T) (hy : pv_y y M' n) (hyi : y.name = "<init>" ∧ M'.2.2.2.2 = none ∧ Cond.instanceMethod y ∈ pv_T) (hM : PM g M' y Q' dp' kc' ks' (.ref a :: as) h) (hn : as.length = n) (hs : as.reverse ++ .ref a :: st = st0) (hw : (st.map fun v => v.category).sum ≤ 8) (hdp : dp' + 1 ≤ dp) (hkc : kc' + kc2 = kc) (hks : ks' + ks2 = ks)
    (n0 : Nat) (hp : pc + 3 = n0) (k : ∀ (r : Option Value) (h' : List pv_C), Q' r h' → PV sc g M Q dp kc2 ks2 n0 lo (r.toList ++ st) h') : PV sc g M Q dp kc ks pc lo st0 h := by
  intro p e R s m args below meth c X f1 f2 f3 f4 H locs cells slots ls hH hS h1 h2 hL
  subst hp
  subst hs
  have hts := X.2.2.2.2.2.2.2.1
  have hG := pv_G_of hy
  unfold PM at hM
  rw [hyi.2.1] at hM hG
  refine pv_goes (va_runI (As := as.map (pv_lf g.2.2.2)) (rest := st.map (pv_lf g.2.2.2)) (n := n) ⟨X.1, X.2.1, X.2.2.2.1, X.2.2.2.2.1, hts⟩ hM ⟨callB_of n hts hG rfl rfl rfl (hts _ hy.2.1) (hts _ hl) hy.2.2.1 ⟨by show dp' + 1 ≤ _; omega, by have := hy.2.2.2; show 8 + (M'.2.2.2.1 + 11) + 40 * dp' ≤ _; omega⟩, hyi.1, hts _ hyi.2.2⟩ ⟨pv_blind, fun U hU hW => ⟨rfl, by rw [hU]; exact Nat.le_trans f3 hS.1, by rw [hU]; exact hH, X.2.2.2.2.2.2.2.2.moved hW hU hS⟩⟩ rfl (by rw [List.length_map]; exact hn) hL.1 (by rw [pv_rev]; rfl) (by rw [pv_cats]; show 2 * 0 + _ ≤ 8; omega) hd ⟨by omega, by omega⟩) hS (fun r h' H1 locs1 hq hH1 hS1 => ?_)
  rw [pv_stk]
  exact k r h' hq p e R s m args below meth c X f1 f2 f3 f4 H1 locs1 _ _ ls hH1 hS1 (by omega) (by omega) hL
theorem pv_callin {sc : pv_S} {g : pv_G} {M : pv_M} {Q : Option Value → List pv_C → Prop} {dp kc ks pc : Nat} {lo st st0 : List Value} {h : List pv_C} {y : MethodName} {M' : pv_M} {n idx a : Nat} {host : String} {as : List Value} {dp' kc' ks' kc2 ks2 : Nat} {Q' : Option Value → List pv_C → Prop}
    (hd : decode M.2.2.1 pc = .ok (.invokespecial idx, 3)) (hl : (M.1, idx, y, host) ∈ pv_N) (hy : pv_y y M' n) (hyi : y.name = "<init>" ∧ M'.2.2.2.2 = none ∧ Cond.instanceMethod y ∈ pv_T) (hM : PM g M' y Q' dp' kc' ks' (.ref a :: as) h) (hn : as.length = n) (hs : as.reverse ++ .ref a :: st = st0) (hw : (st.map fun v => v.category).sum ≤ 8) (hdp : dp' + 1 ≤ dp) (hkc : kc' + kc2 = kc) (hks : ks' + ks2 = ks)
    (n0 : Nat) (hp : pc + 3 = n0) (k : ∀ (r : Option Value) (h' : List pv_C), Q' r h' → PV sc g M Q dp kc2 ks2 n0 lo (r.toList ++ st) h') : PV sc g M Q dp kc ks pc lo st0 h := by
  intro p e R s m args below meth c X f1 f2 f3 f4 H locs cells slots ls hH hS h1 h2 hL
  subst hp
  subst hs
  have hts := X.2.2.2.2.2.2.2.1
  have hG := pv_G_of hy
  unfold PM at hM
  rw [hyi.2.1] at hM hG
  refine pv_goes (va_runIN (As := as.map (pv_lf g.2.2.2)) (rest := st.map (pv_lf g.2.2.2)) (n := n) ⟨X.1, X.2.1, X.2.2.2.1, X.2.2.2.2.1, hts⟩ hM ⟨va_cnB n hts hG rfl rfl rfl (X.2.2.2.2.2.2.2.2.2.1 _ hl) (hts _ hy.2.1) hy.2.2.1 ⟨by show dp' + 1 ≤ _; omega, by have := hy.2.2.2; show 8 + (M'.2.2.2.1 + 11) + 40 * dp' ≤ _; omega⟩, hyi.1, hts _ hyi.2.2⟩ ⟨pv_blind, fun U hU hW => ⟨rfl, by rw [hU]; exact Nat.le_trans f3 hS.1, by rw [hU]; exact hH, X.2.2.2.2.2.2.2.2.moved hW hU hS⟩⟩ rfl (by rw [List.length_map]; exact hn) hL.1 (by rw [pv_rev]; rfl) (by rw [pv_cats]; show 2 * 0 + _ ≤ 8; omega) hd ⟨by omega, by omega⟩) hS (fun r h' H1 locs1 hq hH1 hS1 => ?_)
  rw [pv_stk]
  exact k r h' hq p e R s m args below meth c X f1 f2 f3 f4 H1 locs1 _ _ ls hH1 hS1 (by omega) (by omega) hL
theorem pv_obj {sc : pv_S} {g : pv_G} {M : pv_M} {Q : Option Value → List pv_C → Prop} {dp kc ks pc : Nat} {lo st : List Value} {h : List pv_C} {idx a : Nat} (hd : decode M.2.2.1 pc = .ok (.invokespecial idx, 3)) (hl : Cond.methodLink M.1 idx objectInit ∈ pv_T) (h3 : Cond.instanceMethod objectInit ∈ pv_T) (h4 : Cond.code objectInit ⟨#[0xb1]⟩ 1 none ∈ pv_T) (hw : (st.map fun v => v.category).sum ≤ 8) (hdp : 1 ≤ dp) (n0 : Nat) (hp : pc + 3 = n0) (k : PV sc g M Q dp kc ks n0 lo st h) : PV sc g M Q dp kc ks pc lo (.ref a :: st) h := by
  intro p e R s m args below meth c X f1 f2 f3 f4 H locs cells slots ls hH hS h1 h2 hL
  subst hp
  have hts := X.2.2.2.2.2.2.2.1
  exact W.objInit X.1 X.2.1 X.2.2.2.2.1 (hts _ hl) (hts _ h3) (hts _ h4) rfl (by rw [X.2.2.2.1]; exact hL.1) rfl hd (by omega) (by rw [pv_cats]; show 2 * 0 + _ + 12 ≤ _; omega) (k p e R s m args below meth c X f1 f2 f3 f4 H locs cells slots ls hH hS h1 h2 hL)
theorem pv_max {sc : pv_S} {g : pv_G} {M : pv_M} {Q : Option Value → List pv_C → Prop} {dp kc ks pc : Nat} {lo st : List Value} {h : List pv_C} {idx : Nat} {x y : Int32} (hd : decode M.2.2.1 pc = .ok (.invokestatic idx, 3)) (hl : Cond.methodLink M.1 idx Lib.Math.max.name ∈ pv_T) (h3 : Cond.static Lib.Math.max.name ∈ pv_T ∧ Cond.initialized "java/lang/Math" ∈ pv_T ∧ Cond.code Lib.Math.max.name Lib.Math.max.code 2 (some .int) ∈ pv_T) (hw : (st.map fun v => v.category).sum ≤ 8) (hdp : 1 ≤ dp) {v : Int32} (hv : (if x < y then y else x) = v) (n0 : Nat) (hp : pc + 3 = n0) (k : PV sc g M Q dp kc ks n0 lo (.int v :: st) h) : PV sc g M Q dp kc ks pc lo (.int y :: .int x :: st) h := by
  intro p e R s m args below meth c X f1 f2 f3 f4 H locs cells slots ls hH hS h1 h2 hL
  subst hp
  subst hv
  have hts := X.2.2.2.2.2.2.2.1
  exact va_mmax X.1 X.2.1 (by rw [X.2.2.2.1]; exact hL.1.symm) X.2.2.2.2.1 (hts _ hl) (hts _ h3.1) (hts _ h3.2.1) (hts _ h3.2.2) (by omega) (by rw [pv_cats]; omega) (by omega) (by omega) hd (k p e R s m args below meth c X f1 f2 f3 f4 H locs cells slots ls hH hS h1 h2 hL)
theorem pv_min {sc : pv_S} {g : pv_G} {M : pv_M} {Q : Option Value → List pv_C → Prop} {dp kc ks pc : Nat} {lo st : List Value} {h : List pv_C} {idx : Nat} {x y : Int32} (hd : decode M.2.2.1 pc = .ok (.invokestatic idx, 3)) (hl : Cond.methodLink M.1 idx Lib.Math.min.name ∈ pv_T) (h3 : Cond.static Lib.Math.min.name ∈ pv_T ∧ Cond.initialized "java/lang/Math" ∈ pv_T ∧ Cond.code Lib.Math.min.name Lib.Math.min.code 2 (some .int) ∈ pv_T) (hw : (st.map fun v => v.category).sum ≤ 8) (hdp : 1 ≤ dp) {v : Int32} (hv : (if y < x then y else x) = v) (n0 : Nat) (hp : pc + 3 = n0) (k : PV sc g M Q dp kc ks n0 lo (.int v :: st) h) : PV sc g M Q dp kc ks pc lo (.int y :: .int x :: st) h := by
  intro p e R s m args below meth c X f1 f2 f3 f4 H locs cells slots ls hH hS h1 h2 hL
  subst hp
  subst hv
  have hts := X.2.2.2.2.2.2.2.1
  exact va_mmin X.1 X.2.1 (by rw [X.2.2.2.1]; exact hL.1.symm) X.2.2.2.2.1 (hts _ hl) (hts _ h3.1) (hts _ h3.2.1) (hts _ h3.2.2) (by omega) (by rw [pv_cats]; omega) (by omega) (by omega) hd (k p e R s m args below meth c X f1 f2 f3 f4 H locs cells slots ls hH hS h1 h2 hL)
def pv_is (r : Option Value) (h2 : List pv_C) : Option Value → List pv_C → Prop := fun a b => a = r ∧ b = h2
theorem pv_k0 {sc : pv_S} {g : pv_G} {M : pv_M} {Q : Option Value → List pv_C → Prop} {dp kc ks pc : Nat} {lo st : List Value} {h2 : List pv_C} (k : PV sc g M Q dp kc ks pc lo st h2) : ∀ (r : Option Value) (h' : List pv_C), pv_is none h2 r h' → PV sc g M Q dp kc ks pc lo (r.toList ++ st) h' := fun r h' q => by obtain ⟨rfl, rfl⟩ := q; exact k
theorem pv_k1 {sc : pv_S} {g : pv_G} {M : pv_M} {Q : Option Value → List pv_C → Prop} {dp kc ks pc : Nat} {lo st : List Value} {h2 : List pv_C} {v : Value} (k : PV sc g M Q dp kc ks pc lo (v :: st) h2) : ∀ (r : Option Value) (h' : List pv_C), pv_is (some v) h2 r h' → PV sc g M Q dp kc ks pc lo (r.toList ++ st) h' := fun r h' q => by obtain ⟨rfl, rfl⟩ := q; exact k
theorem pv_sn {h : List pv_C} {a b : Nat} {c d : pv_C} (hab : a ≠ b) (e : h[b]? = some d) : (h.set a c)[b]? = some d := by rw [List.getElem?_set_ne hab]; exact e
theorem pv_se {h : List pv_C} {a : Nat} {c d : pv_C} (e : h[a]? = some d) : (h.set a c)[a]? = some c := by
  rw [List.getElem?_set_self]
  exact (List.getElem?_eq_some_iff.mp e).1
theorem pv_f1 {h0 suf : List pv_C} {n j : Nat} {c : pv_C} (hn : h0.length = n) (e : suf[j]? = some c) : (h0 ++ suf)[n + j]? = some c := by
  rw [List.getElem?_append_right (by omega), hn, Nat.add_sub_cancel_left]; exact e
theorem pv_f2 {h0 suf : List pv_C} {n j : Nat} {c : pv_C} (hn : h0.length = n) {suf2 : List pv_C} (e : suf.set j c = suf2) : (h0 ++ suf).set (n + j) c = h0 ++ suf2 := by
  rw [List.set_append_right _ _ (by omega), hn, Nat.add_sub_cancel_left, e]
theorem pv_f3 {h0 suf : List pv_C} {n j : Nat} (hn : h0.length = n) (e : suf.length = j) : (h0 ++ suf).length = n + j := by rw [List.length_append, hn, e]
theorem pv_f4 {sc : pv_S} {g : pv_G} {M : pv_M} {Q : Option Value → List pv_C → Prop} {dp kc ks pc : Nat} {lo st : List Value} {h0 s1 s2 s3 : List pv_C} (e : s1 ++ s2 = s3) (k : PV sc g M Q dp kc ks pc lo st (h0 ++ s3)) : PV sc g M Q dp kc ks pc lo st ((h0 ++ s1) ++ s2) := by rw [List.append_assoc, e]; exact k
