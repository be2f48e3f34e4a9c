/-! the String constant: its place is g.2.2.1 6, its bytes' place g.2.2.1 7; places of the machine's own as .retAddr (k + 1) -/
section STR
variable {sc : pv_S} {g : pv_G} {M : pv_M} {Q : Option Value → List pv_C → Prop} {dp kc ks pc : Nat} {lo st : List Value} {h : List pv_C}
theorem pv_ldcS (hd : decode M.2.2.1 pc = .ok (.ldc 118, 2)) (hM : M.1 = "StrikeOut$LawReader") (n0 : Nat) (hp : pc + 2 = n0) (k : PV sc g M Q dp kc ks n0 lo (.retAddr (g.2.2.1 6 + 1) :: st) h) : PV sc g M Q dp kc ks pc lo st h := by
  intro p e R s m args below meth c X f1 f2 f3 f4 H locs cells slots ls hH hS h1 h2 hL
  subst hp
  have hown := X.2.2.2.2.1
  rw [hM] at hown
  exact va_ldcS X.1 X.2.1 hown X.2.2.2.2.2.2.2.2.2.2.2.2.1 hd (k p e R s m args below meth c X f1 f2 f3 f4 H locs cells slots ls hH hS h1 h2 hL)
theorem pv_gets {v : Int32} {idx : Nat} (hd : decode M.2.2.1 pc = .ok (.getstatic idx, 3)) (hw : Cond.fieldLink M.1 idx "java/lang/String" "COMPACT_STRINGS" "Z" ∈ pv_T) (n0 : Nat) (hp : pc + 3 = n0) (k : PV sc g M Q dp kc ks n0 lo (.int 1 :: st) h) : PV sc g M Q dp kc ks pc lo st h := by
  intro p e R s m args below meth c X f1 f2 f3 f4 H locs cells slots ls hH hS h1 h2 hL
  subst hp
  exact va_gets X.1 X.2.1 X.2.2.2.2.2.2.2.2.2.2.2.2.2.2 hS X.2.2.2.2.1 (X.2.2.2.2.2.2.2.1 _ hw) (fun _ q => q) hd (k p e R s m args below meth c X f1 f2 f3 f4 H locs cells slots ls hH hS h1 h2 hL)
theorem pv_getC {idx : Nat} (hd : decode M.2.2.1 pc = .ok (.getfield idx, 3)) (hw : Cond.fieldLink M.1 idx "java/lang/String" "coder" "B" ∈ pv_T) (n0 : Nat) (hp : pc + 3 = n0) (k : PV sc g M Q dp kc ks n0 lo (.int 0 :: st) h) : PV sc g M Q dp kc ks pc lo (.retAddr (g.2.2.1 6 + 1) :: st) h := by
  intro p e R s m args below meth c X f1 f2 f3 f4 H locs cells slots ls hH hS h1 h2 hL
  subst hp
  have hZ := (X.2.2.2.2.2.2.2.2.2.2.2.2.2.1.1 0 (by decide)).2.1
  exact va_getX (N := 1) (i := 0) (v := fun _ => .int 0) (ad := fun _ => g.2.2.1 6) X.1 X.2.1 (fun _ _ => hZ) (by decide) hS X.2.2.2.2.1 (X.2.2.2.2.2.2.2.1 _ hw) (fun _ q => q) hd (k p e R s m args below meth c X f1 f2 f3 f4 H locs cells slots ls hH hS h1 h2 hL)
theorem pv_getV {idx : Nat} (hd : decode M.2.2.1 pc = .ok (.getfield idx, 3)) (hw : Cond.fieldLink M.1 idx "java/lang/String" "value" "[B" ∈ pv_T) (n0 : Nat) (hp : pc + 3 = n0) (k : PV sc g M Q dp kc ks n0 lo (.retAddr (g.2.2.1 7 + 1) :: st) h) : PV sc g M Q dp kc ks pc lo (.retAddr (g.2.2.1 6 + 1) :: st) h := by
  intro p e R s m args below meth c X f1 f2 f3 f4 H locs cells slots ls hH hS h1 h2 hL
  subst hp
  have hZ := (X.2.2.2.2.2.2.2.2.2.2.2.2.2.1.1 0 (by decide)).2.2.1
  exact va_getX (N := 1) (i := 0) (v := fun _ => .ref (g.2.2.1 7)) (ad := fun _ => g.2.2.1 6) X.1 X.2.1 (fun _ _ => hZ) (by decide) hS X.2.2.2.2.1 (X.2.2.2.2.2.2.2.1 _ hw) (fun _ q => q) hd (k p e R s m args below meth c X f1 f2 f3 f4 H locs cells slots ls hH hS h1 h2 hL)
theorem pv_strlen (hd : decode M.2.2.1 pc = .ok (.arraylength, 1)) (n0 : Nat) (hp : pc + 1 = n0) (k : PV sc g M Q dp kc ks n0 lo (.int 10 :: st) h) : PV sc g M Q dp kc ks pc lo (.retAddr (g.2.2.1 7 + 1) :: st) h := by
  intro p e R s m args below meth c X f1 f2 f3 f4 H locs cells slots ls hH hS h1 h2 hL
  subst hp
  have hZ := (X.2.2.2.2.2.2.2.2.2.2.2.2.2.1.1 0 (by decide)).2.2.2
  exact va_tlen X.1 X.2.1 hZ hS (v := 10) (by decide) hd (k p e R s m args below meth c X f1 f2 f3 f4 H locs cells slots ls hH hS h1 h2 hL)
theorem pv_strld {i : Int32} (hd : decode M.2.2.1 pc = .ok (.baload, 1)) (hi : vp_in i 10) (n0 : Nat) (hp : pc + 1 = n0) (k : ∀ v : Int32, PV sc g M Q dp kc ks n0 lo (.int v :: st) h) : PV sc g M Q dp kc ks pc lo (.int i :: .retAddr (g.2.2.1 7 + 1) :: st) h := by
  intro p e R s m args below meth c X f1 f2 f3 f4 H locs cells slots ls hH hS h1 h2 hL
  subst hp
  have hZ := (X.2.2.2.2.2.2.2.2.2.2.2.2.2.1.1 0 (by decide)).2.2.2
  exact va_tb X.1 X.2.1 hZ hS hi rfl hd (k _ p e R s m args below meth c X f1 f2 f3 f4 H locs cells slots ls hH hS h1 h2 hL)
end STR
theorem pv_callvS {sc : pv_S} {g : pv_G} {M : pv_M} {Q : Option Value → List pv_C → Prop} {dp kc ks pc : Nat} {lo st st0 : List Value} {h : List pv_C} {y : MethodName} {M' : pv_M} {n idx : Nat} {as : List Value} {dp' kc' ks' kc2 ks2 : Nat} {Q' : Option Value → List pv_C → Prop}
    (hd : decode M.2.2.1 pc = .ok (.invokevirtual idx, 3)) (hl : Cond.methodLink M.1 idx y ∈ pv_T) (hy : pv_y y M' n) (hyv : Cond.instanceMethod y ∈ pv_T ∧ Cond.selects y.cls y y ∈ pv_T) (hcl : y.cls = "java/lang/String") (hM : PM g M' y Q' dp' kc' ks' (.retAddr (g.2.2.1 6 + 1) :: as) h) (hn : as.length = n) (hs : as.reverse ++ .retAddr (g.2.2.1 6 + 1) :: st = st0) (hw : (st.map fun v => v.category).sum ≤ 8) (hdp : dp' + 1 ≤ dp) (hkc : kc' + kc2 = kc) (hks : ks' + ks2 = ks)
    (n0 : Nat) (hp : pc + 3 = n0) (k : ∀ (r : Option Value) (h' : List pv_C), Q' r h' → PV sc g M Q dp kc2 ks2 n0 lo (r.toList ++ st) h') : PV sc g M Q dp kc ks pc lo st0 h := by
  intro p e R s m args below meth c X f1 f2 f3 f4 H locs cells slots ls hH hS h1 h2 hL
  subst hp
  subst hs
  obtain ⟨cellB, hcB, hoB, hclB, hnA⟩ := ((X.2.2.2.2.2.2.2.2.2.2.2.2.2.1.kept hS.2.1).1 0 (by decide)).1
  have hts := X.2.2.2.2.2.2.2.1
  refine pv_goes (va_runV (As := as.map (pv_lf g.2.2.2)) (rest := st.map (pv_lf g.2.2.2)) (C := y.cls) (n := n) ⟨X.1, X.2.1, X.2.2.2.1, X.2.2.2.2.1, hts⟩ hM ⟨callB_of n hts (pv_G_of hy) rfl rfl rfl (hts _ hy.2.1) (hts _ hl) hy.2.2.1 ⟨by show dp' + 1 ≤ _; omega, by have := hy.2.2.2; show 8 + (M'.2.2.2.1 + 11) + 40 * dp' ≤ _; omega⟩, hts _ hyv.1, hts _ hyv.2⟩ ⟨pv_blind, ⟨cellB, hcB, hoB, by rw [hcl]; exact hclB⟩, fun U hU hW => ⟨rfl, by rw [hU]; exact Nat.le_trans f3 hS.1, by rw [hU]; exact hH, X.2.2.2.2.2.2.2.2.moved hW hU hS⟩⟩ rfl (by rw [List.length_map]; exact hn) hL.1 (by rw [pv_rev]; rfl) (by rw [pv_cats]; show 2 * 0 + _ ≤ 8; omega) hd ⟨by omega, by omega⟩) hS (fun r h' H1 locs1 hq hH1 hS1 => ?_)
  rw [pv_stk]
  exact k r h' hq p e R s m args below meth c X f1 f2 f3 f4 H1 locs1 _ _ ls hH1 hS1 (by omega) (by omega) hL
