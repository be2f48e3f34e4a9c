/-! small rows for the laid walks -/
theorem pv_B {g : pv_G} {M : pv_M} {y : MethodName} {Q : Option Value → List pv_C → Prop} {dp kc ks : Nat} {as : List Value} {h0 s1 s2 s3 : List pv_C} (e : s1 ++ s2 = s3) (k : PM g M y Q dp kc ks as ((h0 ++ s1) ++ s2)) : PM g M y Q dp kc ks as (h0 ++ s3) := by
  rw [← e, ← List.append_assoc]; exact k
theorem pv_in0 {i : Int32} {n : Nat} (h : ¬ (i < 0 ∨ n ≤ i.toNatClampNeg)) : vp_in i n := h
theorem pv_z1 (x : Int32) : (0 : Int32) >>> (x &&& 31) = 0 := by
  apply Int32.toBitVec_inj.mp
  simp
theorem pv_z2 (x : Int32) : (0 : Int32) &&& x = 0 := by simp
theorem pv_z3 (x : Int32) : x &&& (0 : Int32) = 0 := by simp
theorem pv_out8 {x : Int32} (c0 : ¬ x = 0) (c1 : ¬ x = 1) (c2 : ¬ x = 2) (c3 : ¬ x = 3) (c4 : ¬ x = 4) (c5 : ¬ x = 5) (c6 : ¬ x = 6) (c7 : ¬ x = 7) : x.toInt < 0 ∨ 7 < x.toInt := by
  have f : ∀ k : Int32, ¬ x = k → x.toInt ≠ k.toInt := fun k h e => h (Int32.toInt_inj.mp e)
  have h0 : x.toInt ≠ 0 := f 0 c0
  have h1 : x.toInt ≠ 1 := f 1 c1
  have h2 : x.toInt ≠ 2 := f 2 c2
  have h3 : x.toInt ≠ 3 := f 3 c3
  have h4 : x.toInt ≠ 4 := f 4 c4
  have h5 : x.toInt ≠ 5 := f 5 c5
  have h6 : x.toInt ≠ 6 := f 6 c6
  have h7 : x.toInt ≠ 7 := f 7 c7
  omega
theorem pv_by {c N : Nat} (e : c ≤ 8) (h : N ≤ 60000000) : N * c ≤ 536870912 := by have := Nat.mul_le_mul_left N e; omega
theorem pv_newa_i {sc : pv_S} {g : pv_G} {M : pv_M} {Q : Option Value → List pv_C → Prop} {dp kc ks pc : Nat} {lo st : List Value} {h : List pv_C} {n : Int32} (hd : decode M.2.2.1 pc = .ok (.newarray .int, 2)) (hw : Cond.arrayClass .int ∈ pv_T) (hn : ¬ n < 0) (N : Nat) (hN : n.toNatClampNeg = N) (hby : N ≤ 60000000) {r2 : Nat} (hr : h.length = r2) (n0 : Nat) (hp : pc + 2 = n0) (k : PV sc g M Q dp kc ks n0 lo (.ref r2 :: st) (h ++ [pv_i N (fun _ => 0)])) : PV sc g M Q dp (kc + 1) (ks + N) pc lo (.int n :: st) h :=
  pv_newa (at0 := .int) (x := (N, .inl (fun _ => 0))) hd 0 (fun _ => rfl) (fun _ _ q => q) hw hn N hN (fun _ _ => rfl) (pv_by (by decide : componentBytes .int ≤ 8) hby) hr n0 hp k
theorem pv_newa_z {sc : pv_S} {g : pv_G} {M : pv_M} {Q : Option Value → List pv_C → Prop} {dp kc ks pc : Nat} {lo st : List Value} {h : List pv_C} {n : Int32} (hd : decode M.2.2.1 pc = .ok (.newarray .boolean, 2)) (hw : Cond.arrayClass .boolean ∈ pv_T) (hn : ¬ n < 0) (N : Nat) (hN : n.toNatClampNeg = N) (hby : N ≤ 60000000) {r2 : Nat} (hr : h.length = r2) (n0 : Nat) (hp : pc + 2 = n0) (k : PV sc g M Q dp kc ks n0 lo (.ref r2 :: st) (h ++ [pv_z N (fun _ => 0)])) : PV sc g M Q dp (kc + 1) (ks + N) pc lo (.int n :: st) h :=
  pv_newa (at0 := .boolean) (x := (N, .inl (fun _ => 0))) hd 1 (fun _ => rfl) (fun _ _ q => q) hw hn N hN (fun _ _ => rfl) (pv_by (by decide : componentBytes .boolean ≤ 8) hby) hr n0 hp k
theorem pv_newa_l {sc : pv_S} {g : pv_G} {M : pv_M} {Q : Option Value → List pv_C → Prop} {dp kc ks pc : Nat} {lo st : List Value} {h : List pv_C} {n : Int32} (hd : decode M.2.2.1 pc = .ok (.newarray .long, 2)) (hw : Cond.arrayClass .long ∈ pv_T) (hn : ¬ n < 0) (N : Nat) (hN : n.toNatClampNeg = N) (hby : N ≤ 60000000) {r2 : Nat} (hr : h.length = r2) (n0 : Nat) (hp : pc + 2 = n0) (k : PV sc g M Q dp kc ks n0 lo (.ref r2 :: st) (h ++ [pv_l N (fun _ => 0)])) : PV sc g M Q dp (kc + 1) (ks + N) pc lo (.int n :: st) h :=
  pv_newa (at0 := .long) (x := (N, .inr (.inl (fun _ => 0)))) hd 2 (fun _ => rfl) (fun _ _ q => q) hw hn N hN (fun _ _ => rfl) (pv_by (by decide : componentBytes .long ≤ 8) hby) hr n0 hp k
theorem pv_newa_b {sc : pv_S} {g : pv_G} {M : pv_M} {Q : Option Value → List pv_C → Prop} {dp kc ks pc : Nat} {lo st : List Value} {h : List pv_C} {n : Int32} (hd : decode M.2.2.1 pc = .ok (.newarray .byte, 2)) (hw : Cond.arrayClass .byte ∈ pv_T) (hn : ¬ n < 0) (N : Nat) (hN : n.toNatClampNeg = N) (hby : N ≤ 60000000) {r2 : Nat} (hr : h.length = r2) (n0 : Nat) (hp : pc + 2 = n0) (k : PV sc g M Q dp kc ks n0 lo (.ref r2 :: st) (h ++ [pv_b N (fun _ => 0)])) : PV sc g M Q dp (kc + 1) (ks + N) pc lo (.int n :: st) h :=
  pv_newa (at0 := .byte) (x := (N, .inl (fun _ => 0))) hd 3 (fun _ => rfl) (fun _ _ q => q) hw hn N hN (fun _ _ => rfl) (pv_by (by decide : componentBytes .byte ≤ 8) hby) hr n0 hp k
theorem pv_z4 (x : Int32) : x &&& (-1 : Int32) = x := by
  apply Int32.toBitVec_inj.mp
  simp
theorem pv_b1 {x k : Int32} (h : x < k) : x.toInt ≤ k.toInt - 1 := by have := Int32.lt_iff_toInt_lt.mp h; omega
theorem pv_b2 {x k : Int32} (h : ¬ x < k) : k.toInt ≤ x.toInt := by rw [Int32.lt_iff_toInt_lt] at h; omega
theorem pv_b3 {x k : Int32} (h : x ≤ k) : x.toInt ≤ k.toInt := Int32.le_iff_toInt_le.mp h
theorem pv_b4 {x k : Int32} (h : ¬ x ≤ k) : k.toInt + 1 ≤ x.toInt := by rw [Int32.le_iff_toInt_le] at h; omega
theorem pv_b5 {x k : Int32} (h : k < x) : k.toInt + 1 ≤ x.toInt := by have := Int32.lt_iff_toInt_lt.mp h; omega
theorem pv_b6 {x k : Int32} (h : ¬ k < x) : x.toInt ≤ k.toInt := by rw [Int32.lt_iff_toInt_lt] at h; omega
theorem pv_b7 {x k : Int32} (h : k ≤ x) : k.toInt ≤ x.toInt := Int32.le_iff_toInt_le.mp h
theorem pv_b8 {x k : Int32} (h : ¬ k ≤ x) : x.toInt ≤ k.toInt - 1 := by rw [Int32.le_iff_toInt_le] at h; omega
theorem pv_b9 {x k : Int32} (h : x = k) : k.toInt ≤ x.toInt := by rw [h]; exact Int.le_refl _
theorem pv_b10 {x k : Int32} (h : x = k) : x.toInt ≤ k.toInt := by rw [h]; exact Int.le_refl _
theorem pv_b11 {x k : Int32} (h1 : k.toInt ≤ x.toInt) (h2 : x.toInt ≤ k.toInt) : x = k := Int32.toInt_inj.mp (by omega)
theorem pv_aloadS_n {g : pv_G} {M : pv_M} {Q : Option Value → List pv_C → Prop} {dp kc ks pc : Nat} {lo st : List Value} {h : List pv_C} {sc : pv_S} {n : Fin 4} (i : Nat) {a : Nat} (hd : decode M.2.2.1 pc = .ok (.aload_n n, 1)) (n0 : Nat) (hp : pc + 1 = n0) (hi : (n : Nat) = i) (hl : lo[i]? = some (.retAddr (a + 1))) (k : PV sc g M Q dp kc ks n0 lo (.retAddr (a + 1) :: st) h) : PV sc g M Q dp kc ks pc lo st h := by
  intro p e R s m args below meth c X f1 f2 f3 f4 H locs cells slots ls hH hS h1 h2 hL
  subst hp
  exact lv_aload_n X.1 X.2.1 hd hi (hL.2.2 _ _ hl (by simp [pv_U])) (k p e R s m args below meth c X f1 f2 f3 f4 H locs cells slots ls hH hS h1 h2 hL)
theorem pv_sld {g : pv_G} {M : pv_M} {Q : Option Value → List pv_C → Prop} {dp kc ks pc : Nat} {lo st : List Value} {h : List pv_C} {b L : Nat} {xs : Nat → Int32} {i : Int32} (hd : decode M.2.2.1 pc = .ok (.iaload, 1)) (hi : vp_in i L) {v : Int32} (hv : xs i.toNatClampNeg = v) (n0 : Nat) (hp : pc + 1 = n0) (k : PV (some (b, L, xs)) g M Q dp kc ks n0 lo (.int v :: st) h) : PV (some (b, L, xs)) g M Q dp kc ks pc lo (.int i :: .retAddr (b + 1) :: st) h := by
  intro p e R s m args below meth c X f1 f2 f3 f4 H locs cells slots ls hH hS h1 h2 hL
  subst hp
  subst hv
  have q := f4 _ rfl
  exact va_sld X.1 X.2.1 q.1 (Nat.lt_of_lt_of_le q.2 f3) (fun z => by have z : g.2.2.2 ≤ b := z; have := q.2; omega) hS hi hd (k p e R s m args below meth c X f1 f2 f3 f4 H locs cells slots ls hH hS h1 h2 hL)
theorem pv_slen {g : pv_G} {M : pv_M} {Q : Option Value → List pv_C → Prop} {dp kc ks pc : Nat} {lo st : List Value} {h : List pv_C} {b L : Nat} {xs : Nat → Int32} (hd : decode M.2.2.1 pc = .ok (.arraylength, 1)) (n0 : Nat) (hp : pc + 1 = n0) (k : PV (some (b, L, xs)) g M Q dp kc ks n0 lo (.int (nI L) :: st) h) : PV (some (b, L, xs)) g M Q dp kc ks pc lo (.retAddr (b + 1) :: st) h := by
  intro p e R s m args below meth c X f1 f2 f3 f4 H locs cells slots ls hH hS h1 h2 hL
  subst hp
  have q := f4 _ rfl
  exact va_slen X.1 X.2.1 q.1 (Nat.lt_of_lt_of_le q.2 f3) (fun z => by have z : g.2.2.2 ≤ b := z; have := q.2; omega) hS hd (k p e R s m args below meth c X f1 f2 f3 f4 H locs cells slots ls hH hS h1 h2 hL)
theorem pv_hp {g : pv_G} {M : pv_M} {Q : Option Value → List pv_C → Prop} {dp kc ks pc : Nat} {lo st : List Value} {h h2 : List pv_C} {sc : pv_S} (he : h = h2) (k : PV sc g M Q dp kc ks pc lo st h2) : PV sc g M Q dp kc ks pc lo st h := by subst he; exact k
