/-! safety by bounds: ints as fresh names with bounds of their toInt -/
theorem iv_rng (x : Int32) : -2147483648 ≤ x.toInt ∧ x.toInt ≤ 2147483647 := by
  have h1 := Int32.le_toInt x
  have h2 := Int32.toInt_lt x
  omega
theorem iv_bmod {z : Int} (h1 : -2147483648 ≤ z) (h2 : z ≤ 2147483647) : z.bmod (2 ^ 32) = z := by
  rw [Int.bmod_eq_of_le (by omega) (by omega)]
theorem iv_addE {x y : Int32} {X Y : Int} (hx : x.toInt = X) (hy : y.toInt = Y) (h1 : -2147483648 ≤ X + Y) (h2 : X + Y ≤ 2147483647) : (x + y).toInt = X + Y := by
  rw [Int32.toInt_add, hx, hy, iv_bmod h1 h2]
theorem iv_subE {x y : Int32} {X Y : Int} (hx : x.toInt = X) (hy : y.toInt = Y) (h1 : -2147483648 ≤ X - Y) (h2 : X - Y ≤ 2147483647) : (x - y).toInt = X - Y := by
  rw [Int32.toInt_sub, hx, hy, iv_bmod h1 h2]
theorem iv_mulE {x y : Int32} {X Y : Int} (hx : x.toInt = X) (hy : y.toInt = Y) (h1 : -2147483648 ≤ X * Y) (h2 : X * Y ≤ 2147483647) : (x * y).toInt = X * Y := by
  rw [Int32.toInt_mul, hx, hy, iv_bmod h1 h2]
theorem iv_lt {x y : Int32} {X Y : Int} (h : x < y) (hx : x.toInt = X) (hy : y.toInt = Y) : X < Y := by rw [← hx, ← hy]; exact Int32.lt_iff_toInt_lt.mp h
theorem iv_nlt {x y : Int32} {X Y : Int} (h : ¬ x < y) (hx : x.toInt = X) (hy : y.toInt = Y) : Y ≤ X := by rw [Int32.lt_iff_toInt_lt] at h; omega
theorem iv_le {x y : Int32} {X Y : Int} (h : x ≤ y) (hx : x.toInt = X) (hy : y.toInt = Y) : X ≤ Y := by rw [← hx, ← hy]; exact Int32.le_iff_toInt_le.mp h
theorem iv_nle {x y : Int32} {X Y : Int} (h : ¬ x ≤ y) (hx : x.toInt = X) (hy : y.toInt = Y) : Y < X := by rw [Int32.le_iff_toInt_le] at h; omega
theorem iv_eq {x y : Int32} {X Y : Int} (h : x = y) (hx : x.toInt = X) (hy : y.toInt = Y) : X = Y := by rw [← hx, ← hy, h]
theorem iv_ne {x y : Int32} {X Y : Int} (h : ¬ x = y) (hx : x.toInt = X) (hy : y.toInt = Y) : X ≠ Y := fun e => h (Int32.toInt_inj.mp (by omega))
theorem iv_in {i : Int32} {X : Int} {k : Nat} (hx : i.toInt = X) (h1 : 0 ≤ X) (h2 : X < k) : vp_in i k := vp_in_iff.mpr (by rw [hx]; exact ⟨h1, h2⟩)
theorem iv_cl {i : Int32} {X : Int} (hx : i.toInt = X) : i.toNatClampNeg = X.toNat := by rw [← hx]; rfl
theorem iv_div {x y : Int32} {X Y : Int} (hx : x.toInt = X) (hy : y.toInt = Y) (h1 : 0 ≤ X) (h2 : 0 < Y) : (x / y).toInt = X / Y := by
  obtain ⟨a, ha, rfl⟩ := nI_of (x := x) (by rw [Int32.lt_iff_toInt_lt, Int32.toInt_zero, hx]; omega)
  obtain ⟨b, hb, rfl⟩ := nI_of (x := y) (by rw [Int32.lt_iff_toInt_lt, Int32.toInt_zero, hy]; omega)
  rw [nI_toInt ha] at hx
  rw [nI_toInt hb] at hy
  have hq : a / b < 2 ^ 31 := Nat.lt_of_le_of_lt (Nat.div_le_self a b) ha
  rw [pk_div ha (by omega) hb, nI_toInt hq, ← hx, ← hy]
  exact (Int.natCast_ediv a b)
theorem iv_rem {x y : Int32} {X Y : Int} (hx : x.toInt = X) (hy : y.toInt = Y) (h1 : 0 ≤ X) (h2 : 0 < Y) : (x - x / y * y).toInt = X % Y := by
  obtain ⟨a, ha, rfl⟩ := nI_of (x := x) (by rw [Int32.lt_iff_toInt_lt, Int32.toInt_zero, hx]; omega)
  obtain ⟨b, hb, rfl⟩ := nI_of (x := y) (by rw [Int32.lt_iff_toInt_lt, Int32.toInt_zero, hy]; omega)
  rw [nI_toInt ha] at hx
  rw [nI_toInt hb] at hy
  have hb0 : 0 < b := by omega
  have hq : a % b < 2 ^ 31 := Nat.lt_trans (Nat.mod_lt a hb0) hb
  rw [pk_rem ha hb0 hb, nI_toInt hq, ← hx, ← hy]
  exact (Int.natCast_emod a b)
theorem iv_mask {x y : Int32} (k : Nat) (hy : y.toBitVec.toNat = 2 ^ k - 1) (hk : k ≤ 30) : 0 ≤ (x &&& y).toInt ∧ (x &&& y).toInt < 2 ^ k := by
  obtain ⟨j, hj, e⟩ := pk_andE x k hy
  have hp : 2 ^ k ≤ 2 ^ 30 := Nat.pow_le_pow_right (by decide) hk
  rw [e, nI_toInt (by omega)]
  have : ((2 ^ k : Nat) : Int) = 2 ^ k := by simp
  omega
/-- the bounds of all numbers of the memory -/
def IV (B : Nat → Nat → Int × Int) (m : Nat → Nat → Int32) : Prop := ∀ a i, (B a i).1 ≤ (m a i).toInt ∧ (m a i).toInt ≤ (B a i).2
theorem IV.set {B : Nat → Nat → Int × Int} {m : Nat → Nat → Int32} (h : IV B m) {a i : Nat} {v : Int32} (h1 : (B a i).1 ≤ v.toInt) (h2 : v.toInt ≤ (B a i).2) : IV B (up2 m a i v) := by
  intro b j
  by_cases q : b = a ∧ j = i
  · obtain ⟨rfl, rfl⟩ := q
    rw [up2_eq]
    exact ⟨h1, h2⟩
  · rw [up2_ne q]
    exact h b j
section IVS
variable {sc : pv_S} {g : pv_G} {M : pv_M} {Q : Option Value → List pv_C → Prop} {dp kc ks pc : Nat} {lo st : List Value} {h : List pv_C} {T : List mv_T} {m : Nat → Nat → Int32} {n : Nat → Nat → Int64} {r : Nat → Value} {B : Nat → Nat → Int × Int}
theorem iv_iadd {x y : Int32} {X Y : Int} (hd : decode M.2.2.1 pc = .ok (.iadd, 1)) (n0 : Nat) (hp : pc + 1 = n0) (hx : x.toInt = X) (hy : y.toInt = Y) (h1 : -2147483648 ≤ X + Y) (h2 : X + Y ≤ 2147483647) (k : ∀ v : Int32, v.toInt = X + Y → PV sc g M Q dp kc ks n0 lo (.int v :: st) h) : PV sc g M Q dp kc ks pc lo (.int y :: .int x :: st) h := pv_iadd hd n0 hp rfl (k _ (iv_addE hx hy h1 h2))
theorem iv_isub {x y : Int32} {X Y : Int} (hd : decode M.2.2.1 pc = .ok (.isub, 1)) (n0 : Nat) (hp : pc + 1 = n0) (hx : x.toInt = X) (hy : y.toInt = Y) (h1 : -2147483648 ≤ X - Y) (h2 : X - Y ≤ 2147483647) (k : ∀ v : Int32, v.toInt = X - Y → PV sc g M Q dp kc ks n0 lo (.int v :: st) h) : PV sc g M Q dp kc ks pc lo (.int y :: .int x :: st) h := pv_isub hd n0 hp rfl (k _ (iv_subE hx hy h1 h2))
theorem iv_imul {x y : Int32} {X Y : Int} (hd : decode M.2.2.1 pc = .ok (.imul, 1)) (n0 : Nat) (hp : pc + 1 = n0) (hx : x.toInt = X) (hy : y.toInt = Y) (h1 : -2147483648 ≤ X * Y) (h2 : X * Y ≤ 2147483647) (k : ∀ v : Int32, v.toInt = X * Y → PV sc g M Q dp kc ks n0 lo (.int v :: st) h) : PV sc g M Q dp kc ks pc lo (.int y :: .int x :: st) h := pv_imul hd n0 hp rfl (k _ (iv_mulE hx hy h1 h2))
theorem iv_idiv {x y : Int32} {X Y : Int} (hd : decode M.2.2.1 pc = .ok (.idiv, 1)) (n0 : Nat) (hp : pc + 1 = n0) (hx : x.toInt = X) (hy : y.toInt = Y) (h1 : 0 ≤ X) (h2 : 0 < Y) (k : ∀ v : Int32, v.toInt = X / Y → PV sc g M Q dp kc ks n0 lo (.int v :: st) h) : PV sc g M Q dp kc ks pc lo (.int y :: .int x :: st) h := pv_idiv hd n0 hp (fun e => by rw [e, Int32.toInt_zero] at hy; omega) rfl (k _ (iv_div hx hy h1 h2))
theorem iv_irem {x y : Int32} {X Y : Int} (hd : decode M.2.2.1 pc = .ok (.irem, 1)) (n0 : Nat) (hp : pc + 1 = n0) (hx : x.toInt = X) (hy : y.toInt = Y) (h1 : 0 ≤ X) (h2 : 0 < Y) (k : ∀ v : Int32, v.toInt = X % Y → PV sc g M Q dp kc ks n0 lo (.int v :: st) h) : PV sc g M Q dp kc ks pc lo (.int y :: .int x :: st) h := pv_irem hd n0 hp (fun e => by rw [e, Int32.toInt_zero] at hy; omega) rfl (k _ (iv_rem hx hy h1 h2))
theorem iv_iandm {x y : Int32} (hd : decode M.2.2.1 pc = .ok (.iand, 1)) (n0 : Nat) (hp : pc + 1 = n0) (q : Nat) (hy : y.toBitVec.toNat = 2 ^ q - 1) (hq : q ≤ 30) (k : ∀ v : Int32, v = x &&& y → 0 ≤ v.toInt → v.toInt < 2 ^ q → PV sc g M Q dp kc ks n0 lo (.int v :: st) h) : PV sc g M Q dp kc ks pc lo (.int y :: .int x :: st) h := pv_iand hd n0 hp rfl (k _ rfl (iv_mask q hy hq).1 (iv_mask q hy hq).2)
theorem iv_inc {i : Nat} {c : Int} {x : Int32} {X C : Int} (hd : decode M.2.2.1 pc = .ok (.iinc i c, 3)) (n0 : Nat) (hp : pc + 3 = n0) (hl : lo[i]? = some (.int x)) (hn : i < M.2.2.2.1) (hnd : pv_nd lo = true) (hx : x.toInt = X) (hc : (Int32.ofInt c).toInt = C) (h1 : -2147483648 ≤ X + C) (h2 : X + C ≤ 2147483647) (k : ∀ v : Int32, v.toInt = X + C → PV sc g M Q dp kc ks n0 (pv_st lo i (.int v)) st h) : PV sc g M Q dp kc ks pc lo st h := pv_iinc hd n0 hp hl rfl hn hnd rfl (k _ (iv_addE hx hc h1 h2))
theorem iv_iald {a k : Nat} {i : Int32} {X l1 l2 : Int} (hd : decode M.2.2.1 pc = .ok (.iaload, 1)) (ha : T[a]? = some (.inl (0, k))) (hx : i.toInt = X) (h1 : 0 ≤ X) (h2 : X < k) (I : IV B m) (hB : ∀ j, B a j = (l1, l2)) (n0 : Nat) (hp : pc + 1 = n0) (kk : ∀ v : Int32, v = m a X.toNat → l1 ≤ v.toInt → v.toInt ≤ l2 → PV sc g M Q dp kc ks n0 lo (.int v :: st) (mk T m n r)) : PV sc g M Q dp kc ks pc lo (.int i :: .ref a :: st) (mk T m n r) := mv_iald hd ha (iv_in hx h1 h2) (congrArg (m a) (iv_cl hx)) n0 hp (kk _ rfl (by have := (I a X.toNat).1; rw [hB] at this; exact this) (by have := (I a X.toNat).2; rw [hB] at this; exact this))
theorem iv_zald {a k : Nat} {i : Int32} {X l1 l2 : Int} (hd : decode M.2.2.1 pc = .ok (.baload, 1)) (ha : T[a]? = some (.inl (1, k))) (hx : i.toInt = X) (h1 : 0 ≤ X) (h2 : X < k) (I : IV B m) (hB : ∀ j, B a j = (l1, l2)) (n0 : Nat) (hp : pc + 1 = n0) (kk : ∀ v : Int32, v = m a X.toNat → l1 ≤ v.toInt → v.toInt ≤ l2 → PV sc g M Q dp kc ks n0 lo (.int v :: st) (mk T m n r)) : PV sc g M Q dp kc ks pc lo (.int i :: .ref a :: st) (mk T m n r) := mv_zald hd ha (iv_in hx h1 h2) (congrArg (m a) (iv_cl hx)) n0 hp (kk _ rfl (by have := (I a X.toNat).1; rw [hB] at this; exact this) (by have := (I a X.toNat).2; rw [hB] at this; exact this))
theorem iv_bald {a k : Nat} {i : Int32} {X l1 l2 : Int} (hd : decode M.2.2.1 pc = .ok (.baload, 1)) (ha : T[a]? = some (.inl (3, k))) (hx : i.toInt = X) (h1 : 0 ≤ X) (h2 : X < k) (I : IV B m) (hB : ∀ j, B a j = (l1, l2)) (n0 : Nat) (hp : pc + 1 = n0) (kk : ∀ v : Int32, v = m a X.toNat → l1 ≤ v.toInt → v.toInt ≤ l2 → PV sc g M Q dp kc ks n0 lo (.int v :: st) (mk T m n r)) : PV sc g M Q dp kc ks pc lo (.int i :: .ref a :: st) (mk T m n r) := mv_bald hd ha (iv_in hx h1 h2) (congrArg (m a) (iv_cl hx)) n0 hp (kk _ rfl (by have := (I a X.toNat).1; rw [hB] at this; exact this) (by have := (I a X.toNat).2; rw [hB] at this; exact this))
theorem iv_iast {a k : Nat} {i x : Int32} {X l1 l2 : Int} (hd : decode M.2.2.1 pc = .ok (.iastore, 1)) (ha : T[a]? = some (.inl (0, k))) (hx : i.toInt = X) (h1 : 0 ≤ X) (h2 : X < k) (I : IV B m) (hB : ∀ j, B a j = (l1, l2)) (h3 : l1 ≤ x.toInt) (h4 : x.toInt ≤ l2) (n0 : Nat) (hp : pc + 1 = n0) (kk : ∀ m' : Nat → Nat → Int32, m' = up2 m a X.toNat x → IV B m' → PV sc g M Q dp kc ks n0 lo st (mk T m' n r)) : PV sc g M Q dp kc ks pc lo (.int x :: .int i :: .ref a :: st) (mk T m n r) := mv_iast hd ha (iv_in hx h1 h2) (iv_cl hx) n0 hp (kk _ rfl (I.set (by rw [hB]; exact h3) (by rw [hB]; exact h4)))
theorem iv_zast {a k : Nat} {i x y : Int32} {X l1 l2 : Int} (hd : decode M.2.2.1 pc = .ok (.bastore, 1)) (ha : T[a]? = some (.inl (1, k))) (hx : i.toInt = X) (h1 : 0 ≤ X) (h2 : X < k) (I : IV B m) (hB : ∀ j, B a j = (l1, l2)) (hy : vp_nar .boolean x = y) (h3 : l1 ≤ y.toInt) (h4 : y.toInt ≤ l2) (n0 : Nat) (hp : pc + 1 = n0) (kk : ∀ m' : Nat → Nat → Int32, m' = up2 m a X.toNat y → IV B m' → PV sc g M Q dp kc ks n0 lo st (mk T m' n r)) : PV sc g M Q dp kc ks pc lo (.int x :: .int i :: .ref a :: st) (mk T m n r) := mv_zast hd ha (iv_in hx h1 h2) (iv_cl hx) hy n0 hp (kk _ rfl (I.set (by rw [hB]; exact h3) (by rw [hB]; exact h4)))
theorem iv_bast {a k : Nat} {i x y : Int32} {X l1 l2 : Int} (hd : decode M.2.2.1 pc = .ok (.bastore, 1)) (ha : T[a]? = some (.inl (3, k))) (hx : i.toInt = X) (h1 : 0 ≤ X) (h2 : X < k) (I : IV B m) (hB : ∀ j, B a j = (l1, l2)) (hy : vp_nar .byte x = y) (h3 : l1 ≤ y.toInt) (h4 : y.toInt ≤ l2) (n0 : Nat) (hp : pc + 1 = n0) (kk : ∀ m' : Nat → Nat → Int32, m' = up2 m a X.toNat y → IV B m' → PV sc g M Q dp kc ks n0 lo st (mk T m' n r)) : PV sc g M Q dp kc ks pc lo (.int x :: .int i :: .ref a :: st) (mk T m n r) := mv_bast hd ha (iv_in hx h1 h2) (iv_cl hx) hy n0 hp (kk _ rfl (I.set (by rw [hB]; exact h3) (by rw [hB]; exact h4)))
theorem iv_lald {a k : Nat} {i : Int32} {X : Int} (hd : decode M.2.2.1 pc = .ok (.laload, 1)) (ha : T[a]? = some (.inl (2, k))) (hx : i.toInt = X) (h1 : 0 ≤ X) (h2 : X < k) (n0 : Nat) (hp : pc + 1 = n0) (kk : ∀ v : Int64, v = n a X.toNat → PV sc g M Q dp kc ks n0 lo (.long v :: st) (mk T m n r)) : PV sc g M Q dp kc ks pc lo (.int i :: .ref a :: st) (mk T m n r) := mv_lald hd ha (iv_in hx h1 h2) (congrArg (n a) (iv_cl hx)) n0 hp (kk _ rfl)
theorem iv_last {a k : Nat} {i : Int32} {x : Int64} {X : Int} (hd : decode M.2.2.1 pc = .ok (.lastore, 1)) (ha : T[a]? = some (.inl (2, k))) (hx : i.toInt = X) (h1 : 0 ≤ X) (h2 : X < k) (n0 : Nat) (hp : pc + 1 = n0) (kk : ∀ n' : Nat → Nat → Int64, n' = up2 n a X.toNat x → PV sc g M Q dp kc ks n0 lo st (mk T m n' r)) : PV sc g M Q dp kc ks pc lo (.long x :: .int i :: .ref a :: st) (mk T m n r) := mv_last hd ha (iv_in hx h1 h2) (iv_cl hx) n0 hp (kk _ rfl)
theorem iv_get {idx a ci N : Nat} {C : String} {TT : u_T} {ty : Nat → FieldType} {ds : List (Option (Nat ⊕ Nat))} {l1 l2 : Int} (hd : decode M.2.2.1 pc = .ok (.getfield idx, 3)) (F : pv_F ci C TT N ty) (i : Nat) (hw : Cond.fieldLink M.1 idx (TT i).1 (TT i).2.1 (TT i).2.2.1 ∈ pv_T) (hi : i < N) (ha : T[a]? = some (.inr (ci, ds))) (hk : ds[i]? = some none) (I : IV B m) (hB : B a i = (l1, l2)) (n0 : Nat) (hp : pc + 3 = n0) (kk : ∀ v : Int32, v = m a i → l1 ≤ v.toInt → v.toInt ≤ l2 → PV sc g M Q dp kc ks n0 lo (.int v :: st) (mk T m n r)) : PV sc g M Q dp kc ks pc lo (.ref a :: st) (mk T m n r) := mv_get hd F i hw hi ha hk rfl n0 hp (kk _ rfl (by have := (I a i).1; rw [hB] at this; exact this) (by have := (I a i).2; rw [hB] at this; exact this))
theorem iv_put {idx a ci N : Nat} {C : String} {TT : u_T} {ty : Nat → FieldType} {ds : List (Option (Nat ⊕ Nat))} {x : Int32} {l1 l2 : Int} (hd : decode M.2.2.1 pc = .ok (.putfield idx, 3)) (F : pv_F ci C TT N ty) (i : Nat) (hw : Cond.fieldLink M.1 idx (TT i).1 (TT i).2.1 (TT i).2.2.1 ∈ pv_T) (hi : i < N) (hf : (TT i).2.2.2 = false) (ha : T[a]? = some (.inr (ci, ds))) (hk : ds[i]? = some none) (hn : narrow (ty i) (.int x) = .int x) (hft : fits (ty i) (.int x) = true) (I : IV B m) (hB : B a i = (l1, l2)) (h3 : l1 ≤ x.toInt) (h4 : x.toInt ≤ l2) (n0 : Nat) (hp : pc + 3 = n0) (kk : ∀ m' : Nat → Nat → Int32, m' = up2 m a i x → IV B m' → PV sc g M Q dp kc ks n0 lo st (mk T m' n r)) : PV sc g M Q dp kc ks pc lo (.int x :: .ref a :: st) (mk T m n r) := mv_put hd F i hw hi hf ha hk hn hft n0 hp (kk _ rfl (I.set (by rw [hB]; exact h3) (by rw [hB]; exact h4)))
end IVS
