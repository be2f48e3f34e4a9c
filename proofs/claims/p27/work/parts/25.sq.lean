/-! what a safe call keeps, and how it ends -/
/-- the places that only day, feed, blank, deed, law, check write: DAY, tape, number of BLANKS, of both -/
def kpd (a i : Nat) : Bool := match a with
  | 0 => i == 2 || i == 7
  | 1 => i == 1
  | 2 => true
  | 123 => i == 0 || i == 1 || i == 11
  | 129 => true
  | _ => false
def kp (m m' : Nat → Nat → Int32) : Prop := ∀ a i, kpd a i = true → m' a i = m a i
theorem kp.rf {m : Nat → Nat → Int32} : kp m m := fun _ _ _ => rfl
theorem kp.trans {m m' m2 : Nat → Nat → Int32} (h : kp m m') (h2 : kp m' m2) : kp m m2 := fun a i q => (h2 a i q).trans (h a i q)
theorem kp.set {m m' m2 : Nat → Nat → Int32} (h : kp m m') {a i : Nat} {v : Int32} (e : m2 = up2 m' a i v) (hk : kpd a i = false) : kp m m2 := by
  subst e
  intro b j q
  have hne : ¬ (b = a ∧ j = i) := fun z => by obtain ⟨rfl, rfl⟩ := z; rw [hk] at q; cases q
  rw [up2_ne hne]
  exact h b j q
def sqI (T : List mv_T) (B : Nat → Nat → Int × Int) (r : Nat → Value) (m0 : Nat → Nat → Int32) (l1 l2 : Int) (P : Int32 → Prop) : Option Value → List pv_C → Prop := fun rv h' => ∃ (m' : Nat → Nat → Int32) (n' : Nat → Nat → Int64) (v : Int32), h' = mk T m' n' r ∧ rv = some (.int v) ∧ IV B m' ∧ kp m0 m' ∧ l1 ≤ v.toInt ∧ v.toInt ≤ l2 ∧ P v
def sqV (T : List mv_T) (B : Nat → Nat → Int × Int) (r : Nat → Value) (m0 : Nat → Nat → Int32) : Option Value → List pv_C → Prop := fun rv h' => ∃ (m' : Nat → Nat → Int32) (n' : Nat → Nat → Int64), h' = mk T m' n' r ∧ rv = none ∧ IV B m' ∧ kp m0 m'
def sqJ (T : List mv_T) (B : Nat → Nat → Int × Int) (r : Nat → Value) (m0 : Nat → Nat → Int32) : Option Value → List pv_C → Prop := fun rv h' => ∃ (m' : Nat → Nat → Int32) (n' : Nat → Nat → Int64) (v : Int64), h' = mk T m' n' r ∧ rv = some (.long v) ∧ IV B m' ∧ kp m0 m'
theorem iv_nz {v : Int32} (h1 : 0 ≤ v.toInt) (h2 : v.toInt ≤ 1) : narrow .boolean (.int v) = .int v := by
  rcases (show v.toInt = 0 ∨ v.toInt = 1 by omega) with e | e
  · have : v = 0 := Int32.toInt_inj.mp e
    subst this; rfl
  · have : v = 1 := Int32.toInt_inj.mp e
    subst this; rfl
theorem iv_any {x : Int32} {P : Int32 → Prop} (k : ∀ v : Int32, v = x → P v) : P x := k x rfl
theorem iv_nzz {v : Int32} (h1 : 0 ≤ v.toInt) (h2 : v.toInt ≤ 1) : vp_nar .boolean v = v := by
  rcases (show v.toInt = 0 ∨ v.toInt = 1 by omega) with e | e
  · have : v = 0 := Int32.toInt_inj.mp e
    subst this; rfl
  · have : v = 1 := Int32.toInt_inj.mp e
    subst this; rfl
/-- locals of which less is said -/
def pv_fl : List Value → List Value → Prop
  | _, [] => True
  | v :: a, w :: b => (w = pv_U ∨ w = v) ∧ pv_fl a b
  | [], _ :: _ => False
theorem pv_fl_get : ∀ {lo lo2 : List Value}, pv_fl lo lo2 → ∀ (i : Nat) (v : Value), lo2[i]? = some v → v ≠ pv_U → lo[i]? = some v
  | _, [], _, i, v, h, _ => by simp at h
  | [], _ :: _, hf, _, _, _, _ => hf.elim
  | a :: l, w :: b, hf, i, v, h, hv => by
    match i, h with
    | 0, h =>
      simp at h
      subst h
      rcases hf.1 with e | e
      · exact absurd e hv
      · simp [e]
    | i + 1, h =>
      simp at h ⊢
      exact pv_fl_get hf.2 i v h hv
theorem pv_fg {sc : pv_S} {g : pv_G} {M : pv_M} {Q : Option Value → List pv_C → Prop} {dp kc ks pc : Nat} {lo lo2 st : List Value} {h : List pv_C} (hf : pv_fl lo lo2) (k : PV sc g M Q dp kc ks pc lo2 st h) : PV sc g M Q dp kc ks pc lo st h := by
  intro p e R s m args below meth c X f1 f2 f3 f4 H locs cells slots ls hH hS h1 h2 hL
  exact k p e R s m args below meth c X f1 f2 f3 f4 H locs cells slots ls hH hS h1 h2 ⟨hL.1, hL.2.1, fun i v hi hv => hL.2.2 i v (pv_fl_get hf i v hi hv) hv⟩
def sqP (h : List pv_C) (l1 l2 : Int) (P : Int32 → Prop) : Option Value → List pv_C → Prop := fun rv h' => ∃ v : Int32, h' = h ∧ rv = some (.int v) ∧ l1 ≤ v.toInt ∧ v.toInt ≤ l2 ∧ P v
theorem iv_idivb {sc : pv_S} {g : pv_G} {M : pv_M} {Q : Option Value → List pv_C → Prop} {dp kc ks pc : Nat} {lo st : List Value} {h : List pv_C} {x y : Int32} {X Y : Int} (hd : decode M.2.2.1 pc = .ok (.idiv, 1)) (n0 : Nat) (hp : pc + 1 = n0) (hx : x.toInt = X) (hy : y.toInt = Y) (h1 : 0 ≤ X) (h2 : 0 < Y) (k : ∀ v : Int32, 0 ≤ v.toInt → v.toInt ≤ X → PV sc g M Q dp kc ks n0 lo (.int v :: st) h) : PV sc g M Q dp kc ks pc lo (.int y :: .int x :: st) h :=
  iv_idiv hd n0 hp hx hy h1 h2 (fun v e => k v (by rw [e]; exact Int.ediv_nonneg h1 (by omega)) (by rw [e]; exact Int.ediv_le_self Y h1))
theorem iv_iremb {sc : pv_S} {g : pv_G} {M : pv_M} {Q : Option Value → List pv_C → Prop} {dp kc ks pc : Nat} {lo st : List Value} {h : List pv_C} {x y : Int32} {X Y : Int} (hd : decode M.2.2.1 pc = .ok (.irem, 1)) (n0 : Nat) (hp : pc + 1 = n0) (hx : x.toInt = X) (hy : y.toInt = Y) (h1 : 0 ≤ X) (h2 : 0 < Y) (k : ∀ v : Int32, 0 ≤ v.toInt → v.toInt < Y → PV sc g M Q dp kc ks n0 lo (.int v :: st) h) : PV sc g M Q dp kc ks pc lo (.int y :: .int x :: st) h :=
  iv_irem hd n0 hp hx hy h1 h2 (fun v e => k v (by rw [e]; exact Int.emod_nonneg X (by omega)) (by rw [e]; exact Int.emod_lt_of_pos X h2))
theorem iv_sh1 {y : Int32} (h1 : 0 ≤ y.toInt) (h2 : y.toInt ≤ 7) : 0 ≤ ((1 : Int32) <<< (y &&& 31)).toInt ∧ ((1 : Int32) <<< (y &&& 31)).toInt < 256 := by
  obtain ⟨k, hk, rfl⟩ := nI_of (x := y) (by rw [Int32.lt_iff_toInt_lt, Int32.toInt_zero]; omega)
  rw [nI_toInt hk] at h2
  have h3 : k < 8 := by omega
  match k, h3 with
  | 0, _ => decide
  | 1, _ => decide
  | 2, _ => decide
  | 3, _ => decide
  | 4, _ => decide
  | 5, _ => decide
  | 6, _ => decide
  | 7, _ => decide
theorem iv_nIor (a b : Nat) : nI a ||| nI b = nI (a ||| b) := by
  apply Int32.toBitVec_inj.mp
  apply BitVec.eq_of_toNat_eq
  simp [nI, Nat.or_mod_two_pow]
theorem iv_or8 {x y : Int32} (h1 : 0 ≤ x.toInt) (h2 : x.toInt < 256) (h3 : 0 ≤ y.toInt) (h4 : y.toInt < 256) : 0 ≤ (x ||| y).toInt ∧ (x ||| y).toInt < 256 := by
  obtain ⟨a, ha, rfl⟩ := nI_of (x := x) (by rw [Int32.lt_iff_toInt_lt, Int32.toInt_zero]; omega)
  obtain ⟨b, hb, rfl⟩ := nI_of (x := y) (by rw [Int32.lt_iff_toInt_lt, Int32.toInt_zero]; omega)
  rw [nI_toInt ha] at h2
  rw [nI_toInt hb] at h4
  have h5 : a ||| b < 2 ^ 8 := Nat.or_lt_two_pow (by omega) (by omega)
  rw [iv_nIor, nI_toInt (by omega)]
  omega
