/-! what a safe call keeps, and how it ends -/
/-- the places that only day, feed, blank, deed, law, check write: DAY, tape, number of BLANKS, of both -/
def kpd (a i : Nat) : Bool := match a with
  | 0 => i == 2 || i == 7
  | 1 => i == 1
  | 2 => true
  | 123 => i == 0 || i == 1 || i == 11
  | 129 => true
  | _ => false
def kp (m m' : Nat → Nat → Int32) : Prop := ∀ a i, kpd a i = true → m' a i = m a i
theorem kp.rf {m : Nat → Nat → Int32} : kp m m := fun _ _ _ => rfl
theorem kp.trans {m m' m2 : Nat → Nat → Int32} (h : kp m m') (h2 : kp m' m2) : kp m m2 := fun a i q => (h2 a i q).trans (h a i q)
theorem kp.set {m m' m2 : Nat → Nat → Int32} (h : kp m m') {a i : Nat} {v : Int32} (e : m2 = up2 m' a i v) (hk : kpd a i = false) : kp m m2 := by
  subst e
  intro b j q
  have hne : ¬ (b = a ∧ j = i) := fun z => by obtain ⟨rfl, rfl⟩ := z; rw [hk] at q; cases q
  rw [up2_ne hne]
  exact h b j q
def sqI (T : List mv_T) (B : Nat → Nat → Int × Int) (r : Nat → Value) (m0 : Nat → Nat → Int32) (l1 l2 : Int) (P : Int32 → Prop) : Option Value → List pv_C → Prop := fun rv h' => ∃ (m' : Nat → Nat → Int32) (n' : Nat → Nat → Int64) (v : Int32), h' = mk T m' n' r ∧ rv = some (.int v) ∧ IV B m' ∧ kp m0 m' ∧ l1 ≤ v.toInt ∧ v.toInt ≤ l2 ∧ P v
def sqV (T : List mv_T) (B : Nat → Nat → Int × Int) (r : Nat → Value) (m0 : Nat → Nat → Int32) : Option Value → List pv_C → Prop := fun rv h' => ∃ (m' : Nat → Nat → Int32) (n' : Nat → Nat → Int64), h' = mk T m' n' r ∧ rv = none ∧ IV B m' ∧ kp m0 m'
def sqJ (T : List mv_T) (B : Nat → Nat → Int × Int) (r : Nat → Value) (m0 : Nat → Nat → Int32) : Option Value → List pv_C → Prop := fun rv h' => ∃ (m' : Nat → Nat → Int32) (n' : Nat → Nat → Int64) (v : Int64), h' = mk T m' n' r ∧ rv = some (.long v) ∧ IV B m' ∧ kp m0 m'
theorem iv_nz {v : Int32} (h1 : 0 ≤ v.toInt) (h2 : v.toInt ≤ 1) : narrow .boolean (.int v) = .int v := by
  rcases (show v.toInt = 0 ∨ v.toInt = 1 by omega) with e | e
  · have : v = 0 := Int32.toInt_inj.mp e
    subst this; rfl
  · have : v = 1 := Int32.toInt_inj.mp e
    subst this; rfl
theorem iv_any {x : Int32} {P : Int32 → Prop} (k : ∀ v : Int32, v = x → P v) : P x := k x rfl
