/-! frames, posts, helpers -/
/-- the places that only day, feed, blank, deed, law, check write: DAY, tape, number of BLANKS, of both -/
def kpd (a i : Nat) : Bool := match a with
  | 0 => i == 2 || i == 7
  | 1 => i == 1
  | 2 => true
  | 123 => i == 0 || i == 1 || i == 11
  | 129 => true
  | _ => false
theorem kpd_no {a i : Nat} (h1 : 3 ≤ a) (h2 : a ≠ 123) (h3 : a ≠ 129) : kpd a i = false := by
  unfold kpd
  split <;> first | omega | rfl
def kp (m m' : Nat → Nat → Int32) : Prop := ∀ a i, kpd a i = true → m' a i = m a i
def fr (W : Nat → Nat → Bool) (m m' : Nat → Nat → Int32) : Prop := ∀ a i, W a i = false → m' a i = m a i
theorem fr.rf {W : Nat → Nat → Bool} {m : Nat → Nat → Int32} : fr W m m := fun _ _ _ => rfl
theorem fr.trans {W : Nat → Nat → Bool} {m m' m2 : Nat → Nat → Int32} (h : fr W m m') (h2 : fr W m' m2) : fr W m m2 := fun a i q => (h2 a i q).trans (h a i q)
theorem fr.sub {W W2 : Nat → Nat → Bool} {m m' : Nat → Nat → Int32} (h : fr W2 m m') (s : ∀ a i, W a i = false → W2 a i = false) : fr W m m' := fun a i q => h a i (s a i q)
theorem fr.set {W : Nat → Nat → Bool} {m m' m2 : Nat → Nat → Int32} (h : fr W m m') {a i : Nat} {v : Int32} (e : m2 = up2 m' a i v) (hk : W a i = true) : fr W m m2 := by
  subst e
  intro b j q
  have hne : ¬ (b = a ∧ j = i) := fun z => by obtain ⟨rfl, rfl⟩ := z; rw [hk] at q; cases q
  rw [up2_ne hne]
  exact h b j q
def wl1 (q : Nat × Nat × Option Nat) (a i : Nat) : Bool := Nat.ble q.1 a && Nat.ble a q.2.1 && (match q.2.2 with | none => true | some k => k == i)
def wl (l : List (Nat × Nat × Option Nat)) (a i : Nat) : Bool := match l with
  | [] => false
  | q :: l => wl1 q a i || wl l a i
def wl_le (p q : Nat × Nat × Option Nat) : Bool := Nat.ble p.1 q.1 && Nat.ble q.2.1 p.2.1 && (match p.2.2 with | none => true | some k => (match q.2.2 with | none => false | some j => k == j))
theorem wl1_le {p q : Nat × Nat × Option Nat} (h : wl_le p q = true) {a i : Nat} (h2 : wl1 q a i = true) : wl1 p a i = true := by
  obtain ⟨p1, p2, p3⟩ := p
  obtain ⟨q1, q2, q3⟩ := q
  simp only [wl_le, wl1, Bool.and_eq_true, Nat.ble_eq] at h h2 ⊢
  refine ⟨⟨by omega, by omega⟩, ?_⟩
  cases p3 with
  | none => rfl
  | some k =>
    cases q3 with
    | none => simp at h
    | some j =>
      simp at h h2 ⊢
      omega
theorem wl_mem {l : List (Nat × Nat × Option Nat)} {a i : Nat} : wl l a i = true ↔ ∃ q ∈ l, wl1 q a i = true := by
  induction l with
  | nil => simp [wl]
  | cons q l ih => simp [wl, ih]
theorem wl_sub {l l2 : List (Nat × Nat × Option Nat)} (h : (l2.all (fun q => l.any (fun p => wl_le p q))) = true) : ∀ a i, wl l a i = false → wl l2 a i = false := by
  intro a i e
  cases hc : wl l2 a i with
  | false => rfl
  | true =>
    obtain ⟨q, hq, h1⟩ := wl_mem.mp hc
    obtain ⟨p, hp, h2⟩ := List.any_eq_true.mp (List.all_eq_true.mp h q hq)
    rw [wl_mem.mpr ⟨p, hp, wl1_le h2 h1⟩] at e
    cases e
/-- the class's places, and the reference's, but for those kept -/
def wC (a i : Nat) : Bool := (Nat.ble a 122 || Nat.ble 169 a) && !kpd a i
def wM (a i : Nat) : Bool := Nat.ble 123 a && Nat.ble a 168 && !kpd a i
theorem wC_in {a i : Nat} (h1 : 3 ≤ a) (h2 : a ≤ 122 ∨ 169 ≤ a) : wC a i = true := by
  have h3 : kpd a i = false := kpd_no h1 (by omega) (by omega)
  simp only [wC, h3, Bool.not_false, Bool.and_true, Bool.or_eq_true, Nat.ble_eq]
  exact h2
theorem wl_r {l : List (Nat × Nat × Option Nat)} {a b c i : Nat} (h1 : a ≤ c) (h2 : c ≤ b) : wl ((a, b, none) :: l) c i = true := by
  simp only [wl, wl1, Bool.or_eq_true, Bool.and_eq_true, Nat.ble_eq]
  exact Or.inl ⟨⟨h1, h2⟩, trivial⟩
theorem wr_wC {a b : Nat} (h1 : 3 ≤ a) (h2 : b ≤ 122 ∨ 169 ≤ a) : ∀ c i, wC c i = false → wl [(a, b, none)] c i = false := by
  intro c i e
  cases hc : wl [(a, b, none)] c i with
  | false => rfl
  | true =>
    simp only [wl, wl1, Bool.or_eq_true, Bool.and_eq_true, Nat.ble_eq] at hc
    rcases hc with hc | hc
    · rw [wC_in (by omega) (by omega)] at e
      cases e
    · cases hc
theorem wr_wr {a b a2 b2 : Nat} (h1 : a ≤ a2) (h2 : b2 ≤ b) : ∀ c i, wl [(a, b, none)] c i = false → wl [(a2, b2, none)] c i = false := by
  intro c i e
  cases hc : wl [(a2, b2, none)] c i with
  | false => rfl
  | true =>
    simp only [wl, wl1, Bool.or_eq_true, Bool.and_eq_true, Nat.ble_eq] at hc
    rcases hc with hc | hc
    · rw [wl_r (by omega) (by omega)] at e
      cases e
    · cases hc
def wl_okC (l : List (Nat × Nat × Option Nat)) : Bool := l.all (fun q => (match q with
  | (0, 0, some k) => !(k == 2 || k == 7)
  | (1, 1, some k) => !(k == 1)
  | (a, b, _) => Nat.ble 3 a && (Nat.ble b 122 || Nat.ble 169 a)))
theorem wl_wC {l : List (Nat × Nat × Option Nat)} (h : wl_okC l = true) : ∀ a i, wC a i = false → wl l a i = false := by
  intro a i e
  cases hc : wl l a i with
  | false => rfl
  | true =>
    obtain ⟨q, hq, h1⟩ := wl_mem.mp hc
    have h2 := List.all_eq_true.mp h q hq
    obtain ⟨q1, q2, q3⟩ := q
    simp only [wl1, Bool.and_eq_true, Nat.ble_eq] at h1
    split at h2
    · rename_i k heq
      simp only [Prod.mk.injEq] at heq
      obtain ⟨rfl, rfl, rfl⟩ := heq
      have ha : a = 0 := by omega
      subst ha
      simp at h1 h2
      have h3 : wC 0 i = true := by simp [wC, kpd]; omega
      rw [h3] at e; cases e
    · rename_i k heq
      simp only [Prod.mk.injEq] at heq
      obtain ⟨rfl, rfl, rfl⟩ := heq
      have ha : a = 1 := by omega
      subst ha
      simp at h1 h2
      have h3 : wC 1 i = true := by simp [wC, kpd]; omega
      rw [h3] at e; cases e
    · rename_i a' b' x' _ _ heq
      simp only [Prod.mk.injEq] at heq
      obtain ⟨rfl, rfl, rfl⟩ := heq
      simp only [Bool.and_eq_true, Bool.or_eq_true, Nat.ble_eq] at h2
      rw [wC_in (by omega) (by omega)] at e
      cases e
/-- all the class's places -/
def wA (a _i : Nat) : Bool := Nat.ble a 122 || Nat.ble 169 a
theorem wA_in {a i : Nat} (h2 : a ≤ 122 ∨ 169 ≤ a) : wA a i = true := by
  simp only [wA, Bool.or_eq_true, Nat.ble_eq]
  exact h2
theorem wC_wA : ∀ c i, wA c i = false → wC c i = false := by
  intro c i e
  have e2 : (Nat.ble c 122 || Nat.ble 169 c) = false := e
  simp only [wC, e2, Bool.false_and]
theorem wr_wA {a b : Nat} (h2 : b ≤ 122 ∨ 169 ≤ a) : ∀ c i, wA c i = false → wl [(a, b, none)] c i = false := by
  intro c i e
  cases hc : wl [(a, b, none)] c i with
  | false => rfl
  | true =>
    simp only [wl, wl1, Bool.or_eq_true, Bool.and_eq_true, Nat.ble_eq] at hc
    rcases hc with hc | hc
    · rw [wA_in (by omega)] at e
      cases e
    · cases hc
theorem wl_wA {l : List (Nat × Nat × Option Nat)} (h : (l.all (fun q => Nat.ble q.2.1 122 || Nat.ble 169 q.1)) = true) : ∀ a i, wA a i = false → wl l a i = false := by
  intro a i e
  cases hc : wl l a i with
  | false => rfl
  | true =>
    obtain ⟨q, hq, h1⟩ := wl_mem.mp hc
    have h2 := List.all_eq_true.mp h q hq
    obtain ⟨q1, q2, q3⟩ := q
    simp only [wl1, Bool.and_eq_true, Nat.ble_eq] at h1
    simp only [Bool.or_eq_true, Nat.ble_eq] at h2
    rw [wA_in (by omega)] at e
    cases e
def wl_okM (l : List (Nat × Nat × Option Nat)) : Bool := l.all (fun q => (match q with
  | (123, 123, some k) => !(k == 0 || k == 1 || k == 11)
  | (a, b, _) => Nat.ble 124 a && Nat.ble b 168 && (Nat.ble b 128 || Nat.ble 130 a)))
theorem wl_wM {l : List (Nat × Nat × Option Nat)} (h : wl_okM l = true) : ∀ a i, wM a i = false → wl l a i = false := by
  intro a i e
  cases hc : wl l a i with
  | false => rfl
  | true =>
    obtain ⟨q, hq, h1⟩ := wl_mem.mp hc
    have h2 := List.all_eq_true.mp h q hq
    obtain ⟨q1, q2, q3⟩ := q
    simp only [wl1, Bool.and_eq_true, Nat.ble_eq] at h1
    split at h2
    · rename_i k heq
      simp only [Prod.mk.injEq] at heq
      obtain ⟨rfl, rfl, rfl⟩ := heq
      have ha : a = 123 := by omega
      subst ha
      simp at h1 h2
      have h3 : wM 123 i = true := by simp [wM, kpd]; omega
      rw [h3] at e; cases e
    · rename_i a' b' x' _ heq
      simp only [Prod.mk.injEq] at heq
      obtain ⟨rfl, rfl, rfl⟩ := heq
      simp only [Bool.and_eq_true, Bool.or_eq_true, Nat.ble_eq] at h2
      have h3 : wM a i = true := by
        have h4 : kpd a i = false := kpd_no (by omega) (by omega) (by omega)
        simp only [wM, h4, Bool.not_false, Bool.and_true, Bool.and_eq_true, Nat.ble_eq]
        omega
      rw [h3] at e; cases e
def sqI (T : List mv_T) (B : Nat → Nat → Int × Int) (W : Nat → Nat → Bool) (r : Nat → Value) (m0 : Nat → Nat → Int32) (l1 l2 : Int) (P : (Nat → Nat → Int32) → Int32 → Prop) : Option Value → List pv_C → Prop := fun rv h' => ∃ (m' : Nat → Nat → Int32) (n' : Nat → Nat → Int64) (v : Int32), h' = mk T m' n' r ∧ rv = some (.int v) ∧ IV B m' ∧ fr W m0 m' ∧ l1 ≤ v.toInt ∧ v.toInt ≤ l2 ∧ P m' v
def sqV (T : List mv_T) (B : Nat → Nat → Int × Int) (W : Nat → Nat → Bool) (r : Nat → Value) (m0 : Nat → Nat → Int32) (P : (Nat → Nat → Int32) → Prop) : Option Value → List pv_C → Prop := fun rv h' => ∃ (m' : Nat → Nat → Int32) (n' : Nat → Nat → Int64), h' = mk T m' n' r ∧ rv = none ∧ IV B m' ∧ fr W m0 m' ∧ P m'
def sqJ (T : List mv_T) (B : Nat → Nat → Int × Int) (W : Nat → Nat → Bool) (r : Nat → Value) (m0 : Nat → Nat → Int32) (P : (Nat → Nat → Int32) → Prop) : Option Value → List pv_C → Prop := fun rv h' => ∃ (m' : Nat → Nat → Int32) (n' : Nat → Nat → Int64) (v : Int64), h' = mk T m' n' r ∧ rv = some (.long v) ∧ IV B m' ∧ fr W m0 m' ∧ P m'
/-- pure: the memory stays -/
def sqP (h : List pv_C) (l1 l2 : Int) (P : Int32 → Prop) : Option Value → List pv_C → Prop := fun rv h' => ∃ v : Int32, h' = h ∧ rv = some (.int v) ∧ l1 ≤ v.toInt ∧ v.toInt ≤ l2 ∧ P v
def sqPJ (h : List pv_C) : Option Value → List pv_C → Prop := fun rv h' => ∃ v : Int64, h' = h ∧ rv = some (.long v)
def sqPA (h : List pv_C) (P : Nat → Prop) : Option Value → List pv_C → Prop := fun rv h' => ∃ a : Nat, h' = h ∧ rv = some (.ref a) ∧ P a
theorem iv_nz {v : Int32} (h1 : 0 ≤ v.toInt) (h2 : v.toInt ≤ 1) : narrow .boolean (.int v) = .int v := by
  rcases (show v.toInt = 0 ∨ v.toInt = 1 by omega) with e | e
  · have : v = 0 := Int32.toInt_inj.mp e
    subst this; rfl
  · have : v = 1 := Int32.toInt_inj.mp e
    subst this; rfl
theorem iv_fz {v : Int32} (h1 : 0 ≤ v.toInt) (h2 : v.toInt ≤ 1) : fits .boolean (.int v) = true := by
  rcases (show v.toInt = 0 ∨ v.toInt = 1 by omega) with e | e
  · have : v = 0 := Int32.toInt_inj.mp e
    subst this; rfl
  · have : v = 1 := Int32.toInt_inj.mp e
    subst this; rfl
theorem iv_nzz {v : Int32} (h1 : 0 ≤ v.toInt) (h2 : v.toInt ≤ 1) : vp_nar .boolean v = v := by
  rcases (show v.toInt = 0 ∨ v.toInt = 1 by omega) with e | e
  · have : v = 0 := Int32.toInt_inj.mp e
    subst this; rfl
  · have : v = 1 := Int32.toInt_inj.mp e
    subst this; rfl
/-- locals of which less is said -/
def pv_fl : List Value → List Value → Prop
  | _, [] => True
  | v :: a, w :: b => (w = pv_U ∨ w = v) ∧ pv_fl a b
  | [], _ :: _ => False
theorem pv_fl_get : ∀ {lo lo2 : List Value}, pv_fl lo lo2 → ∀ (i : Nat) (v : Value), lo2[i]? = some v → v ≠ pv_U → lo[i]? = some v
  | _, [], _, i, v, h, _ => by simp at h
  | [], _ :: _, hf, _, _, _, _ => hf.elim
  | a :: l, w :: b, hf, i, v, h, hv => by
    match i, h with
    | 0, h =>
      simp at h
      subst h
      rcases hf.1 with e | e
      · exact absurd e hv
      · simp [e]
    | i + 1, h =>
      simp at h ⊢
      exact pv_fl_get hf.2 i v h hv
theorem pv_fg {sc : pv_S} {g : pv_G} {M : pv_M} {Q : Option Value → List pv_C → Prop} {dp kc ks pc : Nat} {lo lo2 st : List Value} {h : List pv_C} (hf : pv_fl lo lo2) (k : PV sc g M Q dp kc ks pc lo2 st h) : PV sc g M Q dp kc ks pc lo st h := by
  intro p e R s m args below meth c X f1 f2 f3 f4 H locs cells slots ls hH hS h1 h2 hL
  exact k p e R s m args below meth c X f1 f2 f3 f4 H locs cells slots ls hH hS h1 h2 ⟨hL.1, hL.2.1, fun i v hi hv => hL.2.2 i v (pv_fl_get hf i v hi hv) hv⟩
section SQR
variable {sc : pv_S} {g : pv_G} {M : pv_M} {Q : Option Value → List pv_C → Prop} {dp kc ks pc : Nat} {lo st : List Value} {h : List pv_C}
theorem iv_idivb {x y : Int32} {X Y : Int} (hd : decode M.2.2.1 pc = .ok (.idiv, 1)) (n0 : Nat) (hp : pc + 1 = n0) (hx : x.toInt = X) (hy : y.toInt = Y) (h1 : 0 ≤ X) (h2 : 0 < Y) (k : ∀ v : Int32, 0 ≤ v.toInt → v.toInt ≤ X → PV sc g M Q dp kc ks n0 lo (.int v :: st) h) : PV sc g M Q dp kc ks pc lo (.int y :: .int x :: st) h :=
  iv_idiv hd n0 hp hx hy h1 h2 (fun v e => k v (by rw [e]; exact Int.ediv_nonneg h1 (by omega)) (by rw [e]; exact Int.ediv_le_self Y h1))
theorem iv_iremb {x y : Int32} {X Y : Int} (hd : decode M.2.2.1 pc = .ok (.irem, 1)) (n0 : Nat) (hp : pc + 1 = n0) (hx : x.toInt = X) (hy : y.toInt = Y) (h1 : 0 ≤ X) (h2 : 0 < Y) (k : ∀ v : Int32, 0 ≤ v.toInt → v.toInt < Y → PV sc g M Q dp kc ks n0 lo (.int v :: st) h) : PV sc g M Q dp kc ks pc lo (.int y :: .int x :: st) h :=
  iv_irem hd n0 hp hx hy h1 h2 (fun v e => k v (by rw [e]; exact Int.emod_nonneg X (by omega)) (by rw [e]; exact Int.emod_lt_of_pos X h2))
/-- numbers of which nothing is said -/
theorem iv_addU {x y : Int32} (hd : decode M.2.2.1 pc = .ok (.iadd, 1)) (n0 : Nat) (hp : pc + 1 = n0) (k : ∀ v : Int32, v = x + y → PV sc g M Q dp kc ks n0 lo (.int v :: st) h) : PV sc g M Q dp kc ks pc lo (.int y :: .int x :: st) h := pv_iadd hd n0 hp rfl (k _ rfl)
theorem iv_subU {x y : Int32} (hd : decode M.2.2.1 pc = .ok (.isub, 1)) (n0 : Nat) (hp : pc + 1 = n0) (k : ∀ v : Int32, v = x - y → PV sc g M Q dp kc ks n0 lo (.int v :: st) h) : PV sc g M Q dp kc ks pc lo (.int y :: .int x :: st) h := pv_isub hd n0 hp rfl (k _ rfl)
theorem iv_mulU {x y : Int32} (hd : decode M.2.2.1 pc = .ok (.imul, 1)) (n0 : Nat) (hp : pc + 1 = n0) (k : ∀ v : Int32, v = x * y → PV sc g M Q dp kc ks n0 lo (.int v :: st) h) : PV sc g M Q dp kc ks pc lo (.int y :: .int x :: st) h := pv_imul hd n0 hp rfl (k _ rfl)
theorem iv_divU {x y : Int32} {Y : Int} (hd : decode M.2.2.1 pc = .ok (.idiv, 1)) (n0 : Nat) (hp : pc + 1 = n0) (hy : y.toInt = Y) (h2 : Y ≠ 0) (k : ∀ v : Int32, v = x / y → PV sc g M Q dp kc ks n0 lo (.int v :: st) h) : PV sc g M Q dp kc ks pc lo (.int y :: .int x :: st) h := pv_idiv hd n0 hp (fun e => by rw [e, Int32.toInt_zero] at hy; omega) rfl (k _ rfl)
theorem iv_remU {x y : Int32} {Y : Int} (hd : decode M.2.2.1 pc = .ok (.irem, 1)) (n0 : Nat) (hp : pc + 1 = n0) (hy : y.toInt = Y) (h2 : Y ≠ 0) (k : ∀ v : Int32, v = x - x / y * y → PV sc g M Q dp kc ks n0 lo (.int v :: st) h) : PV sc g M Q dp kc ks pc lo (.int y :: .int x :: st) h := pv_irem hd n0 hp (fun e => by rw [e, Int32.toInt_zero] at hy; omega) rfl (k _ rfl)
theorem iv_andU {x y : Int32} (hd : decode M.2.2.1 pc = .ok (.iand, 1)) (n0 : Nat) (hp : pc + 1 = n0) (k : ∀ v : Int32, v = x &&& y → PV sc g M Q dp kc ks n0 lo (.int v :: st) h) : PV sc g M Q dp kc ks pc lo (.int y :: .int x :: st) h := pv_iand hd n0 hp rfl (k _ rfl)
theorem iv_orU {x y : Int32} (hd : decode M.2.2.1 pc = .ok (.ior, 1)) (n0 : Nat) (hp : pc + 1 = n0) (k : ∀ v : Int32, v = x ||| y → PV sc g M Q dp kc ks n0 lo (.int v :: st) h) : PV sc g M Q dp kc ks pc lo (.int y :: .int x :: st) h := pv_ior hd n0 hp rfl (k _ rfl)
theorem iv_xorU {x y : Int32} (hd : decode M.2.2.1 pc = .ok (.ixor, 1)) (n0 : Nat) (hp : pc + 1 = n0) (k : ∀ v : Int32, v = x ^^^ y → PV sc g M Q dp kc ks n0 lo (.int v :: st) h) : PV sc g M Q dp kc ks pc lo (.int y :: .int x :: st) h := pv_ixor hd n0 hp rfl (k _ rfl)
theorem iv_shlU {x y : Int32} (hd : decode M.2.2.1 pc = .ok (.ishl, 1)) (n0 : Nat) (hp : pc + 1 = n0) (k : ∀ v : Int32, v = x <<< (y &&& 31) → PV sc g M Q dp kc ks n0 lo (.int v :: st) h) : PV sc g M Q dp kc ks pc lo (.int y :: .int x :: st) h := pv_ishl hd n0 hp rfl (k _ rfl)
theorem iv_shrU {x y : Int32} (hd : decode M.2.2.1 pc = .ok (.ishr, 1)) (n0 : Nat) (hp : pc + 1 = n0) (k : ∀ v : Int32, v = x >>> (y &&& 31) → PV sc g M Q dp kc ks n0 lo (.int v :: st) h) : PV sc g M Q dp kc ks pc lo (.int y :: .int x :: st) h := pv_ishr hd n0 hp rfl (k _ rfl)
theorem iv_ushrU {x y : Int32} (hd : decode M.2.2.1 pc = .ok (.iushr, 1)) (n0 : Nat) (hp : pc + 1 = n0) (k : ∀ v : Int32, v = (x.toUInt32 >>> (y.toUInt32 &&& Int32.toUInt32 31)).toInt32 → PV sc g M Q dp kc ks n0 lo (.int v :: st) h) : PV sc g M Q dp kc ks pc lo (.int y :: .int x :: st) h := pv_iushr hd n0 hp rfl (k _ rfl)
theorem iv_incU {i : Nat} {c : Int} {x : Int32} (hd : decode M.2.2.1 pc = .ok (.iinc i c, 3)) (n0 : Nat) (hp : pc + 3 = n0) (hl : lo[i]? = some (.int x)) (hn : i < M.2.2.2.1) (hnd : pv_nd lo = true) (k : ∀ v : Int32, v = x + Int32.ofInt c → PV sc g M Q dp kc ks n0 (pv_st lo i (.int v)) st h) : PV sc g M Q dp kc ks pc lo st h := pv_iinc hd n0 hp hl rfl hn hnd rfl (k _ rfl)
theorem iv_negU {x : Int32} (hd : decode M.2.2.1 pc = .ok (.ineg, 1)) (n0 : Nat) (hp : pc + 1 = n0) (k : ∀ v : Int32, v = -x → PV sc g M Q dp kc ks n0 lo (.int v :: st) h) : PV sc g M Q dp kc ks pc lo (.int x :: st) h := pv_ineg hd n0 hp rfl (k _ rfl)
theorem iv_i2b {x : Int32} (hd : decode M.2.2.1 pc = .ok (.i2b, 1)) (n0 : Nat) (hp : pc + 1 = n0) (k : ∀ v : Int32, v = x.toInt8.toInt32 → -128 ≤ v.toInt → v.toInt ≤ 127 → PV sc g M Q dp kc ks n0 lo (.int v :: st) h) : PV sc g M Q dp kc ks pc lo (.int x :: st) h := pv_i2b hd n0 hp rfl (k _ rfl (by rw [Int8.toInt_toInt32]; exact Int8.le_toInt _) (by rw [Int8.toInt_toInt32]; have := Int8.toInt_lt x.toInt8; omega))
theorem iv_i2cU {x : Int32} (hd : decode M.2.2.1 pc = .ok (.i2c, 1)) (n0 : Nat) (hp : pc + 1 = n0) (k : ∀ v : Int32, v = (x.toUInt32 % 65536).toInt32 → PV sc g M Q dp kc ks n0 lo (.int v :: st) h) : PV sc g M Q dp kc ks pc lo (.int x :: st) h := pv_i2c hd n0 hp rfl (k _ rfl)
theorem iv_addJ {x y : Int64} (hd : decode M.2.2.1 pc = .ok (.ladd, 1)) (n0 : Nat) (hp : pc + 1 = n0) (k : ∀ v : Int64, v = x + y → PV sc g M Q dp kc ks n0 lo (.long v :: st) h) : PV sc g M Q dp kc ks pc lo (.long y :: .long x :: st) h := pv_ladd hd n0 hp rfl (k _ rfl)
theorem iv_orJ {x y : Int64} (hd : decode M.2.2.1 pc = .ok (.lor, 1)) (n0 : Nat) (hp : pc + 1 = n0) (k : ∀ v : Int64, v = x ||| y → PV sc g M Q dp kc ks n0 lo (.long v :: st) h) : PV sc g M Q dp kc ks pc lo (.long y :: .long x :: st) h := pv_lor hd n0 hp rfl (k _ rfl)
theorem iv_i2l {x : Int32} (hd : decode M.2.2.1 pc = .ok (.i2l, 1)) (n0 : Nat) (hp : pc + 1 = n0) (k : ∀ v : Int64, v = x.toInt64 → PV sc g M Q dp kc ks n0 lo (.long v :: st) h) : PV sc g M Q dp kc ks pc lo (.int x :: st) h := pv_i2l hd n0 hp rfl (k _ rfl)
/-- a switch: every key by itself, and the rest -/
theorem iv_tabIn {dflt l1 l2 : Int} {offs : Array Int} {len : Nat} {x : Int32} {off X : Int} {tgt : Nat} (hd : decode M.2.2.1 pc = .ok (.tableswitch dflt l1 l2 offs, len)) (hx : x.toInt = X) (h1 : l1 ≤ X) (h2 : X ≤ l2) (ho : offs[(X - l1).toNat]? = some off) (ht : (pc : Int) + off = (tgt : Int)) (k : PV sc g M Q dp kc ks tgt lo (st) h) : PV sc g M Q dp kc ks pc lo (.int x :: st) h := pv_tableIn hd (by omega) (by omega) (by rw [hx]; exact ho) ht k
theorem iv_lk {dflt : Int} {ps : Array (Int × Int)} {len : Nat} {x : Int32} {off X : Int} {tgt : Nat} (hd : decode M.2.2.1 pc = .ok (.lookupswitch dflt ps, len)) (hp : (ps.toList.zip (ps.toList.drop 1)).all (fun (a, next) => a.1 < next.1) = true) (hx : x.toInt = X) (ho : Op.lookupswitch.offset ps.toList dflt X = off) (ht : (pc : Int) + off = (tgt : Int)) (k : PV sc g M Q dp kc ks tgt lo (st) h) : PV sc g M Q dp kc ks pc lo (.int x :: st) h := pv_lookup hd hp (by rw [hx]; exact ho) ht k
theorem iv_max {idx : Nat} {x y : Int32} {X Y : Int} (hd : decode M.2.2.1 pc = .ok (.invokestatic idx, 3)) (hl : Cond.methodLink M.1 idx Lib.Math.max.name ∈ pv_T) (h3 : Cond.static Lib.Math.max.name ∈ pv_T ∧ Cond.initialized "java/lang/Math" ∈ pv_T ∧ Cond.code Lib.Math.max.name Lib.Math.max.code 2 (some .int) ∈ pv_T) (hw : (st.map fun v => v.category).sum ≤ 8) (hdp : 1 ≤ dp) (hx : x.toInt = X) (hy : y.toInt = Y) (n0 : Nat) (hp : pc + 3 = n0) (k : ∀ v : Int32, X ≤ v.toInt → Y ≤ v.toInt → (v.toInt = X ∨ v.toInt = Y) → PV sc g M Q dp kc ks n0 lo (.int v :: st) h) : PV sc g M Q dp kc ks pc lo (.int y :: .int x :: st) h := by
  refine pv_max hd hl h3 hw hdp rfl n0 hp ?_
  split
  · rename_i q; have := Int32.lt_iff_toInt_lt.mp q; exact k _ (by omega) (by omega) (by omega)
  · rename_i q; rw [Int32.lt_iff_toInt_lt] at q; exact k _ (by omega) (by omega) (by omega)
theorem iv_min {idx : Nat} {x y : Int32} {X Y : Int} (hd : decode M.2.2.1 pc = .ok (.invokestatic idx, 3)) (hl : Cond.methodLink M.1 idx Lib.Math.min.name ∈ pv_T) (h3 : Cond.static Lib.Math.min.name ∈ pv_T ∧ Cond.initialized "java/lang/Math" ∈ pv_T ∧ Cond.code Lib.Math.min.name Lib.Math.min.code 2 (some .int) ∈ pv_T) (hw : (st.map fun v => v.category).sum ≤ 8) (hdp : 1 ≤ dp) (hx : x.toInt = X) (hy : y.toInt = Y) (n0 : Nat) (hp : pc + 3 = n0) (k : ∀ v : Int32, v.toInt ≤ X → v.toInt ≤ Y → (v.toInt = X ∨ v.toInt = Y) → PV sc g M Q dp kc ks n0 lo (.int v :: st) h) : PV sc g M Q dp kc ks pc lo (.int y :: .int x :: st) h := by
  refine pv_min hd hl h3 hw hdp rfl n0 hp ?_
  split
  · rename_i q; have := Int32.lt_iff_toInt_lt.mp q; exact k _ (by omega) (by omega) (by omega)
  · rename_i q; rw [Int32.lt_iff_toInt_lt] at q; exact k _ (by omega) (by omega) (by omega)
end SQR
theorem iv_sh1 {y : Int32} (h1 : 0 ≤ y.toInt) (h2 : y.toInt ≤ 8) : 1 ≤ ((1 : Int32) <<< (y &&& 31)).toInt ∧ ((1 : Int32) <<< (y &&& 31)).toInt ≤ 256 := by
  obtain ⟨k, hk, rfl⟩ := nI_of (x := y) (by rw [Int32.lt_iff_toInt_lt, Int32.toInt_zero]; omega)
  rw [nI_toInt hk] at h2
  have h3 : k < 9 := by omega
  match k, h3 with
  | 0, _ => decide
  | 1, _ => decide
  | 2, _ => decide
  | 3, _ => decide
  | 4, _ => decide
  | 5, _ => decide
  | 6, _ => decide
  | 7, _ => decide
  | 8, _ => decide
theorem iv_sh17 {y : Int32} (h1 : 0 ≤ y.toInt) (h2 : y.toInt ≤ 7) : 1 ≤ ((1 : Int32) <<< (y &&& 31)).toInt ∧ ((1 : Int32) <<< (y &&& 31)).toInt ≤ 128 := by
  obtain ⟨k, hk, rfl⟩ := nI_of (x := y) (by rw [Int32.lt_iff_toInt_lt, Int32.toInt_zero]; omega)
  rw [nI_toInt hk] at h2
  have h3 : k < 8 := by omega
  match k, h3 with
  | 0, _ => decide
  | 1, _ => decide
  | 2, _ => decide
  | 3, _ => decide
  | 4, _ => decide
  | 5, _ => decide
  | 6, _ => decide
  | 7, _ => decide
theorem iv_nIor (a b : Nat) : nI a ||| nI b = nI (a ||| b) := by
  apply Int32.toBitVec_inj.mp
  apply BitVec.eq_of_toNat_eq
  simp [nI, Nat.or_mod_two_pow]
theorem iv_or8 {x y : Int32} (h1 : 0 ≤ x.toInt) (h2 : x.toInt < 256) (h3 : 0 ≤ y.toInt) (h4 : y.toInt < 256) : 0 ≤ (x ||| y).toInt ∧ (x ||| y).toInt ≤ 255 := by
  obtain ⟨a, ha, rfl⟩ := nI_of (x := x) (by rw [Int32.lt_iff_toInt_lt, Int32.toInt_zero]; omega)
  obtain ⟨b, hb, rfl⟩ := nI_of (x := y) (by rw [Int32.lt_iff_toInt_lt, Int32.toInt_zero]; omega)
  rw [nI_toInt ha] at h2
  rw [nI_toInt hb] at h4
  have h5 : a ||| b < 2 ^ 8 := Nat.or_lt_two_pow (by omega) (by omega)
  rw [iv_nIor, nI_toInt (by omega)]
  omega
