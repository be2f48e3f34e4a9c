/-! chains of the reference: how long from a last one on, by the used ones -/
theorem bit_up : ∀ u : Fin 256, ∀ i : Fin 8, (u.val >>> i.val) % 2 = 0 → u.val < u.val ||| (1 <<< i.val) ∧ u.val ||| (1 <<< i.val) < 256 := by decide +kernel
theorem nI_shr {u i : Nat} (hu : u < 256) (hi : i < 8) : ((nI u >>> (nI i &&& 31)) &&& 1).toInt = ((u >>> i) % 2 : Nat) := by
  have : ∀ u : Fin 256, ∀ i : Fin 8, ((nI u.val >>> (nI i.val &&& 31)) &&& 1).toInt = ((u.val >>> i.val) % 2 : Nat) := by decide +kernel
  exact this ⟨u, hu⟩ ⟨i, hi⟩
theorem nI_or1 {u i : Nat} (hu : u < 256) (hi : i < 8) : (nI u ||| ((1 : Int32) <<< (nI i &&& 31))).toInt = ((u ||| (1 <<< i) : Nat) : Int) := by
  have : ∀ u : Fin 256, ∀ i : Fin 8, (nI u.val ||| ((1 : Int32) <<< (nI i.val &&& 31))).toInt = ((u.val ||| (1 <<< i.val) : Nat) : Int) := by decide +kernel
  exact this ⟨u, hu⟩ ⟨i, hi⟩
theorem or1_up {u i : Int32} (h1 : 0 ≤ u.toInt) (h2 : u.toInt ≤ 255) (h3 : 0 ≤ i.toInt) (h4 : i.toInt ≤ 7) (hb : ((u >>> (i &&& 31)) &&& 1).toInt = 0) : u.toInt < (u ||| ((1 : Int32) <<< (i &&& 31))).toInt ∧ (u ||| ((1 : Int32) <<< (i &&& 31))).toInt ≤ 255 := by
  obtain ⟨a, ha, rfl⟩ := nI_of (x := u) (by rw [Int32.lt_iff_toInt_lt, Int32.toInt_zero]; omega)
  obtain ⟨b, hb2, rfl⟩ := nI_of (x := i) (by rw [Int32.lt_iff_toInt_lt, Int32.toInt_zero]; omega)
  rw [nI_toInt ha] at h2 ⊢
  rw [nI_toInt hb2] at h4
  have ha2 : a < 256 := by omega
  have hb3 : b < 8 := by omega
  rw [nI_shr ha2 hb3] at hb
  rw [nI_or1 ha2 hb3]
  have := bit_up ⟨a, ha2⟩ ⟨b, hb3⟩ (by simp only; omega)
  simp only at this
  omega
/-- what one that follows gives -/
def LBv (m : Nat → Nat → Int32) (l i u v : Int32) : Prop := ((m 167 (8 * l.toInt + i.toInt).toNat).toInt ≠ 0 ∧ ((u >>> (i &&& 31)) &&& 1).toInt = 0 ∧ v = 1 + m 168 (256 * i.toInt + (u ||| ((1 : Int32) <<< (i &&& 31))).toInt).toNat) ∨ (((m 167 (8 * l.toInt + i.toInt).toNat).toInt = 0 ∨ ((u >>> (i &&& 31)) &&& 1).toInt ≠ 0) ∧ v = 0)
theorem LBv_fn {m : Nat → Nat → Int32} {l i u v w : Int32} (h : LBv m l i u v) (k : LBv m l i u w) : v = w := by
  rcases h with ⟨a1, a2, a3⟩ | ⟨a1, a2⟩ <;> rcases k with ⟨b1, b2, b3⟩ | ⟨b1, b2⟩
  · rw [a3, b3]
  · rcases b1 with b1 | b1
    · exact absurd b1 a1
    · exact absurd a2 b1
  · rcases a1 with a1 | a1
    · exact absurd a1 b1
    · exact absurd b2 a1
  · rw [a2, b2]
def LBB (m : Nat → Nat → Int32) (l u b : Int32) : Prop := 0 < b.toInt → ∃ i : Int32, 0 ≤ i.toInt ∧ i.toInt ≤ 7 ∧ LBv m l i u b
theorem LBB.of {m : Nat → Nat → Int32} {l i u b : Int32} (h1 : 0 ≤ i.toInt) (h2 : i.toInt ≤ 7) (h : LBv m l i u b) : LBB m l u b := fun _ => ⟨i, h1, h2, h⟩
theorem LBB.z {m : Nat → Nat → Int32} {l u b : Int32} (h : b.toInt ≤ 0) : LBB m l u b := fun q => by omega
/-- a table's place: what stands there, if it is more than 0, comes from one that follows -/
def LT1 (m : Nat → Nat → Int32) (l u : Int32) : Prop := 0 < (m 168 (256 * l.toInt + u.toInt).toNat).toInt → ∃ i : Int32, 0 ≤ i.toInt ∧ i.toInt ≤ 7 ∧ LBv m l i u (m 168 (256 * l.toInt + u.toInt).toNat)
theorem LT1_set {m m2 : Nat → Nat → Int32} {l u l2 u2 v : Int32} (h : LT1 m l2 u2) (e : m2 = up2 m 168 (256 * l.toInt + u.toInt).toNat v) (h1 : 0 ≤ l.toInt) (h2 : l.toInt ≤ 8) (h3 : 0 ≤ u.toInt) (h4 : u.toInt ≤ 255) (h5 : 0 ≤ l2.toInt) (h6 : l2.toInt ≤ 8) (h7 : u.toInt ≤ u2.toInt) (h8 : u2.toInt ≤ 255) (hne : ¬ (l2.toInt = l.toInt ∧ u2.toInt = u.toInt)) : LT1 m2 l2 u2 := by
  have e1 : m2 168 (256 * l2.toInt + u2.toInt).toNat = m 168 (256 * l2.toInt + u2.toInt).toNat := by rw [e, up2_ne (by omega)]
  have e2 : ∀ j, m2 167 j = m 167 j := fun j => by rw [e, up2_ne (by omega)]
  unfold LT1
  rw [e1]
  intro hp
  obtain ⟨i, i1, i2, hi⟩ := h hp
  refine ⟨i, i1, i2, ?_⟩
  unfold LBv at hi ⊢
  rw [e2]
  rcases hi with ⟨a1, a2, a3⟩ | hi
  · have up := or1_up (u := u2) (i := i) (by omega) h8 i1 i2 a2
    refine Or.inl ⟨a1, a2, ?_⟩
    rw [a3, e, up2_ne (by omega)]
  · exact Or.inr hi
/-- a place is filled with the best -/
theorem LT1_new {m m2 : Nat → Nat → Int32} {l u v : Int32} (e : m2 = up2 m 168 (256 * l.toInt + u.toInt).toNat v) (h1 : 0 ≤ l.toInt) (h2 : l.toInt ≤ 8) (h3 : 0 ≤ u.toInt) (h4 : u.toInt ≤ 255) (hv : LBB m l u v) : LT1 m2 l u := by
  have e1 : m2 168 (256 * l.toInt + u.toInt).toNat = v := by rw [e, up2_eq]
  have e2 : ∀ j, m2 167 j = m 167 j := fun j => by rw [e, up2_ne (by omega)]
  unfold LT1
  rw [e1]
  intro hp
  obtain ⟨i, i1, i2, hi⟩ := hv hp
  refine ⟨i, i1, i2, ?_⟩
  unfold LBv at hi ⊢
  rw [e2]
  rcases hi with ⟨a1, a2, a3⟩ | hi
  · have up := or1_up (u := u) (i := i) h3 h4 i1 i2 a2
    refine Or.inl ⟨a1, a2, ?_⟩
    rw [a3, e, up2_ne (by omega)]
  · exact Or.inr hi
def LTu (m : Nat → Nat → Int32) (b : Int) : Prop := ∀ l u : Int32, 0 ≤ l.toInt → l.toInt ≤ 8 → b < u.toInt → u.toInt ≤ 255 → 0 ≤ u.toInt → LT1 m l u
def LTl (m : Nat → Nat → Int32) (u : Int32) (b : Int) : Prop := ∀ l : Int32, 0 ≤ l.toInt → l.toInt < b → LT1 m l u
theorem LTu_set {m m2 : Nat → Nat → Int32} {l u v : Int32} (h : LTu m u.toInt) (e : m2 = up2 m 168 (256 * l.toInt + u.toInt).toNat v) (h1 : 0 ≤ l.toInt) (h2 : l.toInt ≤ 8) (h3 : 0 ≤ u.toInt) (h4 : u.toInt ≤ 255) : LTu m2 u.toInt :=
  fun l2 u2 a1 a2 a3 a4 a5 => LT1_set (h l2 u2 a1 a2 a3 a4 a5) e h1 h2 h3 h4 a1 a2 (by omega) a4 (by omega)
theorem LTl_set {m m2 : Nat → Nat → Int32} {l u v : Int32} (h : LTl m u l.toInt) (e : m2 = up2 m 168 (256 * l.toInt + u.toInt).toNat v) (h1 : 0 ≤ l.toInt) (h2 : l.toInt ≤ 8) (h3 : 0 ≤ u.toInt) (h4 : u.toInt ≤ 255) (hv : LBB m l u v) : LTl m2 u (l.toInt + 1) := by
  intro l2 a1 a2
  by_cases q : l2.toInt = l.toInt
  · have : l2 = l := Int32.toInt_inj.mp q
    subst this
    exact LT1_new e h1 h2 h3 h4 hv
  · exact LT1_set (h l2 a1 (by omega)) e h1 h2 h3 h4 a1 (by omega) (by omega) h4 (by omega)
theorem LTu_next {m : Nat → Nat → Int32} {u : Int32} (h : LTu m u.toInt) (k : LTl m u 9) (h4 : u.toInt ≤ 255) {b : Int} (hb : b = u.toInt - 1) : LTu m b := by
  intro l2 u2 a1 a2 a3 a4 a5
  by_cases q : u2.toInt = u.toInt
  · have : u2 = u := Int32.toInt_inj.mp q
    subst this
    exact k l2 a1 (by omega)
  · exact h l2 u2 a1 a2 (by omega) a4 a5
theorem LBv_pos {m : Nat → Nat → Int32} {l i u v : Int32} (h : LBv m l i u v) (hp : 0 < v.toInt) : (m 168 (256 * i.toInt + (u ||| ((1 : Int32) <<< (i &&& 31))).toInt).toNat).toInt = v.toInt - 1 := by
  rcases h with ⟨_, _, a3⟩ | ⟨_, a2⟩
  · generalize m 168 (256 * i.toInt + (u ||| ((1 : Int32) <<< (i &&& 31))).toInt).toNat = x at a3 ⊢
    have hr := iv_rng x
    have h1 : (1 : Int32).toInt = 1 := by decide
    by_cases q : x.toInt = 2147483647
    · have : x = 2147483647 := Int32.toInt_inj.mp (by rw [q]; decide)
      rw [a3, this] at hp
      exact absurd hp (by decide)
    · rw [a3, iv_addE h1 rfl (by omega) (by omega)]
      omega
  · rw [a2] at hp
    exact absurd hp (by decide)
def LBW (m : Nat → Nat → Int32) (l u : Int32) (b : Int) (x : Int32) : Prop := ∃ w : Int32, b ≤ w.toInt ∧ w.toInt ≤ 7 ∧ LBv m l w u x
theorem LBW.le {m : Nat → Nat → Int32} {l u x : Int32} {b : Int} (h : LBW m l u b x) : b ≤ 7 := by obtain ⟨w, a, c, d⟩ := h; omega
theorem LBW.start {m : Nat → Nat → Int32} {l u : Int32} (h : LT1 m l u) (hp : 0 < (m 168 (256 * l.toInt + u.toInt).toNat).toInt) : LBW m l u 0 (m 168 (256 * l.toInt + u.toInt).toNat) := h hp
theorem LBw_step {m : Nat → Nat → Int32} {l u i v x : Int32} (h : LBW m l u i.toInt x) (k : LBv m l i u v) (hne : v.toInt ≠ x.toInt) : LBW m l u (i.toInt + 1) x := by
  obtain ⟨w, a, b, c⟩ := h
  refine ⟨w, ?_, b, c⟩
  by_cases q : w.toInt = i.toInt
  · have : w = i := Int32.toInt_inj.mp q
    subst this
    exact absurd (congrArg Int32.toInt (LBv_fn k c)) hne
  · omega
