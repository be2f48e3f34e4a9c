/-! some DEEDS by bits, what is hidden in them: the table and where it comes from -/
def bt (d : Int32) (k : Int) : Int := ((d >>> (Int32.ofInt k &&& 31)) &&& 1).toInt
theorem bt_of {d y v w : Int32} (h1 : v = d >>> (y &&& 31)) (h2 : w = v &&& 1) : w.toInt = bt d y.toInt := by rw [h2, h1]; unfold bt; rw [Int32.ofInt_toInt]
theorem bt_b (d : Int32) (k : Int) : 0 ≤ bt d k ∧ bt d k ≤ 1 := by
  have h := iv_mask (x := d >>> (Int32.ofInt k &&& 31)) (y := 1) 1 (by decide) (by decide)
  unfold bt
  omega
def bF (d : Int32) : Nat → Int
  | 0 => 0
  | k + 1 => bF d k + bt d k
theorem bF_s {d : Int32} {j k : Int} (h : 0 ≤ j) (hk : k = j + 1) : bF d k.toNat = bF d j.toNat + bt d j := by
  rw [show k.toNat = j.toNat + 1 by omega]
  simp only [bF]
  rw [show ((j.toNat : Nat) : Int) = j by omega]
theorem bF_le (d : Int32) : ∀ (n k : Nat), k ≤ n → bF d k ≤ bF d n
  | 0, k, h => by rw [show k = 0 by omega]; exact Int.le_refl _
  | n + 1, k, h => by
    by_cases q : k = n + 1
    · rw [q]; exact Int.le_refl _
    · have := bF_le d n k (by omega)
      have := bt_b d n
      simp only [bF]
      omega
/-- the chosen ones are those of the bits below b, each -/
def CHI (m : Nat → Nat → Int32) (d : Int32) (b : Int) : Prop := ∀ q : Nat, (q : Int) < (m 123 50).toInt → bt d (m 157 q).toInt = 1 ∧ 0 ≤ (m 157 q).toInt ∧ (m 157 q).toInt < b
def CHA (m : Nat → Nat → Int32) (d : Int32) (b : Int) : Prop := ∀ i : Int, 0 ≤ i → i < b → bt d i = 1 → ∃ q : Nat, (q : Int) < (m 123 50).toInt ∧ (m 157 q).toInt = i
theorem CH_skip {m : Nat → Nat → Int32} {d : Int32} {b : Int} (h : CHI m d b ∧ CHA m d b) (hb : bt d b = 0) {c : Int} (hc : c = b + 1) : CHI m d c ∧ CHA m d c := by
  subst hc
  refine ⟨fun q hq => ⟨(h.1 q hq).1, (h.1 q hq).2.1, by have := (h.1 q hq).2.2; omega⟩, fun i h1 h2 h3 => ?_⟩
  by_cases q : i = b
  · rw [q] at h3; omega
  · exact h.2 i h1 (by omega) h3
theorem CH_add {m m1 m2 : Nat → Nat → Int32} {d v w : Int32} {b : Int} (h : CHI m d b ∧ CHA m d b) (h0 : 0 ≤ (m 123 50).toInt) (hb0 : 0 ≤ b) (hb : bt d b ≠ 0) (e1 : m1 = up2 m 157 (m 123 50).toInt.toNat v) (hv : v.toInt = b) (e2 : m2 = up2 m1 123 50 w) (hw : w.toInt = (m 123 50).toInt + 1) {c : Int} (hc : c = b + 1) : CHI m2 d c ∧ CHA m2 d c := by
  subst hc
  have g1 : (m2 123 50).toInt = (m 123 50).toInt + 1 := by rw [e2, up2_eq]; exact hw
  have g2 : ∀ q, q ≠ (m 123 50).toInt.toNat → m2 157 q = m 157 q := fun q hq => by rw [e2, up2_ne (by omega), e1, up2_ne (by omega)]
  have g3 : m2 157 (m 123 50).toInt.toNat = v := by rw [e2, up2_ne (by omega), e1, up2_eq]
  have hb1 := bt_b d b
  refine ⟨fun q hq => ?_, fun i h1 h2 h3 => ?_⟩
  · by_cases z : (q : Int) = (m 123 50).toInt
    · rw [show q = (m 123 50).toInt.toNat by omega, g3, hv]; exact ⟨by omega, hb0, by omega⟩
    · rw [g2 q (by omega)]
      have := h.1 q (by omega)
      exact ⟨this.1, this.2.1, by omega⟩
  · by_cases z : i = b
    · exact ⟨(m 123 50).toInt.toNat, by omega, by rw [g3, hv, z]⟩
    · obtain ⟨q, a, c⟩ := h.2 i h1 (by omega) h3
      exact ⟨q, by omega, by rw [g2 q (by omega)]; exact c⟩
def LOq (m : Nat → Nat → Int32) (q : Int) : Int := if q < (m 123 50).toInt then (m 126 (m 157 q.toNat).toInt.toNat).toInt else 0
def LAq (m : Nat → Nat → Int32) (q k : Int) : Int := if k < (m 126 (m 157 q.toNat).toInt.toNat).toInt then (m 127 (16 * (m 157 q.toNat).toInt + k).toNat).toInt else -1
/-- the next place of a LETTER -/
def NXR (m : Nat → Nat → Int32) (q f l v : Int) : Prop := ((m 123 50).toInt ≤ q ∧ v = 0) ∨ (q < (m 123 50).toInt ∧ ((v = -1 ∧ ∀ k : Int, f ≤ k → k < LOq m q → LAq m q k ≠ l) ∨ (f ≤ v ∧ v < LOq m q ∧ LAq m q v = l ∧ ∀ k : Int, f ≤ k → k < v → LAq m q k ≠ l)))
theorem NXR_fn {m : Nat → Nat → Int32} {q f l v w : Int} (h : NXR m q f l v) (k : NXR m q f l w) (hf : 0 ≤ f) : v = w := by
  rcases h with ⟨a1, a2⟩ | ⟨a1, h⟩
  · rcases k with ⟨b1, b2⟩ | ⟨b1, k⟩
    · omega
    · omega
  · rcases k with ⟨b1, b2⟩ | ⟨b1, k⟩
    · omega
    · rcases h with ⟨c1, c2⟩ | ⟨c1, c2, c3, c4⟩
      · rcases k with ⟨d1, d2⟩ | ⟨d1, d2, d3, d4⟩
        · omega
        · exact absurd d3 (c2 w d1 d2)
      · rcases k with ⟨d1, d2⟩ | ⟨d1, d2, d3, d4⟩
        · exact absurd c3 (d2 v c1 c2)
        · rcases Int.lt_trichotomy v w with z | z | z
          · exact absurd c3 (d4 v c1 z)
          · exact z
          · exact absurd d3 (c4 w d1 z)
def hix (m : Nat → Nat → Int32) (x y z : Int) : Nat := ((17 * (x + 1) + (y + 1)) * 17 + (if 2 < (m 123 50).toInt then z + 1 else 0)).toNat
def HBR (m : Nat → Nat → Int32) (a b c l v : Int) : Prop := ∃ x y z : Int, NXR m 0 a l x ∧ NXR m 1 b l y ∧ NXR m 2 c l z ∧ (((x = -1 ∨ y = -1 ∨ z = -1) ∧ v = -1) ∨ (x ≠ -1 ∧ y ≠ -1 ∧ z ≠ -1 ∧ v = 1 + (m 161 (hix m x y z)).toInt))
theorem HBR_fn {m : Nat → Nat → Int32} {a b c l v w : Int} (h : HBR m a b c l v) (k : HBR m a b c l w) (ha : 0 ≤ a) (hb : 0 ≤ b) (hc : 0 ≤ c) : v = w := by
  obtain ⟨x, y, z, h1, h2, h3, h4⟩ := h
  obtain ⟨x', y', z', k1, k2, k3, k4⟩ := k
  have e1 := NXR_fn h1 k1 ha
  have e2 := NXR_fn h2 k2 hb
  have e3 := NXR_fn h3 k3 hc
  subst e1; subst e2; subst e3
  rcases h4 with ⟨p1, p2⟩ | ⟨p1, p2, p3, p4⟩ <;> rcases k4 with ⟨q1, q2⟩ | ⟨q1, q2, q3, q4⟩
  · omega
  · omega
  · omega
  · rw [p4, q4]
def hidx (a b c : Int) : Nat := ((17 * a + b) * 17 + c).toNat
def HE (m : Nat → Nat → Int32) (a b c : Int) : Int := (m 161 (hidx a b c)).toInt
theorem hidx_inj {a b c a' b' c' : Int} (h1 : 0 ≤ a) (h2 : 0 ≤ b) (h3 : b ≤ 16) (h4 : 0 ≤ c) (h5 : c ≤ 16) (k1 : 0 ≤ a') (k2 : 0 ≤ b') (k3 : b' ≤ 16) (k4 : 0 ≤ c') (k5 : c' ≤ 16) (e : hidx a b c = hidx a' b' c') : a = a' ∧ b = b' ∧ c = c' := by
  unfold hidx at e
  omega
/-- behind A, B, C -/
def lg3 (a b c A B C : Int) : Prop := A < a ∨ (A = a ∧ (B < b ∨ (B = b ∧ C < c)))
def in3 (m : Nat → Nat → Int32) (a b c : Int) : Prop := 0 ≤ a ∧ a ≤ LOq m 0 ∧ 0 ≤ b ∧ b ≤ LOq m 1 ∧ 0 ≤ c ∧ c ≤ LOq m 2
def HAT (m : Nat → Nat → Int32) (a b c v : Int) : Prop := ∃ l : Int, 0 ≤ l ∧ l ≤ 25 ∧ HBR m a b c l v
def HR1 (m : Nat → Nat → Int32) (a b c v : Int) : Prop := v ≤ 16 - a ∧ (0 < v → HAT m a b c v)
/-- the table is filled behind A, B, C -/
def HTp (m : Nat → Nat → Int32) (A B C : Int) : Prop := ∀ a b c : Int, in3 m a b c → lg3 a b c A B C → HR1 m a b c (HE m a b c)
def LO16 (m : Nat → Nat → Int32) : Prop := ∀ q, 0 ≤ LOq m q ∧ LOq m q ≤ 16
theorem LO16_of {m : Nat → Nat → Int32} (h : ∀ j, 0 ≤ (m 126 j).toInt ∧ (m 126 j).toInt ≤ 16) : LO16 m := fun q => by
  unfold LOq
  split
  · exact h _
  · omega
theorem NXR_in {m : Nat → Nat → Int32} {q f l v : Int} (h : NXR m q f l v) (hv : v ≠ -1) (hf : 0 ≤ f) (hl : LO16 m) : (q < (m 123 50).toInt → f ≤ v ∧ v + 1 ≤ LOq m q) ∧ 0 ≤ v ∧ v ≤ 15 := by
  have := hl q
  rcases h with ⟨q1, q2⟩ | ⟨q1, q2 | q2⟩
  · exact ⟨fun _ => by omega, by omega, by omega⟩
  · omega
  · have a := q2.1; have b := q2.2.1; exact ⟨fun _ => ⟨a, by omega⟩, by omega, by omega⟩
/-- where a LETTER leads to -/
theorem HBR_to {m : Nat → Nat → Int32} {a b c l v : Int} (h : HBR m a b c l v) (hv : v ≠ -1) (h0 : 2 ≤ (m 123 50).toInt) (ha : in3 m a b c) (hl : LO16 m) :
    ∃ x y z : Int, NXR m 0 a l x ∧ NXR m 1 b l y ∧ NXR m 2 c l z ∧ x ≠ -1 ∧ y ≠ -1 ∧ z ≠ -1 ∧ a ≤ x ∧ in3 m (x + 1) (y + 1) (if 2 < (m 123 50).toInt then z + 1 else 0) ∧ v = 1 + HE m (x + 1) (y + 1) (if 2 < (m 123 50).toInt then z + 1 else 0) := by
  obtain ⟨x, y, z, h1, h2, h3, h4⟩ := h
  rcases h4 with ⟨p1, p2⟩ | ⟨p1, p2, p3, p4⟩
  · exact absurd p2 hv
  · have i1 := NXR_in h1 p1 ha.1 hl
    have i2 := NXR_in h2 p2 ha.2.2.1 hl
    have i3 := NXR_in h3 p3 ha.2.2.2.2.1 hl
    have j1 := i1.1 (by omega)
    have j2 := i2.1 (by omega)
    refine ⟨x, y, z, h1, h2, h3, p1, p2, p3, j1.1, ⟨by omega, by omega, by omega, by omega, ?_, ?_⟩, p4⟩
    · split <;> omega
    · split
      · have j3 := i3.1 (by omega); omega
      · exact (hl 2).1
theorem HBR_le {m : Nat → Nat → Int32} {a b c l v : Int} (h : HBR m a b c l v) (hx : HTp m a 16 16) (h0 : 2 ≤ (m 123 50).toInt) (ha : in3 m a b c) (hl : LO16 m) : v ≤ 16 - a := by
  by_cases hv : v = -1
  · have := ha.2.1; have := hl 0; omega
  · obtain ⟨x, y, z, h1, h2, h3, p1, p2, p3, p4, p5, p6⟩ := HBR_to h hv h0 ha hl
    have := (hx _ _ _ p5 (Or.inl (by omega))).1
    omega
/-- what the readings of it rest on stays -/
def HSAME (m m2 : Nat → Nat → Int32) : Prop := m2 123 50 = m 123 50 ∧ (∀ j, m2 157 j = m 157 j) ∧ (∀ j, m2 126 j = m 126 j) ∧ (∀ j, m2 127 j = m 127 j)
theorem HSAME.set {m m2 : Nat → Nat → Int32} {b j : Nat} {v : Int32} (e : m2 = up2 m b j v) (h : 158 ≤ b) : HSAME m m2 := by
  refine ⟨?_, fun q => ?_, fun q => ?_, fun q => ?_⟩ <;> rw [e, up2_ne (by omega)]
theorem LOq_eq {m m2 : Nat → Nat → Int32} (h : HSAME m m2) (q : Int) : LOq m2 q = LOq m q := by unfold LOq; rw [h.1, h.2.1, h.2.2.1]
theorem LAq_eq {m m2 : Nat → Nat → Int32} (h : HSAME m m2) (q k : Int) : LAq m2 q k = LAq m q k := by unfold LAq; rw [h.2.1, h.2.2.1, h.2.2.2]
theorem NXR_eq {m m2 : Nat → Nat → Int32} (h : HSAME m m2) {q f l v : Int} (k : NXR m q f l v) : NXR m2 q f l v := by
  unfold NXR at *
  rw [h.1, LOq_eq h]
  simp only [LAq_eq h]
  exact k
theorem in3_eq {m m2 : Nat → Nat → Int32} (h : HSAME m m2) {a b c : Int} (k : in3 m2 a b c) : in3 m a b c := by
  unfold in3 at *
  rw [LOq_eq h, LOq_eq h, LOq_eq h] at k
  exact k
theorem HE_ne {m m2 : Nat → Nat → Int32} {a b c A B C : Int} {v : Int32} (e : m2 = up2 m 161 (hidx A B C) v) (ha : in3 m a b c) (hA : in3 m A B C) (hl : LO16 m) (hne : ¬ (a = A ∧ b = B ∧ c = C)) : HE m2 a b c = HE m a b c := by
  have := hl 1
  have := hl 2
  obtain ⟨a1, a2, a3, a4, a5, a6⟩ := ha
  obtain ⟨b1, b2, b3, b4, b5, b6⟩ := hA
  unfold HE
  rw [e, up2_ne]
  intro z
  exact hne (hidx_inj a1 a3 (by omega) a5 (by omega) b1 b3 (by omega) b5 (by omega) z.2)
theorem HAT_eq {m m2 : Nat → Nat → Int32} {a b c A B C w : Int} {v : Int32} (h : HAT m a b c w) (hw : 0 < w) (e : m2 = up2 m 161 (hidx A B C) v) (h0 : 2 ≤ (m 123 50).toInt) (ha : in3 m a b c) (hA : in3 m A B C) (hl : LO16 m) (hle : A ≤ a) : HAT m2 a b c w := by
  have hs := HSAME.set e (by omega)
  obtain ⟨l, l1, l2, hb⟩ := h
  obtain ⟨x, y, z, h1, h2, h3, p1, p2, p3, p4, p5, p6⟩ := HBR_to hb (by omega) h0 ha hl
  refine ⟨l, l1, l2, x, y, z, NXR_eq hs h1, NXR_eq hs h2, NXR_eq hs h3, Or.inr ⟨p1, p2, p3, ?_⟩⟩
  rw [p6]
  have q := HE_ne e p5 hA hl (by omega)
  rw [← q, ← hs.1]
  rfl
/-- one more place is filled -/
theorem HTp_set {m m2 : Nat → Nat → Int32} {A B C : Int} {v : Int32} (h : HTp m A B C) (e : m2 = up2 m 161 (hidx A B C) v) (h0 : 2 ≤ (m 123 50).toInt) (hA : in3 m A B C) (hl : LO16 m) (hv : HR1 m A B C v.toInt) : HTp m2 A B (C - 1) := by
  have hs := HSAME.set e (by omega)
  intro a b c hi hg
  have hi := in3_eq hs hi
  by_cases q : a = A ∧ b = B ∧ c = C
  · obtain ⟨q1, q2, q3⟩ := q
    subst q1; subst q2; subst q3
    have e1 : HE m2 a b c = v.toInt := by unfold HE; rw [e, up2_eq]
    rw [e1]
    exact ⟨hv.1, fun z => HAT_eq (hv.2 z) z e h0 hi hA hl (by omega)⟩
  · rw [HE_ne e hi hA hl q]
    have hg2 : lg3 a b c A B C := by unfold lg3 at *; omega
    have k := h a b c hi hg2
    exact ⟨k.1, fun z => HAT_eq (k.2 z) z e h0 hi hA hl (by unfold lg3 at hg2; omega)⟩
theorem HTp_c {m : Nat → Nat → Int32} {A B : Int} (hl : LO16 m) (h : HTp m A B (-1)) : HTp m A (B - 1) 16 := by
  intro a b c hi hg
  exact h a b c hi (by have := hl 2; have := hi.2.2.2.2.1; have := hi.2.2.2.2.2; unfold lg3 at *; omega)
theorem HTp_b {m : Nat → Nat → Int32} {A : Int} (hl : LO16 m) (h : HTp m A (-1) 16) : HTp m (A - 1) 16 16 := by
  intro a b c hi hg
  exact h a b c hi (by have := hl 1; have := hl 2; have := hi.2.2.1; have := hi.2.2.2.1; have := hi.2.2.2.2.2; unfold lg3 at *; omega)
theorem HTp_a {m : Nat → Nat → Int32} {A : Int} (hl : LO16 m) (h : A = LOq m 0) : HTp m A 16 16 := by
  intro a b c hi hg
  have := hl 1; have := hl 2
  have := hi.2.1; have := hi.2.2.2.1; have := hi.2.2.2.2.2
  exfalso
  unfold lg3 at hg
  omega
theorem HTp_dn {m : Nat → Nat → Int32} {A B C B2 C2 : Int} (hl : LO16 m) (h : HTp m A B C) (hb : B2 = B ∨ (B = 16 ∧ C = 16 ∧ LOq m 1 ≤ B2)) (hc : (B2 = B → C2 = C ∨ (C = 16 ∧ LOq m 2 ≤ C2)) ∧ (B2 ≠ B → C2 = 16 ∨ LOq m 2 ≤ C2)) : HTp m A B2 C2 := by
  intro a b c hi hg
  have h1 := hi.2.2.2.1; have h2 := hi.2.2.2.2.2
  have := hl 1; have := hl 2
  refine h a b c hi ?_
  unfold lg3 at *
  by_cases q : B2 = B
  · have q2 := hc.1 q
    omega
  · have q2 := hc.2 q
    omega
/-- the best so far -/
theorem HR1_up {m : Nat → Nat → Int32} {a b c v : Int} {l : Int} (h : HBR m a b c l v) (l1 : 0 ≤ l) (l2 : l ≤ 25) (hle : v ≤ 16 - a) : HR1 m a b c v := ⟨hle, fun _ => ⟨l, l1, l2, h⟩⟩
theorem HR1_z {m : Nat → Nat → Int32} {a b c : Int} (h : a ≤ 16) : HR1 m a b c 0 := ⟨by omega, fun z => by omega⟩
/-- a LETTER at or behind l is the next one -/
def HW1 (m : Nat → Nat → Int32) (a b c l v : Int) : Prop := ∃ k : Int, l ≤ k ∧ k ≤ 25 ∧ HBR m a b c k v
theorem HW1.start {m : Nat → Nat → Int32} {a b c v : Int} (h : HR1 m a b c v) (hv : 0 < v) : HW1 m a b c 0 v := by
  obtain ⟨l, l1, l2, k⟩ := h.2 hv
  exact ⟨l, l1, l2, k⟩
theorem HW1.le {m : Nat → Nat → Int32} {a b c l v : Int} (h : HW1 m a b c l v) : l ≤ 25 := by
  obtain ⟨k, k1, k2, _⟩ := h
  omega
theorem HW1.step {m : Nat → Nat → Int32} {a b c l v w : Int} (h : HW1 m a b c l v) (k : HBR m a b c l w) (hne : w ≠ v) (hi : in3 m a b c) : HW1 m a b c (l + 1) v := by
  obtain ⟨q, q1, q2, q3⟩ := h
  refine ⟨q, ?_, q2, q3⟩
  by_cases z : q = l
  · rw [z] at q3
    exact absurd (HBR_fn k q3 hi.1 hi.2.2.1 hi.2.2.2.2.1) hne
  · omega
/-- the next place -/
theorem HBR_next {m : Nat → Nat → Int32} {a b c l v x y z : Int} (h : HBR m a b c l v) (hv : 0 < v) (h0 : 2 ≤ (m 123 50).toInt) (hi : in3 m a b c) (hl : LO16 m) (h1 : NXR m 0 a l x) (h2 : NXR m 1 b l y) (h3 : NXR m 2 c l z) :
    x ≠ -1 ∧ y ≠ -1 ∧ z ≠ -1 ∧ in3 m (x + 1) (y + 1) (if 2 < (m 123 50).toInt then z + 1 else 0) ∧ HE m (x + 1) (y + 1) (if 2 < (m 123 50).toInt then z + 1 else 0) = v - 1 := by
  obtain ⟨x', y', z', k1, k2, k3, p1, p2, p3, p4, p5, p6⟩ := HBR_to h (by omega) h0 hi hl
  have e1 := NXR_fn h1 k1 hi.1
  have e2 := NXR_fn h2 k2 hi.2.2.1
  have e3 := NXR_fn h3 k3 hi.2.2.2.2.1
  subst e1; subst e2; subst e3
  exact ⟨p1, p2, p3, p5, by omega⟩
theorem in3_of {m : Nat → Nat → Int32} {a b c a' b' c' : Int} (h : in3 m a b c) (e1 : a' = a) (e2 : b' = b) (e3 : c' = c) : in3 m a' b' c' := by rw [e1, e2, e3]; exact h
theorem HE_of {m : Nat → Nat → Int32} {a b c a' b' c' : Int} (e1 : a' = a) (e2 : b' = b) (e3 : c' = c) : HE m a' b' c' = HE m a b c := by rw [e1, e2, e3]
