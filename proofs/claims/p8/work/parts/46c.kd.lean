/-! the tape, the number of BLANKS: exactly, on both sides -/
def BT (x : Int32) (n : Nat) : Int := x.toInt / (2 : Int) ^ n % 256
theorem i32_lit {s : Int32} {k : Int} (h : s.toInt = k) : s = Int32.ofInt k := by rw [← h]; exact (Int32.ofInt_toInt s).symm
theorem i32_cond (x : Int32) : (x.toInt = (x.toBitVec.toNat : Int) ∧ x.toBitVec.toNat < 2147483648) ∨ (x.toInt = (x.toBitVec.toNat : Int) - 4294967296 ∧ 2147483648 ≤ x.toBitVec.toNat ∧ x.toBitVec.toNat < 4294967296) := by
  have e : x.toInt = x.toBitVec.toInt := rfl
  have h := x.toBitVec.isLt
  rw [e, BitVec.toInt_eq_toNat_cond]
  split <;> omega
theorem and255 (z : Int32) : (z &&& 255).toInt = z.toInt % 256 := by
  have h := i32_cond (z &&& 255)
  have h2 := i32_cond z
  have e : (z &&& 255).toBitVec.toNat = z.toBitVec.toNat % 256 := by
    show (z.toBitVec &&& 255#32).toNat = _
    rw [BitVec.toNat_and]
    exact Nat.and_two_pow_sub_one_eq_mod z.toBitVec.toNat 8
  rw [e] at h
  omega
theorem ush_nat (x : Int32) {s : Int32} {n : Nat} (hs : (s.toUInt32 &&& Int32.toUInt32 31).toNat % 32 = n) : (ush x s).toBitVec.toNat = x.toBitVec.toNat >>> n := by
  show (x.toUInt32 >>> (s.toUInt32 &&& Int32.toUInt32 31)).toNat = _
  rw [UInt32.toNat_shiftRight, hs]
  rfl
theorem ush_bt0 (x : Int32) {s : Int32} {n : Nat} (hs : (s.toUInt32 &&& Int32.toUInt32 31).toNat % 32 = n) (hn : n = 0 ∨ n = 8 ∨ n = 16 ∨ n = 24) : (ush x s &&& 255).toInt = x.toInt / (2 : Int) ^ n % 256 := by
  have e := ush_nat x hs
  have h1 := i32_cond (ush x s)
  have h2 := i32_cond x
  rw [and255]
  rw [Nat.shiftRight_eq_div_pow] at e
  rcases hn with rfl | rfl | rfl | rfl <;> simp at e ⊢ <;> omega
theorem shr_int (x : Int32) {s : Int32} {n : Nat} (hs : (s &&& 31).toBitVec.toNat = n) (hn : n = 0 ∨ n = 8 ∨ n = 16 ∨ n = 24) : (x >>> (s &&& 31)).toInt = x.toInt / (2 : Int) ^ n := by
  show (x >>> (s &&& 31)).toBitVec.toInt = _
  rw [Int32.toBitVec_shiftRight, BitVec.sshiftRight_eq']
  have e : ((s &&& 31).toBitVec.smod 32).toNat = n := by
    have : (s &&& 31).toBitVec = BitVec.ofNat 32 n := by
      apply BitVec.eq_of_toNat_eq; rw [hs]; rcases hn with rfl | rfl | rfl | rfl <;> rfl
    rw [this]
    rcases hn with rfl | rfl | rfl | rfl <;> decide
  rw [e, BitVec.toInt_sshiftRight, Int.shiftRight_eq_div_pow]
  rcases hn with rfl | rfl | rfl | rfl <;> rfl
theorem i8_mod (x : Int32) : x.toInt8.toInt32.toInt % 256 = x.toInt % 256 := by
  rw [Int8.toInt_toInt32]
  show x.toInt8.toInt % 256 = _
  rw [Int32.toInt_toInt8]
  rw [Int.bmod_def]
  split <;> omega
def SH4 (s : Int32) : Prop := s.toInt = 0 ∨ s.toInt = 8 ∨ s.toInt = 16 ∨ s.toInt = 24
theorem ush_bt (x : Int32) {s v w : Int32} (h : SH4 s) (e1 : v = (x.toUInt32 >>> (s.toUInt32 &&& Int32.toUInt32 31)).toInt32) (e2 : w = v &&& 255) : w.toInt = BT x s.toInt.toNat := by
  rw [e2, e1]
  refine ush_bt0 x (s := s) ?_ (by unfold SH4 at h; omega)
  rcases h with h | h | h | h <;> rw [h, i32_lit h] <;> decide
theorem shr_bt (x : Int32) {s v w : Int32} (h : SH4 s) (e1 : v = x >>> (s &&& 31)) (e2 : w = v.toInt8.toInt32) : w.toInt % 256 = BT x s.toInt.toNat := by
  rw [e2, i8_mod, e1, shr_int x (s := s) (n := s.toInt.toNat) ?_ (by unfold SH4 at h; omega)]
  · rfl
  · rcases h with h | h | h | h <;> rw [h, i32_lit h] <;> decide
/-- four bytes more at the end of what stood there (c: the bytes, a f: their number) -/
def PUT (c a f : Nat) (φ : Int → Int) (x : Int32) (m m' : Nat → Nat → Int32) : Prop := (m' a f).toInt = (m a f).toInt + 4 ∧ (∀ j : Nat, (j : Int) < (m a f).toInt → m' c j = m c j) ∧ ∀ k : Nat, k < 4 → φ (m' c ((m a f).toInt.toNat + k)).toInt = BT x (24 - 8 * k)
def TAP (c a f : Nat) (φ : Int → Int) (l : List Int32) (m m' : Nat → Nat → Int32) : Prop := (m' a f).toInt = (m a f).toInt + 4 * l.length ∧ (∀ j : Nat, (j : Int) < (m a f).toInt → m' c j = m c j) ∧ ∀ (q k : Nat) (x : Int32), l[q]? = some x → k < 4 → φ (m' c ((m a f).toInt.toNat + 4 * q + k)).toInt = BT x (24 - 8 * k)
theorem TAP_0 {c a f : Nat} {φ : Int → Int} {m : Nat → Nat → Int32} : TAP c a f φ [] m m := ⟨by simp, fun _ _ => rfl, fun q k x h => by simp at h⟩
theorem TAP_put {c a f : Nat} {φ : Int → Int} {l : List Int32} {m m1 m2 : Nat → Nat → Int32} {x : Int32} (h0 : 0 ≤ (m a f).toInt) (h : TAP c a f φ l m m1) (p : PUT c a f φ x m1 m2) : TAP c a f φ (l ++ [x]) m m2 := by
  obtain ⟨h1, h2, h3⟩ := h
  obtain ⟨p1, p2, p3⟩ := p
  refine ⟨by rw [p1, h1, List.length_append]; simp; omega, fun j hj => by rw [p2 j (by omega), h2 j hj], fun q k y hq hk => ?_⟩
  by_cases z : q < l.length
  · rw [List.getElem?_append_left z] at hq
    rw [p2 _ (by omega)]
    exact h3 q k y hq hk
  · rw [List.getElem?_append_right (by omega)] at hq
    have e : q = l.length := by
      have := (List.getElem?_eq_some_iff.mp hq).1
      simp at this
      omega
    subst e
    simp at hq
    subst hq
    have := p3 k hk
    rw [show (m1 a f).toInt.toNat + k = (m a f).toInt.toNat + 4 * l.length + k by omega] at this
    exact this
/-- LETTERS at the head of the tape -/
def LET (c : Nat) (m : Nat → Nat → Int32) (n : Int) : Prop := ∀ j : Nat, (j : Int) < n → 97 ≤ (m c j).toInt ∧ (m c j).toInt ≤ 122
def BLK (n cnt tp : Int) (hl : Prop) (v cnt' tp' : Int) : Prop := (1 ≤ n ∧ n ≤ 40 ∧ cnt < 8 ∧ n ≤ tp ∧ tp' = 0 ∧ ((hl ∧ v = cnt ∧ cnt' = cnt + 1) ∨ (¬ hl ∧ v = -2 ∧ cnt' = cnt))) ∨ ((n < 1 ∨ 40 < n ∨ 8 ≤ cnt ∨ tp < n) ∧ v = -1 ∧ cnt' = cnt ∧ tp' = tp)
def DDK (i n tp : Int) (hl : Prop) (v tp' : Int) : Prop := (0 ≤ i ∧ i ≤ 7 ∧ 1 ≤ n ∧ n ≤ 16 ∧ n ≤ tp ∧ tp' = 0 ∧ ((hl ∧ v = n) ∨ (¬ hl ∧ v = -2))) ∨ ((i < 0 ∨ 7 < i ∨ n < 1 ∨ 16 < n ∨ tp < n) ∧ v = -1 ∧ tp' = tp)
def LWK (n tp tp' : Int) : Prop := (1 ≤ n ∧ n ≤ 160 ∧ n ≤ tp ∧ tp' = 0) ∨ ((n < 1 ∨ 160 < n ∨ tp < n) ∧ tp' = tp)
def CKK (b n cnt tp tp' : Int) : Prop := (0 ≤ b ∧ b < cnt ∧ 0 ≤ n ∧ 4 * n ≤ tp ∧ tp' = 0) ∨ ((b < 0 ∨ cnt ≤ b ∨ n < 0 ∨ tp < 4 * n) ∧ tp' = tp)
def FDK (c a f : Nat) (φ : Int → Int) (l : List Int32) (m m' : Nat → Nat → Int32) (v : Int) : Prop := ((m a f).toInt ≤ 180 ∧ v = (m a f).toInt + 20 ∧ TAP c a f φ l m m') ∨ (180 < (m a f).toInt ∧ v = -1 ∧ (m' a f).toInt = (m a f).toInt ∧ ∀ j, m' c j = m c j)
/-- both sides alike: DAY, number of BLANKS, tape -/
def EQK (m : Nat → Nat → Int32) : Prop := (m 0 7).toInt = (m 123 1).toInt ∧ (m 0 2).toInt = (m 123 0).toInt ∧ (m 1 1).toInt = (m 123 11).toInt ∧ ∀ j : Nat, (j : Int) < (m 1 1).toInt → (m 2 j).toInt = (m 129 j).toInt % 256
theorem EQK_k {m m2 : Nat → Nat → Int32} (h : EQK m) (h1 : m2 0 7 = m 0 7) (h2 : m2 123 1 = m 123 1) (h3 : m2 0 2 = m 0 2) (h4 : m2 123 0 = m 123 0) (h5 : m2 1 1 = m 1 1) (h6 : m2 123 11 = m 123 11) (h7 : ∀ j, m2 2 j = m 2 j) (h8 : ∀ j, m2 129 j = m 129 j) : EQK m2 := by
  obtain ⟨a, b, c, d⟩ := h
  refine ⟨by rw [h1, h2]; exact a, by rw [h3, h4]; exact b, by rw [h5, h6]; exact c, fun j hj => ?_⟩
  rw [h5] at hj
  rw [h7, h8]
  exact d j hj
theorem EQK_let {m : Nat → Nat → Int32} (I : IV BB m) (h : EQK m) {n : Int} (hn : n ≤ (m 1 1).toInt) : LET 2 m n ↔ LET 129 m n := by
  constructor
  · intro q j hj
    have a := q j hj
    have b := h.2.2.2 j (by omega)
    have c1 : (-128 : Int) ≤ (m 129 j).toInt := (I 129 j).1
    have c2 : (m 129 j).toInt ≤ 127 := (I 129 j).2
    omega
  · intro q j hj
    have a := q j hj
    have b := h.2.2.2 j (by omega)
    omega
theorem LET_eq {c : Nat} {m m2 : Nat → Nat → Int32} (h : ∀ j, m2 c j = m c j) (n : Int) : LET c m2 n ↔ LET c m n := by
  constructor
  · intro q j hj; rw [← h j]; exact q j hj
  · intro q j hj; rw [h j]; exact q j hj
theorem BLK_det {n cnt tp v c' t' v2 c2 t2 : Int} {hl hl2 : Prop} (e : n ≤ tp → (hl ↔ hl2)) (a : BLK n cnt tp hl v c' t') (b : BLK n cnt tp hl2 v2 c2 t2) : v = v2 ∧ c' = c2 ∧ t' = t2 := by
  rcases a with ⟨a1, a2, a3, a4, a5, ⟨a6, a7, a8⟩ | ⟨a6, a7, a8⟩⟩ | ⟨a1, a2, a3, a4⟩ <;> rcases b with ⟨b1, b2, b3, b4, b5, ⟨b6, b7, b8⟩ | ⟨b6, b7, b8⟩⟩ | ⟨b1, b2, b3, b4⟩
  · omega
  · exact absurd ((e a4).mp a6) b6
  · omega
  · exact absurd ((e a4).mpr b6) a6
  · omega
  · omega
  · omega
  · omega
  · omega
theorem DDK_det {i n tp v t' v2 t2 : Int} {hl hl2 : Prop} (e : n ≤ tp → (hl ↔ hl2)) (a : DDK i n tp hl v t') (b : DDK i n tp hl2 v2 t2) : v = v2 ∧ t' = t2 := by
  rcases a with ⟨a1, a2, a3, a4, a5, a9, ⟨a6, a7⟩ | ⟨a6, a7⟩⟩ | ⟨a1, a2, a3⟩ <;> rcases b with ⟨b1, b2, b3, b4, b5, b9, ⟨b6, b7⟩ | ⟨b6, b7⟩⟩ | ⟨b1, b2, b3⟩
  · omega
  · exact absurd ((e a5).mp a6) b6
  · omega
  · exact absurd ((e a5).mpr b6) a6
  · omega
  · omega
  · omega
  · omega
  · omega
theorem LWK_det {n tp t' t2 : Int} (a : LWK n tp t') (b : LWK n tp t2) : t' = t2 := by unfold LWK at *; omega
theorem CKK_det {b n cnt tp t' t2 : Int} (a : CKK b n cnt tp t') (c : CKK b n cnt tp t2) : t' = t2 := by unfold CKK at *; omega
theorem LWK_le {n tp t' : Int} (a : LWK n tp t') : t' = tp ∨ t' = 0 := by unfold LWK at *; omega
theorem CKK_le {b n cnt tp t' : Int} (a : CKK b n cnt tp t') : t' = tp ∨ t' = 0 := by unfold CKK at *; omega
theorem BLK_le {n cnt tp v c' t' : Int} {hl : Prop} (a : BLK n cnt tp hl v c' t') : t' = tp ∨ t' = 0 := by
  rcases a with ⟨_, _, _, _, a5, _⟩ | ⟨_, _, _, a4⟩
  · exact Or.inr a5
  · exact Or.inl a4
theorem DDK_le {i n tp v t' : Int} {hl : Prop} (a : DDK i n tp hl v t') : t' = tp ∨ t' = 0 := by
  rcases a with ⟨_, _, _, _, _, a5, _⟩ | ⟨_, _, a4⟩
  · exact Or.inr a5
  · exact Or.inl a4
/-- fed on both sides -/
theorem FDK_EQ {m m1 m2 : Nat → Nat → Int32} {a b c d e : Int32} {v w : Int} (h0 : 0 ≤ (m 1 1).toInt) (h : EQK m) (p : FDK 2 1 1 id [a, b, c, d, e] m m1 v) (q : FDK 129 123 11 (fun z => z % 256) [a, b, c, d, e] m1 m2 w) (f1 : m2 0 7 = m 0 7) (f2 : m2 123 1 = m 123 1) (f3 : m2 0 2 = m 0 2) (f4 : m2 123 0 = m 123 0) (g1 : m1 123 11 = m 123 11) (g2 : ∀ j, m1 129 j = m 129 j) (g3 : m2 1 1 = m1 1 1) (g4 : ∀ j, m2 2 j = m1 2 j) : v = w ∧ EQK m2 := by
  obtain ⟨h1, h2, h3, h4⟩ := h
  have hT : (m1 123 11).toInt = (m 1 1).toInt := by rw [g1]; exact h3.symm
  rcases p with ⟨p1, p2, p3, p4, p5⟩ | ⟨p1, p2, p3, p4⟩ <;> rcases q with ⟨q1, q2, q3, q4, q5⟩ | ⟨q1, q2, q3, q4⟩
  · refine ⟨by omega, by rw [f1, f2]; exact h1, by rw [f3, f4]; exact h2, by rw [g3, p3, q3, hT], fun j hj => ?_⟩
    rw [g3, p3] at hj
    have hj : (j : Int) < (m 1 1).toInt + 20 := hj
    rw [g4]
    by_cases z : (j : Int) < (m 1 1).toInt
    · rw [p4 j z, q4 j (by omega), g2]
      exact h4 j z
    · have e1 : j = (m 1 1).toInt.toNat + 4 * ((j - (m 1 1).toInt.toNat) / 4) + (j - (m 1 1).toInt.toNat) % 4 := by omega
      have e2 : (j - (m 1 1).toInt.toNat) / 4 < 5 := by omega
      have e3 : (j - (m 1 1).toInt.toNat) % 4 < 4 := by omega
      generalize (j - (m 1 1).toInt.toNat) / 4 = qq at e1 e2
      generalize (j - (m 1 1).toInt.toNat) % 4 = kk at e1 e3
      have hx : ∃ x, ([a, b, c, d, e] : List Int32)[qq]? = some x := by
        have : qq = 0 ∨ qq = 1 ∨ qq = 2 ∨ qq = 3 ∨ qq = 4 := by omega
        rcases this with rfl | rfl | rfl | rfl | rfl <;> exact ⟨_, rfl⟩
      obtain ⟨x, hx⟩ := hx
      have r1 := p5 qq kk x hx e3
      have r2 := q5 qq kk x hx e3
      rw [show (m1 123 11).toInt.toNat = (m 1 1).toInt.toNat by omega] at r2
      rw [← e1] at r1 r2
      have r1 : (m1 2 j).toInt = BT x (24 - 8 * kk) := r1
      have r2 : (m2 129 j).toInt % 256 = BT x (24 - 8 * kk) := r2
      rw [r1, r2]
  · omega
  · omega
  · refine ⟨by omega, by rw [f1, f2]; exact h1, by rw [f3, f4]; exact h2, by rw [g3, p3, q3, hT], fun j hj => ?_⟩
    rw [g3, p3] at hj
    rw [g4, p4, q4, g2]
    exact h4 j hj
