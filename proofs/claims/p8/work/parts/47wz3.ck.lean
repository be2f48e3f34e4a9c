/-! check, on both sides -/
def tnF (f : Nat → Int32) (b : Nat) : Nat → Int32
  | 0 => 0
  | i + 1 => (tnF f b i <<< ((8 : Int32) &&& 31)) ||| f (b + i)
theorem tnF_s {f : Nat → Int32} {b i : Nat} : tnF f b (i + 1) = (tnF f b i <<< ((8 : Int32) &&& 31)) ||| f (b + i) := rfl
theorem tnF_eq {f g : Nat → Int32} {b : Nat} : ∀ k, (∀ i, i < k → f (b + i) = g (b + i)) → tnF f b k = tnF g b k
  | 0, _ => rfl
  | k + 1, h => by rw [tnF_s, tnF_s, tnF_eq k (fun i hi => h i (by omega)), h k (by omega)]
def CHKE (n sz : Int) (E : Nat → Prop) (v : Int) : Prop := ∃ k : Nat, (k : Int) ≤ n ∧ (k : Int) ≤ sz ∧ (∀ j, j < k → E j) ∧ ((k : Int) = n ∨ (k : Int) = sz ∨ ¬ E k) ∧ (((k : Int) = n ∧ (k : Int) = sz ∧ v = -1) ∨ (¬ ((k : Int) = n ∧ (k : Int) = sz) ∧ v = k))
def CHKc (ok : Prop) (n sz : Int) (E : Nat → Prop) (v : Int) : Prop := (¬ ok ∧ v = -2) ∨ (ok ∧ CHKE n sz E v)
def CHKr (ok : Prop) (m : Nat → Nat → Int32) (b : Nat) (n sz : Int) (v : Int) : Prop := (¬ ok ∧ v = -2) ∨ (ok ∧ ∃ r : Nat → Int32, (∀ p : Nat, (p : Int) < sz → ∃ w, IsN (m 128) (40 * b) (m 124 b).toInt.toNat p w ∧ r p = m 125 (40 * b + w)) ∧ CHKE n sz (fun j => tnF (fun i => m 129 i &&& 255) (4 * j) 4 = r j) v)
theorem CHKE_det {n sz v w : Int} {E E2 : Nat → Prop} (h : CHKE n sz E v) (h2 : CHKE n sz E2 w) (e : ∀ j : Nat, (j : Int) < n → (j : Int) < sz → (E j ↔ E2 j)) : v = w := by
  obtain ⟨k, a1, a2, a3, a4, a5⟩ := h
  obtain ⟨l, c1, c2, c3, c4, c5⟩ := h2
  have : k = l := by
    rcases Nat.lt_trichotomy k l with z | z | z
    · have q := (e k (by omega) (by omega)).mpr (c3 k z)
      rcases a4 with a4 | a4 | a4
      · omega
      · omega
      · exact absurd q a4
    · exact z
    · have q := (e l (by omega) (by omega)).mp (a3 l z)
      rcases c4 with c4 | c4 | c4
      · omega
      · omega
      · exact absurd q c4
  subst this
  omega
theorem check_A {la lb : Nat} {m m1 : Nat → Nat → Int32} {x0 x1 v w : Int32} (I : IV BB m) (h : EQA la lb m)
    (c : CHKc ((0 ≤ x0.toInt ∧ x0.toInt < (m 0 2).toInt) ∧ 0 ≤ x1.toInt ∧ 4 * x1.toInt ≤ (m 1 1).toInt) x1.toInt (m (4 + 7 * x0.toInt.toNat + 3) 1).toInt (fun j => tnF (m 2) (4 * j) 4 = m (4 + 7 * x0.toInt.toNat + 4) j) v.toInt)
    (r : CHKr ((0 ≤ x0.toInt ∧ x0.toInt < (m1 123 0).toInt) ∧ 0 ≤ x1.toInt ∧ 4 * x1.toInt ≤ (m1 123 11).toInt) m1 x0.toInt.toNat x1.toInt (nu m1 x0.toInt 0) w.toInt)
    (f : ∀ a i, ¬ (a = 1 ∧ i = 1) → m1 a i = m a i) : w = v := by
  have hS := EQA_SB I h
  have k : ∀ a, 2 ≤ a → m1 a = m a := fun a q => funext fun i => f a i (by omega)
  have hn : nu m1 x0.toInt 0 = nu m x0.toInt 0 := nu_eq (fun j => f 124 j (by omega)) (fun j => f 128 j (by omega)) _ _
  unfold CHKr at r
  rw [k 123 (by omega), k 128 (by omega), k 124 (by omega), k 125 (by omega), k 129 (by omega), hn, ← h.1.1.2.2.1, ← h.1.1.2.1] at r
  rcases c with ⟨c1, c2⟩ | ⟨c1, c2⟩ <;> rcases r with ⟨r1, r2⟩ | ⟨r1, rr, r2, r3⟩
  · exact Int32.toInt_inj.mp (r2.trans c2.symm)
  · exact absurd r1 c1
  · exact absurd c1 r1
  · have c11 := c1.1
    have hz := SZ_nu (b := x0.toInt.toNat) hS h.2 (by omega)
    rw [show ((x0.toInt.toNat : Nat) : Int) = x0.toInt by omega] at hz
    rw [← hz] at r2 r3
    refine (Int32.toInt_inj.mp (CHKE_det c2 r3 (fun j j1 j2 => ?_))).symm
    have e1 : tnF (m 2) (4 * j) 4 = tnF (fun i => m 129 i &&& 255) (4 * j) 4 := tnF_eq 4 (fun i hi => by
      have q := h.1.1.2.2.2 (4 * j + i) (by omega)
      show m 2 (4 * j + i) = m 129 (4 * j + i) &&& 255
      exact Int32.toInt_inj.mp (by rw [and255]; exact q))
    have e2 := left_row (r := rr) hS h.2 (by omega) j2 (r2 j j2)
    show tnF (m 2) (4 * j) 4 = m (4 + 7 * x0.toInt.toNat + 4) j ↔ tnF (fun i => m 129 i &&& 255) (4 * j) 4 = rr j
    rw [e1, e2]
theorem BB_rst {b : Nat} (h : b < 8) : BB (4 + 7 * b + 3) 1 = (0, 40) := by
  have : b = 0 ∨ b = 1 ∨ b = 2 ∨ b = 3 ∨ b = 4 ∨ b = 5 ∨ b = 6 ∨ b = 7 := by omega
  rcases this with rfl | rfl | rfl | rfl | rfl | rfl | rfl | rfl <;> rfl
