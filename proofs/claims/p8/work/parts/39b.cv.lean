/-! THE SHORTEST of the class: the states, how far apart they are -/
def cA (s : Nat → Int) : Nat → Int
  | 0 => 1
  | k + 1 => cA s k * (s (3 - k) + 1)
theorem cA_s (s : Nat → Int) (k : Nat) : cA s (k + 1) = cA s k * (s (3 - k) + 1) := rfl
def S12 (s : Nat → Int) : Prop := ∀ d, d < 4 → 0 ≤ s d ∧ s d ≤ 12
theorem cA_b {s : Nat → Int} (h : S12 s) : ∀ k, k ≤ 4 → 1 ≤ cA s k ∧ cA s k ≤ (13 : Int) ^ k
  | 0, _ => ⟨show (1 : Int) ≤ 1 by decide, show (1 : Int) ≤ 1 by decide⟩
  | k + 1, hk => by
    have a := cA_b h k (by omega)
    have b := h (3 - k) (by omega)
    rw [cA_s, Int.pow_succ]
    have z : (0 : Int) ≤ 13 ^ k := by omega
    constructor
    · have := Int.mul_le_mul (a := 1) (b := 1) (c := cA s k) (d := s (3 - k) + 1) a.1 (by omega) (by decide) (by omega)
      omega
    · exact Int.mul_le_mul a.2 (by omega) (by omega) z
theorem cA_4 {s : Nat → Int} (h : S12 s) : cA s 4 ≤ 28561 := (cA_b h 4 (by omega)).2
theorem cA_x (s : Nat → Int) (k : Nat) : cA s (k + 1) = s (3 - k) * cA s k + cA s k := by rw [cA_s, Int.mul_add, Int.mul_one, Int.mul_comm]
/-- the state of four places -/
def ix4 (s a : Nat → Int) : Int := a 0 * cA s 3 + a 1 * cA s 2 + a 2 * cA s 1 + a 3 * cA s 0
theorem ix4_s {s : Nat → Int} : ix4 s s + 1 = cA s 4 := by
  have h3 : cA s 4 = s 0 * cA s 3 + cA s 3 := cA_x s 3
  have h2 : cA s 3 = s 1 * cA s 2 + cA s 2 := cA_x s 2
  have h1 : cA s 2 = s 2 * cA s 1 + cA s 1 := cA_x s 1
  have h0 : cA s 1 = s 3 * cA s 0 + cA s 0 := cA_x s 0
  have e : cA s 0 = 1 := rfl
  unfold ix4
  omega
theorem ix4_mono {s a b : Nat → Int} (h : S12 s) (hab : ∀ d, d < 4 → a d ≤ b d) : ix4 s a ≤ ix4 s b := by
  have q3 := Int.mul_le_mul_of_nonneg_right (hab 0 (by omega)) (show 0 ≤ cA s 3 by have := (cA_b h 3 (by omega)).1; omega)
  have q2 := Int.mul_le_mul_of_nonneg_right (hab 1 (by omega)) (show 0 ≤ cA s 2 by have := (cA_b h 2 (by omega)).1; omega)
  have q1 := Int.mul_le_mul_of_nonneg_right (hab 2 (by omega)) (show 0 ≤ cA s 1 by have := (cA_b h 1 (by omega)).1; omega)
  have q0 := Int.mul_le_mul_of_nonneg_right (hab 3 (by omega)) (show 0 ≤ cA s 0 by have := (cA_b h 0 (by omega)).1; omega)
  unfold ix4
  omega
theorem ix4_le {s a : Nat → Int} (h : S12 s) (ha : ∀ d, d < 4 → a d ≤ s d) : ix4 s a ≤ 28560 := by
  have := ix4_mono h ha
  have := ix4_s (s := s)
  have := cA_4 h
  omega
/-- the steps that a LETTER leads on: w d of 0 or 1 each -/
def wn (s w : Nat → Int) : Nat → Int
  | 0 => 0
  | k + 1 => wn s w k + w k * cA s (3 - k)
theorem wn_4 {s a w : Nat → Int} : ix4 s a + wn s w 4 = ix4 s (fun d => a d + w d) := by
  show _ + (0 + w 0 * cA s 3 + w 1 * cA s 2 + w 2 * cA s 1 + w 3 * cA s 0) = _
  unfold ix4
  simp only [Int.add_mul]
  omega
theorem wn_s {s w : Nat → Int} {j k : Int} (h : 0 ≤ j) (hk : k = j + 1) : wn s w k.toNat = wn s w j.toNat + w j.toNat * cA s (3 - j.toNat) := by
  rw [show k.toNat = j.toNat + 1 by omega]
  rfl
theorem wn_b {s w : Nat → Int} (h : S12 s) (hw : ∀ d, 0 ≤ w d) : ∀ k, k ≤ 4 → 0 ≤ wn s w k
  | 0, _ => Int.le_refl _
  | k + 1, hk => by
    have a := wn_b h hw k (by omega)
    have b := Int.mul_nonneg (hw k) (show 0 ≤ cA s (3 - k) by have := (cA_b h (3 - k) (by omega)).1; omega)
    simp only [wn]
    omega
