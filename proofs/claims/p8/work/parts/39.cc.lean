/-! how many DEEDS were measured: those shorter than s, and those of length s behind place i -/
def cdF (m : Nat → Nat → Int32) (s i : Int) : Nat → Int
  | 0 => 0
  | k + 1 => cdF m s i k + (if (m (61 + 2 * k) 1).toInt < s ∨ ((m (61 + 2 * k) 1).toInt = s ∧ i < k) then 1 else 0)
theorem cdF_b {m : Nat → Nat → Int32} {s i : Int} : ∀ k : Nat, 0 ≤ cdF m s i k ∧ cdF m s i k ≤ k
  | 0 => by simp [cdF]
  | k + 1 => by have := cdF_b (m := m) (s := s) (i := i) k; simp only [cdF]; split <;> omega
theorem cdF_eq {m m' : Nat → Nat → Int32} {s i : Int} : ∀ k : Nat, (∀ j : Nat, j < k → m' (61 + 2 * j) 1 = m (61 + 2 * j) 1) → cdF m' s i k = cdF m s i k
  | 0, _ => rfl
  | k + 1, h => by simp only [cdF]; rw [cdF_eq k (fun j hj => h j (by omega)), h k (by omega)]
theorem cdF_skip {m : Nat → Nat → Int32} {s i : Int} (h : (m (61 + 2 * i.toNat) 1).toInt ≠ s) (h0 : 0 ≤ i) : ∀ k : Nat, cdF m s (i - 1) k = cdF m s i k
  | 0 => rfl
  | k + 1 => by
    simp only [cdF]
    rw [cdF_skip h h0 k]
    by_cases q : (k : Int) = i
    · rw [show k = i.toNat by omega]
      split <;> split <;> omega
    · split <;> split <;> omega
theorem cdF_hit {m : Nat → Nat → Int32} {s i : Int} (h : (m (61 + 2 * i.toNat) 1).toInt = s) (h0 : 0 ≤ i) : ∀ k : Nat, cdF m s (i - 1) k = cdF m s i k + (if i < k then 1 else 0)
  | 0 => by simp only [cdF]; split <;> omega
  | k + 1 => by
    simp only [cdF]
    rw [cdF_hit h h0 k]
    by_cases q : (k : Int) = i
    · rw [show k = i.toNat by omega]
      split <;> split <;> split <;> split <;> omega
    · split <;> split <;> split <;> split <;> omega
theorem cdF_next {m : Nat → Nat → Int32} {s : Int} : ∀ k : Nat, (k : Int) ≤ 8 → cdF m s (-1) k = cdF m (s + 1) 7 k
  | 0, _ => rfl
  | k + 1, h => by
    simp only [cdF]
    rw [cdF_next k (by omega)]
    split <;> split <;> omega
def MX (m : Nat → Nat → Int32) (c : Int) : Prop := ∀ j : Nat, j < 8 → (m 121 j).toInt ≤ c
theorem MX_set {m m2 : Nat → Nat → Int32} {c d : Int} {i : Nat} {v : Int32} (h : MX m c) (e : m2 = up2 m 121 i v) (hv : v.toInt ≤ d) (hd : c ≤ d) : MX m2 d := by
  intro j hj
  rw [e]
  by_cases q : j = i
  · subst q; rw [up2_eq]; exact hv
  · rw [up2_ne (fun z => q z.2)]; exact Int.le_trans (h j hj) hd
theorem cd_set {m m2 : Nat → Nat → Int32} {s i : Int} {k : Nat} {v : Int32} (e : m2 = up2 m 121 k v) : cdF m2 s i 8 = cdF m s i 8 := cdF_eq 8 (fun j hj => by rw [e, up2_ne (by omega)])
