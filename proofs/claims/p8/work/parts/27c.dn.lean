/-! the cheapest: what its table tells, the places that stay, and the strokes between them -/
def CT1 (m : Nat → Nat → Int32) (k j : Nat) : Prop := (m 153 (17 * k + j)).toInt < 1000000000 → ((k : Int) = (m 123 40).toInt ∧ (j : Int) = (m 123 41).toInt) ∨ ((k : Int) < (m 123 40).toInt ∧ (((j : Int) < (m 123 41).toInt ∧ (m 149 k).toInt = (m 150 j).toInt ∧ (m 153 (17 * (k + 1) + j + 1)).toInt = (m 153 (17 * k + j)).toInt) ∨ (m 153 (17 * (k + 1) + j)).toInt < 1000000000))
theorem CT1_set {m m2 : Nat → Nat → Int32} {k j K J : Nat} {v : Int32} (h : CT1 m k j) (e : m2 = up2 m 153 (17 * K + J) v) (hj : j ≤ 16) (hJ : J ≤ 16) (hk : K < k ∨ (K = k ∧ J < j)) : CT1 m2 k j := by
  have e1 : ∀ i, i ≠ 17 * K + J → m2 153 i = m 153 i := fun i hi => by rw [e, up2_ne (by omega)]
  have e2 : ∀ a, a ≠ 153 → ∀ i, m2 a i = m a i := fun a ha i => by rw [e, up2_ne (by omega)]
  unfold CT1
  rw [e1 (17 * k + j) (by omega), e1 (17 * (k + 1) + j) (by omega), e2 123 (by omega), e2 123 (by omega), e2 149 (by omega), e2 150 (by omega)]
  intro hp
  rcases h hp with q | ⟨q1, q2⟩
  · exact Or.inl q
  · refine Or.inr ⟨q1, ?_⟩
    rcases q2 with ⟨a, b, c⟩ | q2
    · exact Or.inl ⟨a, b, by rw [e1 _ (by omega)]; exact c⟩
    · exact Or.inr q2
theorem CT1_new {m m2 : Nat → Nat → Int32} {k j : Nat} {v : Int32} (e : m2 = up2 m 153 (17 * k + j) v) (hj : j ≤ 16) (h : v.toInt < 1000000000 → ((k : Int) = (m 123 40).toInt ∧ (j : Int) = (m 123 41).toInt) ∨ ((k : Int) < (m 123 40).toInt ∧ (((j : Int) < (m 123 41).toInt ∧ (m 149 k).toInt = (m 150 j).toInt ∧ (m 153 (17 * (k + 1) + j + 1)).toInt = v.toInt) ∨ (m 153 (17 * (k + 1) + j)).toInt < 1000000000))) : CT1 m2 k j := by
  have e0 : m2 153 (17 * k + j) = v := by rw [e, up2_eq]
  have e1 : ∀ i, i ≠ 17 * k + j → m2 153 i = m 153 i := fun i hi => by rw [e, up2_ne (by omega)]
  have e2 : ∀ a, a ≠ 153 → ∀ i, m2 a i = m a i := fun a ha i => by rw [e, up2_ne (by omega)]
  unfold CT1
  rw [e0, e1 (17 * (k + 1) + j) (by omega), e1 (17 * (k + 1) + j + 1) (by omega), e2 123 (by omega), e2 123 (by omega), e2 149 (by omega), e2 150 (by omega)]
  exact h
/-- all rows behind k -/
def CTk (m : Nat → Nat → Int32) (b : Int) : Prop := ∀ k j : Nat, b < k → (k : Int) ≤ (m 123 40).toInt → (j : Int) ≤ (m 123 41).toInt → CT1 m k j
def CTj (m : Nat → Nat → Int32) (k : Int) (b : Int) : Prop := ∀ j : Nat, b < j → (j : Int) ≤ (m 123 41).toInt → CT1 m k.toNat j
theorem CT_step {m m2 : Nat → Nat → Int32} {k j : Int} {v : Int32} (h : CTk m k) (h2 : CTj m k j) (hk : 0 ≤ k) (hj0 : 0 ≤ j) (hj : j ≤ 16) (hl : (m 123 41).toInt ≤ 16) (e : m2 = up2 m 153 (17 * k + j).toNat v) (hv : v.toInt < 1000000000 → (k = (m 123 40).toInt ∧ j = (m 123 41).toInt) ∨ (k < (m 123 40).toInt ∧ ((j < (m 123 41).toInt ∧ (m 149 k.toNat).toInt = (m 150 j.toNat).toInt ∧ (m 153 (17 * (k + 1) + j + 1).toNat).toInt = v.toInt) ∨ (m 153 (17 * (k + 1) + j).toNat).toInt < 1000000000))) : CTk m2 k ∧ CTj m2 k (j - 1) := by
  have e' : m2 = up2 m 153 (17 * k.toNat + j.toNat) v := by rw [e, show (17 * k + j).toNat = 17 * k.toNat + j.toNat by omega]
  have e2 : ∀ i, m2 123 i = m 123 i := fun i => by rw [e, up2_ne (by omega)]
  constructor
  · intro k2 j2 a1 a2 a3
    rw [e2] at a2 a3
    exact CT1_set (h k2 j2 a1 a2 a3) e' (by omega) (by omega) (by omega)
  · intro j2 a1 a2
    rw [e2] at a2
    by_cases q : (j2 : Int) = j
    · rw [show j2 = j.toNat by omega]
      refine CT1_new e' (by omega) (fun hp => ?_)
      rw [show ((k.toNat : Nat) : Int) = k by omega, show ((j.toNat : Nat) : Int) = j by omega, show 17 * (k.toNat + 1) + j.toNat + 1 = (17 * (k + 1) + j + 1).toNat by omega, show 17 * (k.toNat + 1) + j.toNat = (17 * (k + 1) + j).toNat by omega]
      exact hv hp
    · exact CT1_set (h2 j2 (by omega) a2) e' (by omega) (by omega) (by omega)
theorem CT_row {m : Nat → Nat → Int32} {k : Int} (h : CTk m k) (h2 : CTj m k (-1)) (hk : 0 ≤ k) : CTk m (k - 1) := by
  intro k2 j2 a1 a2 a3
  by_cases q : (k2 : Int) = k
  · rw [show k2 = k.toNat by omega]; exact h2 j2 (by omega) a3
  · exact h k2 j2 (by omega) a2 a3
/-- the places that stay so far: they go up, below k -/
def STk (m : Nat → Nat → Int32) (n k : Int) : Prop := ∀ j : Nat, (j : Int) < n → 0 ≤ (m 154 j).toInt ∧ (m 154 j).toInt < k ∧ ((j : Int) + 1 < n → (m 154 j).toInt < (m 154 (j + 1)).toInt)
theorem STk_mono {m : Nat → Nat → Int32} {n k k2 : Int} (h : STk m n k) (hk : k ≤ k2) : STk m n k2 := fun j hj => ⟨(h j hj).1, by have := (h j hj).2.1; omega, (h j hj).2.2⟩
theorem STk_add {m m2 : Nat → Nat → Int32} {n k : Int} {v : Int32} (h : STk m n k) (hn : 0 ≤ n) (hk : 0 ≤ k) (e : m2 = up2 m 154 n.toNat v) (hv : v.toInt = k) : STk m2 (n + 1) (k + 1) := by
  intro j hj
  have e1 : ∀ i, i ≠ n.toNat → m2 154 i = m 154 i := fun i hi => by rw [e, up2_ne (by omega)]
  have e0 : m2 154 n.toNat = v := by rw [e, up2_eq]
  by_cases q : (j : Int) = n
  · rw [show j = n.toNat by omega, e0, hv]
    exact ⟨hk, by omega, fun z => by omega⟩
  · rw [e1 j (by omega)]
    obtain ⟨a, b, c⟩ := h j (by omega)
    refine ⟨a, by omega, fun z => ?_⟩
    by_cases q2 : (j : Int) + 1 = n
    · rw [show j + 1 = n.toNat by omega, e0, hv]; exact b
    · rw [e1 (j + 1) (by omega)]; exact c (by omega)
theorem STk_eq {m m2 : Nat → Nat → Int32} {n k : Int} (h : STk m n k) (e : ∀ j, m2 154 j = m 154 j) : STk m2 n k := fun j hj => by rw [e, e]; exact h j hj
def frm (m : Nat → Nat → Int32) (j : Int) : Int := if j ≤ 0 then 0 else (m 154 (j - 1).toNat).toInt + 1
/-- the strokes for the gaps ahead of gap j -/
def gF (m : Nat → Nat → Int32) : Nat → Int
  | 0 => 0
  | j + 1 => gF m j + ((m 154 j).toInt - frm m j + 8) / 9
theorem gF_ge {m : Nat → Nat → Int32} {n k : Int} (h : STk m n k) : ∀ j : Nat, (j : Int) ≤ n → 0 ≤ gF m j
  | 0, _ => Int.le_refl _
  | j + 1, hj => by
    have := gF_ge h j (by omega)
    simp only [gF]
    have hf : frm m j ≤ (m 154 j).toInt := by
      unfold frm
      split
      · exact (h j (by omega)).1
      · have := (h (j - 1) (by omega)).2.2 (by omega)
        rw [show ((j : Int) - 1).toNat = j - 1 by omega]
        rw [show j - 1 + 1 = j by omega] at this
        omega
    omega
theorem gF_s {m : Nat → Nat → Int32} {j : Int} (h : 0 ≤ j) : gF m (j + 1).toNat = gF m j.toNat + ((m 154 j.toNat).toInt - frm m j + 8) / 9 := by
  rw [show (j + 1).toNat = j.toNat + 1 by omega]
  simp only [gF]
  rw [show ((j.toNat : Nat) : Int) = j by omega]
theorem gF_eq {m m2 : Nat → Nat → Int32} (e : ∀ j, m2 154 j = m 154 j) : ∀ j, gF m2 j = gF m j
  | 0 => rfl
  | j + 1 => by simp only [gF, frm]; rw [gF_eq e j, e, e]
theorem frm_eq {m m2 : Nat → Nat → Int32} (e : ∀ j, m2 154 j = m 154 j) (j : Int) : frm m2 j = frm m j := by unfold frm; rw [e]
theorem frm_s {m : Nat → Nat → Int32} {j : Int} (h : 0 ≤ j) : frm m (j + 1) = (m 154 j.toNat).toInt + 1 := by unfold frm; rw [if_neg (by omega), show (j + 1 - 1) = j by omega]
theorem frm_le {m : Nat → Nat → Int32} {n k j : Int} (h : STk m n k) (hj : 0 ≤ j) (hn : j < n) : 0 ≤ frm m j ∧ frm m j ≤ (m 154 j.toNat).toInt := by
  unfold frm
  split
  · exact ⟨Int.le_refl _, (h j.toNat (by omega)).1⟩
  · have a := (h (j - 1).toNat (by omega)).2.2 (by omega)
    have b := (h (j - 1).toNat (by omega)).1
    rw [show (j - 1).toNat + 1 = j.toNat by omega] at a
    omega
theorem frm_le2 {m : Nat → Nat → Int32} {n k : Int} (h : STk m n k) (hk : 0 ≤ k) : 0 ≤ frm m n ∧ frm m n ≤ k := by
  unfold frm
  split
  · omega
  · have a := (h (n - 1).toNat (by omega)).2.1
    have b := (h (n - 1).toNat (by omega)).1
    omega
