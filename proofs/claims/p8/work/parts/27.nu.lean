/-! how many LETTERS are LEFT (not struck) of a BLANK from a number on -/
def nuF (f : Nat → Int32) (base : Nat) : Nat → Nat → Nat
  | _, 0 => 0
  | w, k + 1 => (if f (base + w) = 0 then 1 else 0) + nuF f base (w + 1) k
def nu (m : Nat → Nat → Int32) (b w : Int) : Int := (nuF (m 128) (40 * b.toNat) w.toNat ((m 124 b.toNat).toInt.toNat - w.toNat) : Nat)
theorem nu_ge (m : Nat → Nat → Int32) (b w : Int) : 0 ≤ nu m b w := Int.natCast_nonneg _
theorem nu_end {m : Nat → Nat → Int32} {b w : Int} (h : (m 124 b.toNat).toInt ≤ w) : nu m b w = 0 := by
  unfold nu
  rw [show (m 124 b.toNat).toInt.toNat - w.toNat = 0 by omega]
  rfl
theorem nu_pos {m : Nat → Nat → Int32} {b w : Int} (h : 0 < nu m b w) : w < (m 124 b.toNat).toInt := by
  apply Int.lt_of_not_ge
  intro q
  rw [nu_end q] at h
  omega
theorem nu_step {m : Nat → Nat → Int32} {b w : Int} (h0 : 0 ≤ b) (h1 : 0 ≤ w) (h2 : w < (m 124 b.toNat).toInt) : nu m b w = (if m 128 (40 * b + w).toNat = 0 then 1 else 0) + nu m b (w + 1) := by
  unfold nu
  obtain ⟨k, hk⟩ : ∃ k, (m 124 b.toNat).toInt.toNat - w.toNat = k + 1 := ⟨(m 124 b.toNat).toInt.toNat - w.toNat - 1, by omega⟩
  rw [hk, show (m 124 b.toNat).toInt.toNat - (w + 1).toNat = k by omega, show (w + 1).toNat = w.toNat + 1 by omega, show (40 * b + w).toNat = 40 * b.toNat + w.toNat by omega]
  simp only [nuF]
  split <;> simp
theorem nu_str {m : Nat → Nat → Int32} {b w : Int} (h0 : 0 ≤ b) (h1 : 0 ≤ w) (h2 : w < (m 124 b.toNat).toInt) (h : (m 128 (40 * b + w).toNat).toInt ≠ 0) : nu m b w = nu m b (w + 1) := by
  rw [nu_step h0 h1 h2, if_neg (fun e => h (by rw [e]; rfl))]
  omega
theorem nu_free {m : Nat → Nat → Int32} {b w : Int} (h0 : 0 ≤ b) (h1 : 0 ≤ w) (h2 : w < (m 124 b.toNat).toInt) (h : (m 128 (40 * b + w).toNat).toInt = 0) : nu m b w = nu m b (w + 1) + 1 := by
  rw [nu_step h0 h1 h2, if_pos (Int32.toInt_inj.mp h)]
  omega
theorem nu_eq {m m' : Nat → Nat → Int32} (h1 : ∀ j, m' 124 j = m 124 j) (h2 : ∀ j, m' 128 j = m 128 j) (b w : Int) : nu m' b w = nu m b w := by
  unfold nu
  rw [show m' 128 = m 128 from funext h2, h1]
theorem nuF_off {f g : Nat → Int32} {base : Nat} : ∀ (k w : Nat), (∀ i, w ≤ i → i < w + k → g (base + i) = f (base + i)) → nuF g base w k = nuF f base w k
  | 0, _, _ => rfl
  | k + 1, w, h => by
    simp only [nuF]
    rw [h w (by omega) (by omega), nuF_off k (w + 1) (fun i h1 h2 => h i (by omega) (by omega))]
theorem nuF_set {f : Nat → Int32} {base j : Nat} {v : Int32} (hf : f (base + j) = 0) (hv : v ≠ 0) : ∀ (k w : Nat), w ≤ j → j < w + k → nuF (upd f (base + j) v) base w k + 1 = nuF f base w k
  | 0, w, h1, h2 => by omega
  | k + 1, w, h1, h2 => by
    simp only [nuF]
    by_cases q : w = j
    · subst q
      rw [hf, if_pos rfl, nuF_off k (w + 1) (f := f) (fun i h3 h4 => by simp only [upd]; rw [if_neg (by omega)])]
      have e : upd f (base + w) v (base + w) = v := by simp [upd]
      rw [e, if_neg hv]
      omega
    · have e : upd f (base + j) v (base + w) = f (base + w) := by simp only [upd]; rw [if_neg (by omega)]
      rw [e]
      have := nuF_set hf hv k (w + 1) (by omega) (by omega)
      omega
theorem st_off {m m2 : Nat → Nat → Int32} {a i : Nat} {v : Int32} (e : m2 = up2 m a i v) {b : Nat} (h : b ≠ a) : ∀ j, m2 b j = m b j := fun j => by rw [e, up2_off h]
/-- one LETTER struck -/
theorem nu_strike {m m2 m3 : Nat → Nat → Int32} {a i : Nat} {u : Int32} {b w : Int} {j : Nat} {v : Int32} (e1 : m2 = up2 m a i u) (ha1 : a ≠ 124) (ha2 : a ≠ 128) (e2 : m3 = up2 m2 128 j v) (h0 : 0 ≤ b) (h1 : 0 ≤ w) (h2 : w < (m 124 b.toNat).toInt) (hj : j = (40 * b + w).toNat) (h : (m 128 (40 * b + w).toNat).toInt = 0) (hv : v ≠ 0) : nu m3 b 0 = nu m b 0 - 1 := by
  have q1 : ∀ j, m2 124 j = m 124 j := st_off e1 (fun q => ha1 q.symm)
  have q2 : ∀ j, m2 128 j = m 128 j := st_off e1 (fun q => ha2 q.symm)
  rw [← nu_eq q1 q2 b 0]
  rw [← q1] at h2
  rw [← q2] at h
  subst e2
  subst hj
  unfold nu
  rw [show (40 * b + w).toNat = 40 * b.toNat + w.toNat by omega] at h ⊢
  have e3 : (up2 m2 128 (40 * b.toNat + w.toNat) v) 128 = upd (m2 128) (40 * b.toNat + w.toNat) v := up2_row
  have e4 : (up2 m2 128 (40 * b.toNat + w.toNat) v) 124 b.toNat = m2 124 b.toNat := up2_ne (fun q => by omega)
  rw [e3, e4]
  have := nuF_set (f := m2 128) (base := 40 * b.toNat) (j := w.toNat) (v := v) (Int32.toInt_inj.mp h) hv ((m2 124 b.toNat).toInt.toNat - (0 : Int).toNat) 0 (by omega) (by omega)
  simp only [show (0 : Int).toNat = 0 from rfl] at this ⊢
  omega
