/-! the class's table of CHEAPEST -/
def cCl (m : Nat → Nat → Int32) (p : Nat) : Option Int := if (m 108 p).toInt = 1 then some (m 109 p).toInt else none
def PBc (m : Nat → Nat → Int32) (n : Nat) : Prop := ∀ p, p < n → 0 ≤ (m 109 p).toInt ∧ (m 109 p).toInt ≤ 99
theorem CB_c {m : Nat → Nat → Int32} {n : Nat} (h : PBc m n) : CB (cCl m) n := fun p hp v e => by
  unfold cCl at e
  by_cases z : (m 108 p).toInt = 1
  · rw [if_pos z] at e; cases e; exact h p hp
  · rw [if_neg z] at e; cases e
theorem enc_some {N v : Int} : enc N (some v) = v := rfl
theorem enc_none {N : Int} : enc N none = N := rfl
theorem plO_y {m : Nat → Nat → Int32} {p : Nat} {gx : Option Int} {v b : Int} (hf : (m 108 p).toInt = 1) (hb : b = enc 1000000 gx) (hl : b < 1000000) (hv : v = b + (m 109 p).toInt) : v = enc 1000000 (plO (cCl m p) gx) := by
  cases gx with
  | none => rw [enc_none] at hb; omega
  | some a =>
    rw [enc_some] at hb
    unfold cCl
    rw [if_pos hf]
    show v = a + (m 109 p).toInt
    omega
theorem plO_n {m : Nat → Nat → Int32} {p : Nat} {gx : Option Int} (hg : ∀ v, gx = some v → 0 ≤ v ∧ v ≤ 3960) (h : (m 108 p).toInt ≠ 1 ∨ 1000000 ≤ enc 1000000 gx) : 1000000 = enc 1000000 (plO (cCl m p) gx) := by
  rcases h with h | h
  · unfold cCl
    rw [if_neg h]
    rfl
  · cases gx with
    | none => cases cCl m p <;> rfl
    | some a => have := hg a rfl; rw [enc_some] at h; omega
theorem enc_min {x y : Option Int} {a b v : Int} (ha : a = enc 1000000 x) (hb : b = enc 1000000 y) (hx : ∀ w, x = some w → w ≤ 3960) (hy : ∀ w, y = some w → w ≤ 3960) (hv : (v = a ∧ a ≤ b) ∨ (v = b ∧ b ≤ a)) : v = enc 1000000 (mnO x y) := by
  cases x with
  | none =>
    rw [enc_none] at ha
    show v = enc 1000000 y
    cases y with
    | none => rw [enc_none] at hb ⊢; omega
    | some w => have := hy w rfl; rw [enc_some] at hb ⊢; omega
  | some u =>
    rw [enc_some] at ha
    cases y with
    | none => rw [enc_none] at hb; have := hx u rfl; show v = u; omega
    | some w =>
      rw [enc_some] at hb
      show v = if u ≤ w then u else w
      split <;> omega
/-- entries behind a PLACE, and some at it -/
def TCt (M : Nat → Nat → Int32) (r dd : Nat → Int32) (c : Nat → Option Int) (n0 n1 P J : Nat) : Prop := ∀ p j, p ≤ n0 → j ≤ n1 → (P < p ∨ (P = p ∧ j < J)) → (M 111 (17 * p + j)).toInt = enc 1000000 (ctv r dd c n0 n1 (n0 - p) j)
section TC
variable {m M M2 : Nat → Nat → Int32} {r dd : Nat → Int32} {c : Nat → Option Int} {n0 n1 P J : Nat}
theorem TCt_0 : TCt M r dd c n0 n1 n0 0 := fun p j h1 _ h => by omega
theorem TCt_s {J2 : Nat} {v : Int32} (h : TCt M r dd c n0 n1 P J) (hn : n1 ≤ 16) (hJ0 : J ≤ n1) (e : M2 = up2 M 111 (17 * P + J) v) (hv : v.toInt = enc 1000000 (ctv r dd c n0 n1 (n0 - P) J)) (hJ : J2 = J + 1) : TCt M2 r dd c n0 n1 P J2 := fun p j h1 h2 h3 => by
  by_cases z : p = P ∧ j = J
  · obtain ⟨rfl, rfl⟩ := z
    rw [e, up2_eq]; exact hv
  · rw [e, up2_ne (by omega)]
    exact h p j h1 h2 (by omega)
/-- kept, said by the table -/
theorem KP_iff {p j : Nat} {k l : Int} (hB : CB c n0) (h0 : n0 ≤ 40) (hp : p < n0) (hj : j < n1) (hk : k = if r p = dd j then enc 1000000 (ctv r dd c n0 n1 (n0 - (p + 1)) (j + 1)) else 1000000) (hl : l = enc 1000000 (ctv r dd c n0 n1 (n0 - p) j)) (hne : ctv r dd c n0 n1 (n0 - p) j ≠ none) : k = l ↔ kpp r dd c n0 n1 p j := by
  cases hv : ctv r dd c n0 n1 (n0 - p) j with
  | none => exact absurd hv hne
  | some v =>
    rw [hv, enc_some] at hl
    have b := ctv_b hB (n0 - p) (by omega) j v hv
    unfold kpp
    by_cases z : r p = dd j
    · rw [if_pos z] at hk
      cases hw : ctv r dd c n0 n1 (n0 - (p + 1)) (j + 1) with
      | none =>
        rw [hw, enc_none] at hk
        constructor
        · intro q; omega
        · rintro ⟨_, _, q⟩; rw [hv] at q; cases q
      | some w =>
        rw [hw, enc_some] at hk
        constructor
        · intro q; exact ⟨hj, z, by rw [hv]; congr 1; omega⟩
        · rintro ⟨_, _, q⟩; rw [hv] at q; cases q; omega
    · rw [if_neg z] at hk
      constructor
      · intro q; omega
      · rintro ⟨_, q, _⟩; exact absurd q z
end TC
theorem wl_110 {c i : Nat} (h : c < 110 ∨ 111 < c) : wl [(110, 110, none), (111, 111, none)] c i = false := by
  cases hc : wl [(110, 110, none), (111, 111, none)] c i with
  | false => rfl
  | true =>
    simp only [wl, wl1, Bool.or_eq_true, Bool.and_eq_true, Nat.ble_eq, and_true, or_false, Bool.false_eq_true] at hc
    omega
theorem jtp_lt_of {r dd : Nat → Int32} {c : Nat → Option Int} {n0 n1 p q : Nat} (h : kpp r dd c n0 n1 p (jtp r dd c n0 n1 p)) (hq : p < q) : jtp r dd c n0 n1 p < jtp r dd c n0 n1 q := by
  obtain ⟨d, hd⟩ : ∃ d, q = (p + 1) + d := ⟨q - (p + 1), by omega⟩
  have z := jtp_up (r := r) (dd := dd) (c := c) (n0 := n0) (n1 := n1) d (p + 1)
  rw [← hd, jtp_y h] at z
  omega
theorem wl_o {c i k : Nat} (h : c ≠ k) : wl [(k, k, none)] c i = false := by
  cases hc : wl [(k, k, none)] c i with
  | false => rfl
  | true =>
    simp only [wl, wl1, Bool.or_eq_true, Bool.and_eq_true, Nat.ble_eq, and_true, or_false, Bool.false_eq_true] at hc
    omega
