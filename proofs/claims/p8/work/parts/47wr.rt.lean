/-! the reference's table of CHEAPEST; what is LEFT as a row -/
def RWL (m M : Nat → Nat → Int32) (b w : Nat) : Prop := (M 123 40).toInt = cu (m 128) (40 * b) w ∧ ∀ p, p < cu (m 128) (40 * b) w → ∃ v, IsN (m 128) (40 * b) w p v ∧ M 149 p = m 125 (40 * b + v)
theorem RWL_0 {m M : Nat → Nat → Int32} {b : Nat} (h : (M 123 40).toInt = 0) : RWL m M b 0 := ⟨h, fun p hp => absurd hp (Nat.not_lt_zero _)⟩
theorem RWL_n {m M : Nat → Nat → Int32} {b w w2 : Nat} (h : RWL m M b w) (k : m 128 (40 * b + w) ≠ 0) (hw : w2 = w + 1) : RWL m M b w2 := by
  subst hw
  obtain ⟨h1, h2⟩ := h
  rw [RWL, cu_n k]
  exact ⟨h1, fun p hp => by obtain ⟨v, q1, q2⟩ := h2 p hp; exact ⟨v, IsN_up q1 (by omega), q2⟩⟩
theorem RWL_y {m M M1 M2 : Nat → Nat → Int32} {b w w2 i : Nat} {x z : Int32} (h : RWL m M b w) (k : m 128 (40 * b + w) = 0) (hw : w2 = w + 1) (e1 : M1 = up2 M 149 i x) (hi : i = (M 123 40).toInt.toNat) (hx : x = m 125 (40 * b + w)) (e2 : M2 = up2 M1 123 40 z) (hz : z.toInt = (M 123 40).toInt + 1) : RWL m M2 b w2 := by
  subst hw; subst hi
  obtain ⟨h1, h2⟩ := h
  rw [RWL, cu_y k]
  refine ⟨by rw [e2, up2_eq]; omega, fun p hp => ?_⟩
  by_cases y : p = cu (m 128) (40 * b) w
  · exact ⟨w, ⟨by omega, k, y.symm⟩, by rw [e2, up2_ne (by omega), e1, y, show (M 123 40).toInt.toNat = cu (m 128) (40 * b) w by omega, up2_eq]; exact hx⟩
  · obtain ⟨v, q1, q2⟩ := h2 p (by omega)
    exact ⟨v, IsN_up q1 (by omega), by rw [e2, up2_ne (by omega), e1, up2_ne (by omega)]; exact q2⟩
def cRl (m : Nat → Nat → Int32) (p : Nat) : Option Int := if (m 152 p).toInt < 1000000000 then some (m 152 p).toInt else none
def GBr (m : Nat → Nat → Int32) (n : Nat) : Prop := ∀ p, p < n → (0 ≤ (m 152 p).toInt ∧ (m 152 p).toInt ≤ 99) ∨ (m 152 p).toInt = 1000000000
theorem CB_r {m : Nat → Nat → Int32} {n : Nat} (h : GBr m n) : CB (cRl m) n := fun p hp v e => by
  unfold cRl at e
  have := h p hp
  by_cases z : (m 152 p).toInt < 1000000000
  · rw [if_pos z] at e; cases e; omega
  · rw [if_neg z] at e; cases e
theorem enc_cRl {m : Nat → Nat → Int32} {n p : Nat} (h : GBr m n) (hp : p < n) : (m 152 p).toInt = enc 1000000000 (cRl m p) := by
  have := h p hp
  unfold cRl
  by_cases z : (m 152 p).toInt < 1000000000
  · rw [if_pos z]; rfl
  · rw [if_neg z]; show _ = (1000000000 : Int); omega
theorem enc_sum {x y : Option Int} {a b v : Int} (ha : a = enc 1000000000 x) (hb : b = enc 1000000000 y) (hx : ∀ w, x = some w → 0 ≤ w ∧ w ≤ 99) (hy : ∀ w, y = some w → 0 ≤ w ∧ w ≤ 3960) (hv : ((1000000000 ≤ a ∨ 1000000000 ≤ b) ∧ v = 1000000000) ∨ (a < 1000000000 ∧ b < 1000000000 ∧ v = a + b)) : v = enc 1000000000 (plO x y) := by
  cases x with
  | none =>
    have ha : a = 1000000000 := ha
    show v = 1000000000
    omega
  | some u =>
    have := hx u rfl
    have ha : a = u := ha
    cases y with
    | none =>
      have hb : b = 1000000000 := hb
      show v = 1000000000
      omega
    | some w =>
      have := hy w rfl
      have hb : b = w := hb
      show v = w + u
      omega
theorem enc_minr {x y : Option Int} {a b v : Int} (ha : a = enc 1000000000 x) (hb : b = enc 1000000000 y) (hx : ∀ w, x = some w → w ≤ 3960) (hy : ∀ w, y = some w → w ≤ 3960) (hv : (v = a ∧ a ≤ b) ∨ (v = b ∧ b ≤ a)) : v = enc 1000000000 (mnO x y) := by
  cases x with
  | none =>
    have ha : a = 1000000000 := ha
    show v = enc 1000000000 y
    cases y with
    | none => have hb : b = 1000000000 := hb; show v = 1000000000; omega
    | some w => have := hy w rfl; have hb : b = w := hb; show v = w; omega
  | some u =>
    have ha : a = u := ha
    have := hx u rfl
    cases y with
    | none => have hb : b = 1000000000 := hb; show v = u; omega
    | some w =>
      have hb : b = w := hb
      show v = if u ≤ w then u else w
      split <;> omega
def TRt (M : Nat → Nat → Int32) (r dd : Nat → Int32) (c : Nat → Option Int) (n0 n1 : Nat) (K J : Int) : Prop := ∀ p j : Nat, p ≤ n0 → j ≤ n1 → (K < (p : Int) ∨ (K = p ∧ J < (j : Int))) → (M 153 (17 * p + j)).toInt = enc 1000000000 (ctv r dd c n0 n1 (n0 - p) j)
section TR
variable {M M2 : Nat → Nat → Int32} {r dd : Nat → Int32} {c : Nat → Option Int} {n0 n1 : Nat} {K J : Int}
theorem TRt_0 (hK : K = n0) (hJ : J = n1) : TRt M r dd c n0 n1 K J := fun p j h1 h2 h3 => by omega
theorem TRt_s {J2 : Int} {i : Nat} {v : Int32} (h : TRt M r dd c n0 n1 K J) (hn : n1 ≤ 16) (h0 : 0 ≤ K) (hj0 : 0 ≤ J) (hj1 : J ≤ 16) (e : M2 = up2 M 153 i v) (hi : (i : Int) = 17 * K + J) (hv : v.toInt = enc 1000000000 (ctv r dd c n0 n1 (n0 - K.toNat) J.toNat)) (hJ : J2 = J - 1) : TRt M2 r dd c n0 n1 K J2 := fun p j h1 h2 h3 => by
  by_cases z : (p : Int) = K ∧ (j : Int) = J
  · rw [e, show 17 * p + j = i by omega, up2_eq, hv, show K.toNat = p by omega, show J.toNat = j by omega]
  · rw [e, up2_ne (by omega)]
    exact h p j h1 h2 (by omega)
theorem TRt_n {K2 : Int} (h : TRt M r dd c n0 n1 K J) (hJ : J < 0) (hK : K2 = K - 1) : TRt M r dd c n0 n1 K2 n1 := fun p j h1 h2 h3 => h p j h1 h2 (by omega)
theorem KPr_iff {p j : Nat} {k l : Int} (hB : CB c n0) (h0 : n0 ≤ 40) (hp : p < n0) (hj : j < n1) (hk : k = enc 1000000000 (ctv r dd c n0 n1 (n0 - (p + 1)) (j + 1))) (hl : l = enc 1000000000 (ctv r dd c n0 n1 (n0 - p) j)) (hne : ctv r dd c n0 n1 (n0 - p) j ≠ none) : (r p = dd j ∧ k = l) ↔ kpp r dd c n0 n1 p j := by
  cases hv : ctv r dd c n0 n1 (n0 - p) j with
  | none => exact absurd hv hne
  | some v =>
    rw [hv, enc_some] at hl
    have b := ctv_b hB (n0 - p) (by omega) j v hv
    unfold kpp
    rw [hv]
    cases hw : ctv r dd c n0 n1 (n0 - (p + 1)) (j + 1) with
    | none =>
      rw [hw, enc_none] at hk
      constructor
      · rintro ⟨_, q⟩; omega
      · rintro ⟨_, _, q⟩; cases q
    | some w =>
      rw [hw, enc_some] at hk
      constructor
      · rintro ⟨q1, q2⟩; exact ⟨hj, q1, by congr 1; omega⟩
      · rintro ⟨_, q1, q2⟩; cases q2; exact ⟨q1, by omega⟩
end TR
theorem CKr_of {m M : Nat → Nat → Int32} {t : Int → Int} {b n0 : Nat} {k : Int} (h : ∀ p : Nat, p < n0 → (FFr m t b p k ∧ PRr m t b p k (M 152 p)) ∨ (FBr m t b p k ∧ (M 152 p).toInt = 1000000000)) (hb : ∀ p v, PRr m t b p k v → 0 ≤ v.toInt ∧ v.toInt ≤ 99) : CKr m t b k n0 (cRl M) (M 152) ∧ GBr M n0 := by
  refine ⟨fun p hp => ?_, fun p hp => ?_⟩
  · rcases h p hp with ⟨h1, h2⟩ | ⟨h1, h2⟩
    · exact Or.inl ⟨h1, h2, by unfold cRl; rw [if_pos (by have := hb p _ h2; omega)]⟩
    · exact Or.inr ⟨h1, by unfold cRl; rw [if_neg (by omega)]⟩
  · rcases h p hp with ⟨h1, h2⟩ | ⟨h1, h2⟩
    · exact Or.inl (hb p _ h2)
    · exact Or.inr h2
theorem PRr_b {m : Nat → Nat → Int32} {t : Int → Int} {b p : Nat} {k : Int} {v : Int32} (h : PRr m t b p k v) : 0 ≤ v.toInt ∧ v.toInt ≤ 99 := by
  obtain ⟨fa, _, h2⟩ := h
  rw [h2]
  exact prc_b _ _
theorem enc_le {x : Option Int} {v : Int} (h : v = enc 1000000000 x) (hx : ∀ w, x = some w → w ≤ 1000000000) : v ≤ 1000000000 := by
  cases x with
  | none => have h : v = 1000000000 := h; omega
  | some u => have h : v = u := h; have := hx u rfl; omega
