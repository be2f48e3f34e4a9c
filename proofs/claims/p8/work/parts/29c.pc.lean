/-! a CLAUSE, and the whole LAW -/
theorem SLK_new {m : Nat → Nat → Int32} (hw : (m 123 17).toInt = 0) : SLK m = (m 123 12).toInt - (m 123 16).toInt := by
  unfold SLK plm cmm wtm
  rw [hw]
  simp only [show (0 : Int).toNat = 0 from rfl, sumF]
  omega
theorem NS_new {m : Nat → Nat → Int32} (hw : (m 123 17).toInt = 0) : NS m := fun j hj => by omega
theorem HW_new' {m : Nat → Nat → Int32} (h0 : 0 ≤ (m 123 16).toInt) (hw : (m 123 17).toInt = 0) : HW (m 123 16).toInt 0 m := HW_new h0 hw
/-- places that a CLAUSE's sum and condition leave -/
def FR4 (m m' : Nat → Nat → Int32) : Prop := (∀ j, m' 133 j = m 133 j) ∧ (∀ j, m' 134 j = m 134 j) ∧ (∀ j, m' 135 j = m 135 j) ∧ m' 123 18 = m 123 18
theorem SX_clause {m m1 m2 m3 m4 m5 m6 m7 m8 m9 m10 : Nat → Nat → Int32} {c0 v12 v133 v15 v17 v134 v135 v18 : Int32} {i1 i3 i7 i9 : Nat} (h : SX m) (s : Nat) (hs : (m 123 18).toInt = s)
    (e1 : m1 = up2 m 132 i1 c0) (e2 : m2 = up2 m1 123 12 v12) (e3 : m3 = up2 m2 133 i3 v133) (h3 : i3 = s) (hv3 : v133.toInt = (m 123 16).toInt) (e4 : m4 = up2 m3 123 15 v15) (e5 : m5 = up2 m4 123 17 v17)
    (f6 : FR4 m5 m6) (k6 : KB (m 123 16).toInt m5 m6) (w6 : WFc (m6 130) (m 123 16).toInt.toNat (m6 123 16).toInt.toNat) (c6 : (m 123 16).toInt ≤ (m6 123 16).toInt)
    (e7 : m7 = up2 m6 134 i7 v134) (h7 : i7 = s) (hv7 : v134.toInt = (m6 123 16).toInt) (f8 : FR4 m7 m8) (k8 : KB (m6 123 16).toInt m7 m8) (w8 : WFc (m8 130) (m6 123 16).toInt.toNat (m8 123 16).toInt.toNat) (c8 : (m6 123 16).toInt ≤ (m8 123 16).toInt)
    (e9 : m9 = up2 m8 135 i9 v135) (h9 : i9 = s) (hv9 : v135.toInt = (m8 123 16).toInt) (e10 : m10 = up2 m9 123 18 v18) (hv10 : v18.toInt = (m 123 18).toInt + 1) (h0 : 0 ≤ (m 123 16).toInt) : SX m10 := by
  subst h3; subst h7; subst h9
  have g133 : ∀ j, m10 133 j = if j = i9 then v133 else m 133 j := fun j => by
    rw [e10, up2_ne (by omega), e9, up2_ne (by omega), f8.1, e7, up2_ne (by omega), f6.1, e5, up2_ne (by omega), e4, up2_ne (by omega), e3]
    by_cases q : j = i9
    · rw [if_pos q, q, up2_f]
    · rw [if_neg q, up2_ne (fun z => q z.2), e2, up2_ne (by omega), e1, up2_ne (by omega)]
  have g134 : ∀ j, m10 134 j = if j = i9 then v134 else m 134 j := fun j => by
    rw [e10, up2_ne (by omega), e9, up2_ne (by omega), f8.2.1, e7]
    by_cases q : j = i9
    · rw [if_pos q, q, up2_f]
    · rw [if_neg q, up2_ne (fun z => q z.2), f6.2.1, e5, up2_ne (by omega), e4, up2_ne (by omega), e3, up2_ne (by omega), e2, up2_ne (by omega), e1, up2_ne (by omega)]
  have g135 : ∀ j, m10 135 j = if j = i9 then v135 else m 135 j := fun j => by
    rw [e10, up2_ne (by omega), e9]
    by_cases q : j = i9
    · rw [if_pos q, q, up2_f]
    · rw [if_neg q, up2_ne (fun z => q z.2), f8.2.2.1, e7, up2_ne (by omega), f6.2.2.1, e5, up2_ne (by omega), e4, up2_ne (by omega), e3, up2_ne (by omega), e2, up2_ne (by omega), e1, up2_ne (by omega)]
  have g130 : ∀ j, m10 130 j = m8 130 j := fun j => by rw [e10, up2_ne (by omega), e9, up2_ne (by omega)]
  have g76 : ∀ j, m7 130 j = m6 130 j := fun j => by rw [e7, up2_ne (by omega)]
  have g50 : ∀ j, m5 130 j = m 130 j := fun j => by rw [e5, up2_ne (by omega), e4, up2_ne (by omega), e3, up2_ne (by omega), e2, up2_ne (by omega), e1, up2_ne (by omega)]
  have g18 : (m10 123 18).toInt = (m 123 18).toInt + 1 := by rw [e10, up2_f]; exact hv10
  have g16 : (m10 123 16).toInt = (m8 123 16).toInt := by rw [e10, up2_ne (by omega), e9, up2_ne (by omega)]
  have old : ∀ k : Nat, (k : Int) < (m 123 16).toInt → m10 130 k = m 130 k := fun k hk => by rw [g130, k8 k (by omega), g76, k6 k hk, g50]
  have mid : ∀ k : Nat, (k : Int) < (m6 123 16).toInt → m10 130 k = m6 130 k := fun k hk => by rw [g130, k8 k hk, g76]
  intro q hq
  rw [g133, g134, g135, g16]
  by_cases hqs : q = i9
  · rw [if_pos hqs, if_pos hqs, if_pos hqs, hv3, hv7, hv9]
    refine ⟨WFc_eq w6 (fun k a b => mid k (by omega)), WFc_eq w8 (fun k a b => g130 k), c8, Int.le_refl _, c6⟩
  · rw [if_neg hqs, if_neg hqs, if_neg hqs]
    obtain ⟨a1, a2, a3, a4, a5⟩ := h q (by omega)
    exact ⟨WFc_eq a1 (fun k x y => old k (by omega)), WFc_eq a2 (fun k x y => old k (by omega)), a3, by omega, a5⟩
theorem SX_0 {m : Nat → Nat → Int32} (h : (m 123 18).toInt = 0) : SX m := fun q hq => by omega
theorem SX_eq {m m' : Nat → Nat → Int32} (h : SX m) (h0 : m' 123 18 = m 123 18) (h6 : m' 123 16 = m 123 16) (h1 : ∀ j, m' 130 j = m 130 j) (h2 : ∀ j, m' 133 j = m 133 j) (h3 : ∀ j, m' 134 j = m 134 j) (h4 : ∀ j, m' 135 j = m 135 j) : SX m' := by
  intro q hq
  rw [h0] at hq
  rw [h2, h3, h4, h6, show m' 130 = m 130 from funext h1]
  exact h q hq
theorem LX_of {m : Nat → Nat → Int32} (h : SX m) (hcm : (m 123 16).toInt ≤ 179) (hc : (m 123 20).toInt = (m 123 18).toInt) (h1 : ∀ j : Nat, (j : Int) < (m 123 16).toInt → m 136 j = m 130 j) (h2 : ∀ j : Nat, (j : Int) < (m 123 18).toInt → m 138 j = m 133 j ∧ m 139 j = m 134 j ∧ m 140 j = m 135 j) : LX m := by
  intro q hq
  obtain ⟨a1, a2, a3, a4, a5⟩ := h q (by omega)
  obtain ⟨b1, b2, b3⟩ := h2 q (by omega)
  rw [b1, b2, b3]
  exact ⟨WFc_eq a1 (fun k x y => h1 k (by omega)), WFc_eq a2 (fun k x y => h1 k (by omega)), by omega, by omega⟩
theorem LW_step {m m1 m2 m3 m4 : Nat → Nat → Int32} {v0 v1 v2 v3 : Int32} {i0 i j : Nat} {k : Int} (e1 : m1 = up2 m 137 i0 v0) (e2 : m2 = up2 m1 138 i v1) (e3 : m3 = up2 m2 139 i v2) (e4 : m4 = up2 m3 140 i v3) (h1 : v1 = m1 133 i) (h2 : v2 = m2 134 i) (h3 : v3 = m3 135 i) (kd : ∀ j : Nat, (j : Int) < k → m 138 j = m 133 j ∧ m 139 j = m 134 j ∧ m 140 j = m 135 j) (hj : j = i ∨ (j : Int) < k) : m4 138 j = m4 133 j ∧ m4 139 j = m4 134 j ∧ m4 140 j = m4 135 j := by
  have a0 : ∀ a, a ≠ 137 → a ≠ 138 → a ≠ 139 → a ≠ 140 → ∀ j, m4 a j = m a j := fun a x0 x1 x2 x3 j => by rw [e4, up2_ne (by omega), e3, up2_ne (by omega), e2, up2_ne (by omega), e1, up2_ne (by omega)]
  by_cases q : j = i
  · subst q
    refine ⟨?_, ?_, ?_⟩
    · rw [a0 133 (by omega) (by omega) (by omega) (by omega), e4, up2_ne (by omega), e3, up2_ne (by omega), e2, up2_f, h1, e1, up2_ne (by omega)]
    · rw [a0 134 (by omega) (by omega) (by omega) (by omega), e4, up2_ne (by omega), e3, up2_f, h2, e2, up2_ne (by omega), e1, up2_ne (by omega)]
    · rw [a0 135 (by omega) (by omega) (by omega) (by omega), e4, up2_f, h3, e3, up2_ne (by omega), e2, up2_ne (by omega), e1, up2_ne (by omega)]
  · obtain ⟨b1, b2, b3⟩ := kd j (hj.resolve_left q)
    refine ⟨?_, ?_, ?_⟩
    · rw [a0 133 (by omega) (by omega) (by omega) (by omega), e4, up2_ne (by omega), e3, up2_ne (by omega), e2, up2_ne (fun z => q z.2), e1, up2_ne (by omega)]; exact b1
    · rw [a0 134 (by omega) (by omega) (by omega) (by omega), e4, up2_ne (by omega), e3, up2_ne (fun z => q z.2), e2, up2_ne (by omega), e1, up2_ne (by omega)]; exact b2
    · rw [a0 135 (by omega) (by omega) (by omega) (by omega), e4, up2_ne (fun z => q z.2), e3, up2_ne (by omega), e2, up2_ne (by omega), e1, up2_ne (by omega)]; exact b3
