/-! whether THE SHORTEST is refused: the same on both sides -/
def G1 (m : Nat → Nat → Int32) (x : Int32) : Prop := (adv m x).toInt ≠ 0 ∧ 2 ≤ (bcn x).toInt ∧ (bcn x).toInt ≤ 4
def G2 (m : Nat → Nat → Int32) (x : Int32) : Prop := ∀ i : Nat, i < 8 → (amv x (Int32.ofInt i)).toInt ≠ 0 → (m (61 + 2 * i) 1).toInt ≤ 12
def RFV (m : Nat → Nat → Int32) (x : Int32) (v : Int) : Prop := (¬ G1 m x ∧ v = -1) ∨ (G1 m x ∧ ¬ G2 m x ∧ v = -2) ∨ (G1 m x ∧ G2 m x ∧ v = 0)
theorem bcn_bF : ∀ k : Fin 256, (bcn (Int32.ofInt (k.val : Nat))).toInt = bF (Int32.ofInt (k.val : Nat)) 8 := by decide +kernel
theorem bcn_x {x : Int32} (h0 : 0 ≤ x.toInt) (h : x.toInt ≤ 255) : (bcn x).toInt = bF x 8 := by
  have q := bcn_bF ⟨x.toInt.toNat, by omega⟩
  rw [ofn h0] at q
  exact q
theorem mbs_iff {x : Int32} : ∀ {i k : Nat}, k < i → (amv x (Int32.ofInt k)).toInt ≠ 0 → k ∈ mbs x i
  | 0, k, h, _ => by omega
  | i + 1, k, h, ha => by
    by_cases z : k = i
    · rw [z] at ha ⊢; exact (mbs_yes ha).2
    · exact mbs_up (i + 1) i k (by omega) (mbs_iff (by omega) ha)
theorem tld_bit (m : Nat → Nat → Int32) {j : Nat} (hj : j < 32) : ∀ k : Nat, k ≤ 8 → (tld m k).toBitVec.getLsbD j = (decide (j < k) && decide ((ddv m (Int32.ofInt j)).toInt ≠ 0))
  | 0, _ => by simp [tld]
  | k + 1, hk => by
    have a := tld_bit m hj k (by omega)
    simp only [tld]
    by_cases z : (ddv m (Int32.ofInt k)).toInt = 0
    · rw [if_pos z, a]
      by_cases y : j = k
      · subst y; simp [z]
      · have : (j < k + 1) ↔ (j < k) := by omega
        simp [this]
    · rw [if_neg z]
      have h1 : ((1 : Int32) <<< (Int32.ofInt (k : Int) &&& 31)).toBitVec = BitVec.twoPow 32 k := by
        have : ∀ q : Fin 32, ((1 : Int32) <<< (Int32.ofInt ((q.val : Nat) : Int) &&& 31)).toBitVec = BitVec.twoPow 32 q.val := by decide
        exact this ⟨k, by omega⟩
      show (tld m k ||| ((1 : Int32) <<< (Int32.ofInt (k : Int) &&& 31))).toBitVec.getLsbD j = _
      have h2 : (tld m k ||| ((1 : Int32) <<< (Int32.ofInt (k : Int) &&& 31))).toBitVec = (tld m k).toBitVec ||| BitVec.twoPow 32 k := by rw [← h1]; rfl
      rw [h2, BitVec.getLsbD_or, a, BitVec.getLsbD_twoPow]
      by_cases y : j = k
      · subst y; simp [z, hj]
      · have e1 : (j < k + 1) ↔ (j < k) := by omega
        have e2 : ¬ k = j := fun q => y q.symm
        simp [e1, e2]
theorem le255 {x : Int32} (h0 : 0 ≤ x.toInt) (h : x.toInt ≤ 255) {j : Nat} (hj : 8 ≤ j) : x.toBitVec.getLsbD j = false := by
  have c := i32_cond x
  have hn : x.toBitVec.toNat < 2 ^ 8 := by omega
  show x.toBitVec.toNat.testBit j = false
  exact Nat.testBit_lt_two_pow (Nat.lt_of_lt_of_le hn (Nat.pow_le_pow_right (by omega) hj))
/-- told: the same set on both sides -/
theorem told_eq {m : Nat → Nat → Int32} (I : IV BB m) (hD : DDE m) : tld m 8 = m 123 4 := by
  apply Int32.toBitVec_inj.mp
  apply BitVec.eq_of_getLsbD_eq
  intro j hj
  rw [tld_bit m hj 8 (by omega)]
  have b0 : (0 : Int) ≤ (m 123 4).toInt := (I 123 4).1
  have b1 : (m 123 4).toInt ≤ 255 := (I 123 4).2
  by_cases h8 : j < 8
  · obtain ⟨a1, a2, a3⟩ := hD j h8
    have e1 : (ddv m (Int32.ofInt j)).toInt ≠ 0 ↔ 0 < (m 126 j).toInt := by
      have ei : (Int32.ofInt (j : Int)).toInt = j := by
        have : ∀ q : Fin 8, (Int32.ofInt ((q.val : Nat) : Int)).toInt = q.val := by decide
        exact this ⟨j, h8⟩
      unfold ddv
      rw [ei, show ((j : Nat) : Int).toNat = j by omega, a1]
      split
      · rename_i q; exact ⟨fun _ => q.2.2, fun _ => by decide⟩
      · rename_i q; exact ⟨fun z => absurd (show (0 : Int32).toInt = 0 by decide) z, fun z => absurd ⟨by omega, by omega, z⟩ q⟩
    rw [amv_bit _ hj] at a3
    have e2 : (m 123 4).toBitVec.getLsbD j = true ↔ 0 < (m 126 j).toInt := by
      rw [← a3]
      cases (m 123 4).toBitVec.getLsbD j <;> simp
    cases hb : (m 123 4).toBitVec.getLsbD j with
    | true => simp only [h8, decide_true, Bool.true_and, decide_eq_true_eq]; exact e1.mpr (e2.mp hb)
    | false =>
      have : ¬ 0 < (m 126 j).toInt := fun z => by rw [e2.mpr z] at hb; cases hb
      have : ¬ (ddv m (Int32.ofInt j)).toInt ≠ 0 := fun z => this (e1.mp z)
      simp only [h8, decide_true, Bool.true_and, decide_eq_false_iff_not]
      exact this
  · rw [le255 b0 b1 (by omega)]
    simp [h8]
theorem sub255 {x t : Int32} (t0 : 0 ≤ t.toInt) (t1 : t.toInt ≤ 255) (h : (x &&& (t ^^^ -1)).toInt = 0) : 0 ≤ x.toInt ∧ x.toInt ≤ 255 := by
  have hb := and_not.mp h
  have hz : x.toBitVec.toNat < 2 ^ 8 := by
    apply Nat.lt_pow_two_of_testBit
    intro j hj
    by_cases y : j < 32
    · cases hx : x.toBitVec.toNat.testBit j with
      | false => rfl
      | true =>
        have := hb j y hx
        rw [le255 t0 t1 hj] at this
        cases this
    · exact Nat.testBit_lt_two_pow (Nat.lt_of_lt_of_le x.toBitVec.isLt (Nat.pow_le_pow_right (by omega) (by omega)))
  have c := i32_cond x
  omega
theorem G1_SPR {m : Nat → Nat → Int32} {x : Int32} (I : IV BB m) (hD : DDE m) : G1 m x ↔ SPR m x 2 4 := by
  have b0 : (0 : Int) ≤ (m 123 4).toInt := (I 123 4).1
  have b1 : (m 123 4).toInt ≤ 255 := (I 123 4).2
  have ea : (adv m x).toInt ≠ 0 ↔ (x &&& (m 123 4 ^^^ -1)).toInt = 0 := by
    unfold adv
    rw [told_eq I hD]
    split
    · rename_i h; exact ⟨fun _ => h, fun _ => by decide⟩
    · rename_i h; exact ⟨fun z => absurd (show (0 : Int32).toInt = 0 by decide) z, fun z => absurd z h⟩
  constructor
  · intro ⟨h1, h2, h3⟩
    have z := ea.mp h1
    obtain ⟨x0, x1⟩ := sub255 b0 b1 z
    rw [bcn_x x0 x1] at h2 h3
    exact ⟨x0, x1, z, h2, h3⟩
  · intro ⟨x0, x1, z, h2, h3⟩
    exact ⟨ea.mpr z, by rw [bcn_x x0 x1]; exact h2, by rw [bcn_x x0 x1]; exact h3⟩
theorem G2_TOO {m : Nat → Nat → Int32} {x : Int32} (hD : DDE m) : G2 m x ↔ ¬ TOO m x := by
  constructor
  · intro h ⟨k, hk, h12⟩
    have l := mbs_lt hk
    have := h k l (mbs_am hk)
    rw [(hD k l).1] at this
    omega
  · intro h i hi ha
    rw [(hD i hi).1]
    by_cases z : 12 < (m 126 i).toInt
    · exact absurd ⟨i, mbs_iff hi ha, z⟩ h
    · omega
theorem SHC_fn {m : Nat → Nat → Int32} (I : IV BB m) (hD : DDE m) : ∀ (y : Int32) (u u2 : Int), SHC m y u → SHC m y u2 → u = u2 := by
  intro y u u2 h1 h2
  refine SHC_det (m := m) (x := y) (fun k => ?_) h1 h2
  by_cases z : k < 8
  · have e := (hD k z).1
    have n : (0 : Int) ≤ (m 126 k).toInt := (I 126 k).1
    exact Or.inl (by omega)
  · exact Or.inr (by omega)
theorem bound_EW {m : Nat → Nat → Int32} {x : Int32} {v w : Int} (I : IV BB m) (hD : DDE m) (a : BDV (G1 m x) (G2 m x) (SHC m) x v) (b : BDV (SPR m x 2 4) (¬ TOO m x) (SHR m) x w) : v = w := by
  have h1 := G1_SPR (x := x) I hD
  have h2 := G2_TOO (x := x) hD
  have h3 := SHC_fn I hD
  have h4 : ∀ y u, SHR m y u → SHC m y u := fun y u h => SHR_C hD h
  generalize SHC m = S at *
  generalize SHR m = R at *
  generalize G1 m x = g1 at *
  generalize G2 m x = g2 at *
  generalize SPR m x 2 4 = b1 at *
  exact BDV_det h1 (fun _ => h2) h4 h3 a b
