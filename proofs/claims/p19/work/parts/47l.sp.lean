/-! sets of DEEDS that are told -/
def SPR (m : Nat → Nat → Int32) (x : Int32) (f t : Int) : Prop := 0 ≤ x.toInt ∧ x.toInt ≤ 255 ∧ (x &&& (m 123 4 ^^^ -1)).toInt = 0 ∧ f ≤ bF x 8 ∧ bF x 8 ≤ t
def TOO (m : Nat → Nat → Int32) (x : Int32) : Prop := ∃ k, k ∈ mbs x 8 ∧ 12 < (m 126 k).toInt
theorem bt_bit (t : Int32) {j : Nat} (hj : j < 32) : bt t j = if t.toBitVec.getLsbD j then 1 else 0 := by rw [← amv_bt, amv_bit t hj]
theorem and_not {x t : Int32} : (x &&& (t ^^^ -1)).toInt = 0 ↔ ∀ j, j < 32 → x.toBitVec.getLsbD j = true → t.toBitVec.getLsbD j = true := by
  have e : (x &&& (t ^^^ -1)).toBitVec = x.toBitVec &&& (t.toBitVec ^^^ BitVec.allOnes 32) := by
    show x.toBitVec &&& (t.toBitVec ^^^ (-1 : Int32).toBitVec) = _
    rw [show (-1 : Int32).toBitVec = BitVec.allOnes 32 by decide]
  constructor
  · intro h j hj hx
    have h0 : (x &&& (t ^^^ -1)) = 0 := Int32.toInt_inj.mp (by rw [h, Int32.toInt_zero])
    have h1 : (x.toBitVec &&& (t.toBitVec ^^^ BitVec.allOnes 32)).getLsbD j = false := by
      rw [← e, h0]
      simp
    rw [BitVec.getLsbD_and, BitVec.getLsbD_xor, BitVec.getLsbD_allOnes, hx] at h1
    simp [hj] at h1
    exact h1
  · intro h
    have h0 : (x &&& (t ^^^ -1)) = 0 := by
      apply Int32.toBitVec_inj.mp
      rw [e]
      apply BitVec.eq_of_getLsbD_eq
      intro j hj
      rw [BitVec.getLsbD_and, BitVec.getLsbD_xor, BitVec.getLsbD_allOnes]
      cases hx : x.toBitVec.getLsbD j with
      | false => simp
      | true =>
        rw [h j hj hx]
        simp [hj]
    rw [h0, Int32.toInt_zero]
theorem pxy_bits : ∀ i j : Fin 8, i.val < j.val → 0 ≤ (pxy i.val j.val).toInt ∧ (pxy i.val j.val).toInt ≤ 255 ∧ bF (pxy i.val j.val) 8 = 2 ∧ (pxy i.val j.val).toInt ≠ 0 := by decide +kernel
theorem pxy_lsb : ∀ i j : Fin 8, i.val < j.val → ∀ k : Fin 32, (pxy i.val j.val).toBitVec.getLsbD k.val = true → k.val = i.val ∨ k.val = j.val := by decide +kernel
theorem SPR_pair {m : Nat → Nat → Int32} {x : Int32} {f t : Int} {i j : Nat} (h : SPR m x f t) (hij : i < j) (h8 : j < 8) (hi : bt x i = 1) (hj : bt x j = 1) : SPR m (pxy i j) 2 2 := by
  obtain ⟨a, b, c, d⟩ := pxy_bits ⟨i, by omega⟩ ⟨j, h8⟩ hij
  refine ⟨a, b, ?_, by rw [c]; exact Int.le_refl _, by rw [c]; exact Int.le_refl _⟩
  have hn := and_not.mp h.2.2.1
  rw [and_not]
  intro k hk hx
  have hb : ∀ q : Nat, q < 32 → bt x q = 1 → x.toBitVec.getLsbD q = true := fun q hq z => by
    rw [bt_bit x hq] at z
    cases y : x.toBitVec.getLsbD q with
    | true => rfl
    | false => rw [y] at z; simp at z
  rcases pxy_lsb ⟨i, by omega⟩ ⟨j, h8⟩ hij ⟨k, hk⟩ hx with z | z
  · have z : k = i := z
    rw [z]; exact hn i (by omega) (hb i (by omega) hi)
  · have z : k = j := z
    rw [z]; exact hn j (by omega) (hb j (by omega) hj)
theorem SHR_eq {m m2 : Nat → Nat → Int32} {x : Int32} {v : Int} (e6 : ∀ j, m2 126 j = m 126 j) (e7 : ∀ j, m2 127 j = m 127 j) (h : SHR m x v) : SHR m2 x v := by
  obtain ⟨F, h4, hF, hv⟩ := h
  refine ⟨F, h4, OBY_of h4 hF (fun d hd => ?_), hv⟩
  unfold nmr smr
  cases h : (mbs x 8)[d]? with
  | none => exact ⟨rfl, fun _ _ => rfl⟩
  | some k => exact ⟨by show (m 126 k).toInt = (m2 126 k).toInt; rw [e6], fun j _ => by show (m 127 (16 * k + j)).toInt = (m2 127 (16 * k + j)).toInt; rw [e7]⟩
/-- what bound() answers -/
def BDV (g1 g2 : Prop) (S : Int32 → Int → Prop) (x : Int32) (v : Int) : Prop := (¬ g1 ∧ v = -1) ∨ (g1 ∧ ¬ g2 ∧ v = -2) ∨ (g1 ∧ g2 ∧ BMX S x v)
theorem BDV_det {a1 a2 b1 b2 : Prop} {S R : Int32 → Int → Prop} {x : Int32} {v w : Int} (h1 : a1 ↔ b1) (h2 : a1 → (a2 ↔ b2)) (h : ∀ y u, R y u → S y u) (hd : ∀ y u u2, S y u → S y u2 → u = u2) (a : BDV a1 a2 S x v) (b : BDV b1 b2 R x w) : v = w := by
  rcases a with ⟨p1, p2⟩ | ⟨p1, p2, p3⟩ | ⟨p1, p2, p3⟩ <;> rcases b with ⟨q1, q2⟩ | ⟨q1, q2, q3⟩ | ⟨q1, q2, q3⟩
  · omega
  · exact absurd (h1.mpr q1) p1
  · exact absurd (h1.mpr q1) p1
  · exact absurd (h1.mp p1) q1
  · omega
  · exact absurd ((h2 p1).mpr q2) p2
  · exact absurd (h1.mp p1) q1
  · exact absurd ((h2 p1).mp p2) q2
  · exact BMX_det h hd p3 q3
