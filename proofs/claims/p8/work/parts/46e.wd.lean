/-! DEEDS and BLANKS as they were written: exactly, on both sides -/
theorem isW_b {a : Nat} (h : isW a = true) : 5 ≤ a ∧ ((61 ≤ a ∧ a ≤ 76) ∨ (a ≤ 59 ∧ (a % 7 = 5 ∨ a % 7 = 6))) := by
  simp only [isW, Bool.or_eq_true, Bool.and_eq_true, Nat.ble_eq, beq_iff_eq] at h
  omega
theorem isW_i {a : Nat} (h : (61 ≤ a ∧ a ≤ 76) ∨ (5 ≤ a ∧ a ≤ 59 ∧ (a % 7 = 5 ∨ a % 7 = 6))) : isW a = true := by
  simp only [isW, Bool.or_eq_true, Bool.and_eq_true, Nat.ble_eq, beq_iff_eq]
  omega
def cnc (m : Nat → Nat → Int32) : Nat := (m 0 2).toInt.toNat
def cnr (m : Nat → Nat → Int32) : Nat := (m 123 0).toInt.toNat
/-- one more BLANK -/
def BLWc (m m' : Nat → Nat → Int32) (n : Int) : Prop := (∀ a j, isW a = true → ((m' 0 2).toInt = (m 0 2).toInt ∨ (a ≠ 5 + 7 * cnc m ∧ a ≠ 6 + 7 * cnc m)) → m' a j = m a j) ∧ ((m' 0 2).toInt = (m 0 2).toInt + 1 → (m' (5 + 7 * cnc m) 1).toInt = n ∧ ∀ k : Nat, (k : Int) < n → (m' (6 + 7 * cnc m) k).toInt = (m 2 k).toInt - 97)
def BLWr (m m' : Nat → Nat → Int32) (n : Int) : Prop := (∀ j, j ≠ cnr m → m' 124 j = m 124 j) ∧ (∀ j, (j < 40 * cnr m ∨ 40 * cnr m + 40 ≤ j) → m' 125 j = m 125 j) ∧ ((m' 123 0).toInt = (m 123 0).toInt + 1 → (m' 124 (cnr m)).toInt = n ∧ ∀ k : Nat, (k : Int) < n → (m' 125 (40 * cnr m + k)).toInt = (m 129 k).toInt - 97)
/-- a DEED told -/
def DDWc (m m' : Nat → Nat → Int32) (i n v : Int) : Prop := (∀ a j, isW a = true → (v < 0 ∨ (a ≠ 61 + 2 * i.toNat ∧ a ≠ 62 + 2 * i.toNat)) → m' a j = m a j) ∧ (0 ≤ v → (m' (61 + 2 * i.toNat) 1).toInt = n ∧ ∀ k : Nat, (k : Int) < n → (m' (62 + 2 * i.toNat) k).toInt = (m 2 k).toInt - 97)
def DDWr (m m' : Nat → Nat → Int32) (i n v : Int) : Prop := (∀ j, (v < 0 ∨ j ≠ i.toNat) → m' 126 j = m 126 j) ∧ (∀ j, (v < 0 ∨ j < 16 * i.toNat ∨ 16 * i.toNat + 16 ≤ j) → m' 127 j = m 127 j) ∧ (v < 0 → m' 123 4 = m 123 4) ∧ (0 ≤ v → (m' 126 i.toNat).toInt = n ∧ (∀ k : Nat, (k : Int) < n → (m' 127 (16 * i.toNat + k)).toInt = (m 129 k).toInt - 97) ∧ m' 123 4 = m 123 4 ||| ((1 : Int32) <<< (Int32.ofInt i &&& 31)))
/-- how many of a row are found in another, one after another -/
def gfd (f g : Nat → Int32) (n1 out : Int) : Nat → Int
  | 0 => 0
  | k + 1 => if gfd f g n1 out k < n1 ∧ (k : Int) ≠ out ∧ f k = g (gfd f g n1 out k).toNat then gfd f g n1 out k + 1 else gfd f g n1 out k
theorem gfd_b {f g : Nat → Int32} {n1 out : Int} (h : 0 ≤ n1) : ∀ k, 0 ≤ gfd f g n1 out k ∧ gfd f g n1 out k ≤ n1 ∧ gfd f g n1 out k ≤ k
  | 0 => ⟨Int.le_refl _, h, Int.le_refl _⟩
  | k + 1 => by
    have a := gfd_b (f := f) (g := g) (out := out) h k
    simp only [gfd]
    split <;> omega
theorem gfd_s {f g : Nat → Int32} {n1 out : Int} (k : Nat) : gfd f g n1 out (k + 1) = if gfd f g n1 out k < n1 ∧ (k : Int) ≠ out ∧ f k = g (gfd f g n1 out k).toNat then gfd f g n1 out k + 1 else gfd f g n1 out k := rfl
theorem gfd_full {f g : Nat → Int32} {n1 out : Int} {k : Nat} (h : gfd f g n1 out k = n1) : ∀ d, gfd f g n1 out (k + d) = n1
  | 0 => h
  | d + 1 => by
    have a := gfd_full h d
    rw [← Nat.add_assoc, gfd_s, a, if_neg (by omega)]
theorem gfd_of {f g f2 g2 : Nat → Int32} {n0 n1 out : Int} (h : 0 ≤ n1) (hf : ∀ k : Nat, (k : Int) < n0 → (f k).toInt = (f2 k).toInt) (hg : ∀ k : Nat, (k : Int) < n1 → (g k).toInt = (g2 k).toInt) : ∀ k : Nat, (k : Int) ≤ n0 → gfd f g n1 out k = gfd f2 g2 n1 out k
  | 0, _ => rfl
  | k + 1, hk => by
    have a := gfd_of (out := out) h hf hg k (by omega)
    rw [gfd_s, gfd_s, ← a]
    have b := gfd_b (f := f) (g := g) (out := out) h k
    by_cases c : gfd f g n1 out k < n1
    · have e1 : f k = f2 k := Int32.toInt_inj.mp (hf k (by omega))
      have e2 : g (gfd f g n1 out k).toNat = g2 (gfd f g n1 out k).toNat := Int32.toInt_inj.mp (hg _ (by omega))
      rw [e1, e2]
    · rw [if_neg (fun q => c q.1), if_neg (fun q => c q.1)]
/-- whether a row COMES from another -/
def COM (f g : Nat → Int32) (n0 n1 out : Int) : Prop := gfd f g n1 out n0.toNat = n1
theorem COM_of {f g f2 g2 : Nat → Int32} {n0 n1 out : Int} (h0 : 0 ≤ n0) (h : 0 ≤ n1) (hf : ∀ k : Nat, (k : Int) < n0 → (f k).toInt = (f2 k).toInt) (hg : ∀ k : Nat, (k : Int) < n1 → (g k).toInt = (g2 k).toInt) : COM f g n0 n1 out ↔ COM f2 g2 n0 n1 out := by
  unfold COM
  rw [gfd_of h hf hg n0.toNat (by omega)]
theorem COM_end {f g : Nat → Int32} {n0 n1 out : Int} {k : Nat} (hk : (k : Int) ≤ n0) (h : (k : Int) = n0 ∨ n1 ≤ gfd f g n1 out k) (h1 : 0 ≤ n1) : gfd f g n1 out k = n1 ↔ COM f g n0 n1 out := by
  unfold COM
  have b := gfd_b (f := f) (g := g) (out := out) h1 k
  rcases h with h | h
  · rw [show n0.toNat = k by omega]
  · have e : gfd f g n1 out k = n1 := by omega
    have := gfd_full e (n0.toNat - k)
    rw [show k + (n0.toNat - k) = n0.toNat by omega] at this
    exact ⟨fun _ => this, fun _ => e⟩
/-- bits -/
theorem amv_bit (t : Int32) {j : Nat} (hj : j < 32) : (amv t (Int32.ofInt j)).toInt = if t.toBitVec.getLsbD j then 1 else 0 := by
  have e : ((t >>> (Int32.ofInt j &&& 31)) &&& 1).toInt = if t.toBitVec.getLsbD j then 1 else 0 := by
    have h1 : (Int32.ofInt (j : Int) &&& 31).toBitVec = BitVec.ofNat 32 j := by
      have : ∀ k : Fin 32, (Int32.ofInt ((k.val : Nat) : Int) &&& 31).toBitVec = BitVec.ofNat 32 k.val := by decide
      exact this ⟨j, hj⟩
    have h2 : ((BitVec.ofNat 32 j).smod 32).toNat = j := by
      have : ∀ k : Fin 32, ((BitVec.ofNat 32 k.val).smod 32).toNat = k.val := by decide
      exact this ⟨j, hj⟩
    have h3 : ((t >>> (Int32.ofInt j &&& 31)) &&& 1).toBitVec = if t.toBitVec.getLsbD j then 1#32 else 0#32 := by
      show (t >>> (Int32.ofInt j &&& 31)).toBitVec &&& 1#32 = _
      rw [Int32.toBitVec_shiftRight, h1, BitVec.sshiftRight_eq', h2]
      apply BitVec.eq_of_getLsbD_eq
      intro i hi
      rw [BitVec.getLsbD_and, BitVec.getLsbD_sshiftRight]
      by_cases z : i = 0
      · subst z
        cases hb : t.toBitVec.getLsbD j <;> simp [hb, hj]
      · have : (1#32).getLsbD i = false := by simp; omega
        rw [this, Bool.and_false]
        cases t.toBitVec.getLsbD j <;> simp <;> omega
    show ((t >>> (Int32.ofInt j &&& 31)) &&& 1).toBitVec.toInt = _
    rw [h3]
    cases t.toBitVec.getLsbD j <;> rfl
  unfold amv
  rw [e]
  cases t.toBitVec.getLsbD j <;> rfl
theorem amv_or (t : Int32) {i j : Nat} (hi : i < 32) (hj : j < 32) : (amv (t ||| ((1 : Int32) <<< (Int32.ofInt i &&& 31))) (Int32.ofInt j)).toInt = if j = i then 1 else (amv t (Int32.ofInt j)).toInt := by
  rw [amv_bit _ hj, amv_bit _ hj]
  have h1 : ((1 : Int32) <<< (Int32.ofInt (i : Int) &&& 31)).toBitVec = BitVec.twoPow 32 i := by
    have : ∀ k : Fin 32, ((1 : Int32) <<< (Int32.ofInt ((k.val : Nat) : Int) &&& 31)).toBitVec = BitVec.twoPow 32 k.val := by decide
    exact this ⟨i, hi⟩
  have h2 : (t ||| ((1 : Int32) <<< (Int32.ofInt i &&& 31))).toBitVec = t.toBitVec ||| BitVec.twoPow 32 i := by rw [← h1]; rfl
  rw [h2, BitVec.getLsbD_or, BitVec.getLsbD_twoPow]
  by_cases z : j = i
  · subst z; simp [hj]
  · have : ¬ i = j := fun q => z q.symm
    simp [z, this]
theorem amv_1 {t x : Int32} : (amv t x).toInt = 1 ↔ ((t >>> (x &&& 31)) &&& 1).toInt = 1 := by
  unfold amv
  split
  · rename_i h; exact ⟨fun _ => h, fun _ => by decide⟩
  · rename_i h; exact ⟨fun q => absurd q (by decide), fun q => absurd q h⟩
def idr (m : Nat → Nat → Int32) (x : Int32) : Int32 := if 0 ≤ x.toInt ∧ x.toInt ≤ 7 ∧ (amv (m 123 4) x).toInt = 1 then 1 else 0
