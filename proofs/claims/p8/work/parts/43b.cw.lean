/-! THE SHORTEST of the class: sizes, places, LETTERS ahead -/
def szp (m : Nat → Nat → Int32) (pp : Nat → Nat) : Nat → Int := fun d => (m (pp d) 1).toInt
def atp (m : Nat → Nat → Int32) : Nat → Int := fun d => (m 175 d).toInt
def lap (m : Nat → Nat → Int32) (pp : Nat → Nat) (d : Nat) : Int := if atp m d < szp m pp d then (m (pp d + 1) (atp m d).toNat).toInt else -1
def Dj (pp : Nat → Nat) : Prop := ∀ d, d < 4 → pp d ≤ 75 ∨ pp d = 173
def AHx (m : Nat → Nat → Int32) (pp : Nat → Nat) : Prop := ∀ d, d < 4 → (m 177 d).toInt = lap m pp d ∨ (m 177 d).toInt = -1
def APx (m : Nat → Nat → Int32) (pp : Nat → Nat) : Prop := ∀ d, d < 4 → (m 176 d).toInt = cA (szp m pp) (3 - d)
def ATx (m : Nat → Nat → Int32) (pp : Nat → Nat) : Prop := ∀ d, d < 4 → 0 ≤ atp m d ∧ atp m d ≤ szp m pp d
theorem cA_of {s s' : Nat → Int} (h : ∀ d, d < 4 → s d = s' d) : ∀ k, k ≤ 4 → cA s k = cA s' k
  | 0, _ => rfl
  | k + 1, hk => by rw [cA_s, cA_s, cA_of h k (by omega), h (3 - k) (by omega)]
theorem ix4_of {s s' a a' : Nat → Int} (h : ∀ d, d < 4 → s d = s' d) (ha : ∀ d, d < 4 → a d = a' d) : ix4 s a = ix4 s' a' := by
  unfold ix4
  rw [cA_of h 3 (by omega), cA_of h 2 (by omega), cA_of h 1 (by omega), cA_of h 0 (by omega), ha 0 (by omega), ha 1 (by omega), ha 2 (by omega), ha 3 (by omega)]
theorem wn_of {s s' w w' : Nat → Int} (h : ∀ d, d < 4 → s d = s' d) (hw : ∀ d, d < 4 → w d = w' d) : ∀ k, k ≤ 4 → wn s w k = wn s' w' k
  | 0, _ => rfl
  | k + 1, hk => by
    show wn s w k + w k * cA s (3 - k) = wn s' w' k + w' k * cA s' (3 - k)
    rw [wn_of h hw k (by omega), hw k (by omega), cA_of h (3 - k) (by omega)]
theorem szp_eq {m m2 : Nat → Nat → Int32} {pp : Nat → Nat} (e : ∀ b, b ≤ 75 ∨ b = 173 → m2 b = m b) (hD : Dj pp) : ∀ d, d < 4 → szp m2 pp d = szp m pp d := fun d hd => by unfold szp; rw [e _ (hD d hd)]
theorem lap_eq {m m2 : Nat → Nat → Int32} {pp : Nat → Nat} (e : ∀ b, b ≤ 76 ∨ b = 173 ∨ b = 174 ∨ b = 175 → m2 b = m b) (hD : Dj pp) : ∀ d, d < 4 → lap m2 pp d = lap m pp d := fun d hd => by
  have q := hD d hd
  unfold lap atp szp
  rw [e (pp d) (by omega), e (pp d + 1) (by omega), e 175 (by omega)]
/-- which places a LETTER moves -/
def hw (m : Nat → Nat → Int32) (pp : Nat → Nat) (l : Int) : Nat → Int := fun d => if lap m pp d = l then 1 else 0
theorem hw_b (m : Nat → Nat → Int32) (pp : Nat → Nat) (l : Int) (d : Nat) : 0 ≤ hw m pp l d ∧ hw m pp l d ≤ 1 := by unfold hw; split <;> omega
theorem hw_at {m : Nat → Nat → Int32} {pp : Nat → Nat} {l : Int} (hA : ATx m pp) (hl : l ≠ -1) : ∀ d, d < 4 → atp m d + hw m pp l d ≤ szp m pp d := by
  intro d hd
  have a := hA d hd
  unfold hw
  split
  · rename_i c
    unfold lap at c
    by_cases z : atp m d < szp m pp d
    · omega
    · rw [if_neg z] at c; omega
  · omega
theorem hw_le {m : Nat → Nat → Int32} {pp : Nat → Nat} {l : Int} (hS : S12 (szp m pp)) (hA : ATx m pp) (hl : l ≠ -1) : ix4 (szp m pp) (atp m) + wn (szp m pp) (hw m pp l) 4 ≤ 28560 := by
  rw [wn_4]
  exact ix4_le hS (hw_at hA hl)
theorem ix4_0 {s a : Nat → Int} (h : S12 s) (ha : ∀ d, d < 4 → 0 ≤ a d) : 0 ≤ ix4 s a := by
  have q := ix4_mono (a := fun _ => 0) (b := a) h (fun d hd => ha d hd)
  have e : ix4 s (fun _ => 0) = 0 := by show (0 : Int) * cA s 3 + 0 * cA s 2 + 0 * cA s 1 + 0 * cA s 0 = 0; omega
  omega
/-- one more of those that a LETTER moves -/
theorem wn_hit {m : Nat → Nat → Int32} {pp : Nat → Nat} {l on j k v : Int} (hP : APx m pp) (h0 : 0 ≤ j) (h4 : j < 4) (hk : k = j + 1) (hl : lap m pp j.toNat = l) (hon : on ≤ wn (szp m pp) (hw m pp l) j.toNat) (hv : v = on + (m 176 j.toNat).toInt) : v ≤ wn (szp m pp) (hw m pp l) k.toNat := by
  rw [wn_s h0 hk, hv, hP j.toNat (by omega)]
  have e : hw m pp l j.toNat = 1 := by unfold hw; rw [if_pos hl]
  rw [e]
  omega
theorem wn_miss {m : Nat → Nat → Int32} {pp : Nat → Nat} {l on j k : Int} (hS : S12 (szp m pp)) (h0 : 0 ≤ j) (h4 : j < 4) (hk : k = j + 1) (hon : on ≤ wn (szp m pp) (hw m pp l) j.toNat) : on ≤ wn (szp m pp) (hw m pp l) k.toNat := by
  rw [wn_s h0 hk]
  have := Int.mul_nonneg (hw_b m pp l j.toNat).1 (show 0 ≤ cA (szp m pp) (3 - j.toNat) by have := (cA_b hS (3 - j.toNat) (by omega)).1; omega)
  omega
theorem wn_up {s w : Nat → Int} (h : S12 s) (hw : ∀ d, 0 ≤ w d) : ∀ n k, k ≤ n → n ≤ 4 → wn s w k ≤ wn s w n
  | 0, k, h1, _ => by rw [show k = 0 by omega]; exact Int.le_refl _
  | n + 1, k, h1, h2 => by
    by_cases q : k = n + 1
    · rw [q]; exact Int.le_refl _
    · have a := wn_up h hw n k (by omega) (by omega)
      have b := Int.mul_nonneg (hw n) (show 0 ≤ cA s (3 - n) by have := (cA_b h (3 - n) (by omega)).1; omega)
      show wn s w k ≤ wn s w n + w n * cA s (3 - n)
      omega
theorem AHx_set {m m2 : Nat → Nat → Int32} {pp : Nat → Nat} {j : Nat} {v : Int32} (h : AHx m pp) (hD : Dj pp) (e : m2 = up2 m 177 j v) (hv : v.toInt = -1) : AHx m2 pp := by
  intro d hd
  rw [lap_eq (m := m) (fun b hb => funext fun i => by rw [e, up2_ne (by omega)]) hD d hd]
  by_cases z : d = j
  · exact Or.inr (by rw [z, e, up2_eq]; exact hv)
  · rw [e, up2_ne (by omega)]; exact h d hd
/-- the parts and places stay -/
theorem CX_eq {m m2 : Nat → Nat → Int32} {pp : Nat → Nat} (e : ∀ b j, b ≤ 176 → m2 b j = m b j) (hD : Dj pp) (h1 : S12 (szp m pp)) (h2 : ATx m pp) (h3 : APx m pp) : S12 (szp m2 pp) ∧ ATx m2 pp ∧ APx m2 pp ∧ ix4 (szp m2 pp) (atp m2) = ix4 (szp m pp) (atp m) := by
  have hs := szp_eq (m := m) (m2 := m2) (fun b hb => funext fun j => e b j (by omega)) hD
  have ha : ∀ d, atp m2 d = atp m d := fun d => congrArg Int32.toInt (e 175 d (by omega))
  exact ⟨fun d hd => by rw [hs d hd]; exact h1 d hd, fun d hd => by rw [hs d hd, ha d]; exact h2 d hd, fun d hd => by rw [e 176 d (by omega), cA_of hs (3 - d) (by omega)]; exact h3 d hd, ix4_of hs (fun d _ => ha d)⟩
