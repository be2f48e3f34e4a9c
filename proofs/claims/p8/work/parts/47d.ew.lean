/-! both sides alike: DEEDS and BLANKS as written too -/
theorem wl_isW {l : List (Nat × Nat × Option Nat)} {a j : Nat} (h : l.all (fun q => Nat.ble 77 q.1 || (Nat.ble q.2.1 2)) = true) (ha : isW a = true) : wl l a j = false := by
  have z := isW_b ha
  cases hc : wl l a j with
  | false => rfl
  | true =>
    obtain ⟨q, hq, h1⟩ := wl_mem.mp hc
    have h2 := List.all_eq_true.mp h q hq
    obtain ⟨q1, q2, q3⟩ := q
    simp only [wl1, Bool.and_eq_true, Nat.ble_eq] at h1
    simp only [Bool.or_eq_true, Nat.ble_eq] at h2
    omega
def DDE (m : Nat → Nat → Int32) : Prop := ∀ i : Nat, i < 8 → (m (61 + 2 * i) 1).toInt = (m 126 i).toInt ∧ (∀ k : Nat, (k : Int) < (m 126 i).toInt → (m (62 + 2 * i) k).toInt = (m 127 (16 * i + k)).toInt) ∧ ((amv (m 123 4) (Int32.ofInt i)).toInt = 1 ↔ 0 < (m 126 i).toInt)
def BBE (m : Nat → Nat → Int32) : Prop := ∀ b : Nat, (b : Int) < (m 0 2).toInt → (m (5 + 7 * b) 1).toInt = (m 124 b).toInt ∧ ∀ k : Nat, (k : Int) < (m 124 b).toInt → (m (6 + 7 * b) k).toInt = (m 125 (40 * b + k)).toInt
def EQW (m : Nat → Nat → Int32) : Prop := EQK m ∧ DDE m ∧ BBE m
theorem DDE_k {m m2 : Nat → Nat → Int32} (h : DDE m) (w : ∀ a j, isW a = true → 61 ≤ a → m2 a j = m a j) (d6 : ∀ j, m2 126 j = m 126 j) (d7 : ∀ j, m2 127 j = m 127 j) (t : m2 123 4 = m 123 4) : DDE m2 := by
  intro i hi
  obtain ⟨h1, h2, h3⟩ := h i hi
  have e1 : m2 (61 + 2 * i) 1 = m (61 + 2 * i) 1 := w _ _ (isW_i (by omega)) (by omega)
  refine ⟨by rw [e1, d6]; exact h1, fun k hk => ?_, by rw [t, d6]; exact h3⟩
  rw [d6] at hk
  rw [w (62 + 2 * i) k (isW_i (by omega)) (by omega), d7]
  exact h2 k hk
theorem BBE_k {m m2 : Nat → Nat → Int32} (I : IV BB m) (h : BBE m) (w : ∀ a j, isW a = true → a ≤ 59 → m2 a j = m a j) (d4 : ∀ j, m2 124 j = m 124 j) (d5 : ∀ j, m2 125 j = m 125 j) (c : m2 0 2 = m 0 2) : BBE m2 := by
  intro b hb
  rw [c] at hb
  have b8 : (m 0 2).toInt ≤ 8 := (I 0 2).2
  obtain ⟨h1, h2⟩ := h b hb
  refine ⟨by rw [w (5 + 7 * b) 1 (isW_i (by omega)) (by omega), d4]; exact h1, fun k hk => ?_⟩
  rw [d4] at hk
  rw [w (6 + 7 * b) k (isW_i (by omega)) (by omega), d5]
  exact h2 k hk
theorem EQW_k {m m2 : Nat → Nat → Int32} (I : IV BB m) (h : EQW m) (hK : EQK m2) (w : ∀ a j, isW a = true → m2 a j = m a j) (d4 : ∀ j, m2 124 j = m 124 j) (d5 : ∀ j, m2 125 j = m 125 j) (d6 : ∀ j, m2 126 j = m 126 j) (d7 : ∀ j, m2 127 j = m 127 j) (t : m2 123 4 = m 123 4) (c : m2 0 2 = m 0 2) : EQW m2 :=
  ⟨hK, DDE_k h.2.1 (fun a j q _ => w a j q) d6 d7 t, BBE_k I h.2.2 (fun a j q _ => w a j q) d4 d5 c⟩
/-- one more BLANK on both sides -/
theorem blank_EW {m m1 m2 : Nat → Nat → Int32} {n v : Int} (I : IV BB m) (h : EQW m) (hK : EQK m2) (hb : BLK n (m 0 2).toInt (m 1 1).toInt (LET 2 m n) v (m1 0 2).toInt (m1 1 1).toInt) (p : BLWc m m1 n) (q : BLWr m1 m2 n)
    (c0 : m1 123 0 = m 123 0) (c4 : ∀ j, m1 124 j = m 124 j) (c5 : ∀ j, m1 125 j = m 125 j) (c6 : ∀ j, m1 126 j = m 126 j) (c7 : ∀ j, m1 127 j = m 127 j) (c8 : m1 123 4 = m 123 4) (c9 : ∀ j, m1 129 j = m 129 j) (d2 : m2 0 2 = m1 0 2) (dw : ∀ a j, isW a = true → m2 a j = m1 a j) (d6 : ∀ j, m2 126 j = m1 126 j) (d7 : ∀ j, m2 127 j = m1 127 j) (d8 : m2 123 4 = m1 123 4) : EQW m2 := by
  obtain ⟨hE, hD, hB⟩ := h
  have b0 : 0 ≤ (m 0 2).toInt := (I 0 2).1
  have b8 : (m 0 2).toInt ≤ 8 := (I 0 2).2
  have ec : cnr m1 = cnc m := by unfold cnr cnc; rw [c0, ← hE.2.1]
  have e20 : (m2 0 2).toInt = (m1 0 2).toInt := congrArg Int32.toInt d2
  have ec8 : (cnc m : Int) ≤ 8 := by unfold cnc; omega
  have hDw : ∀ a j, isW a = true → 61 ≤ a → m2 a j = m a j := fun a j z z2 => by
    refine (dw a j z).trans (p.1 a j z ?_)
    rcases hb with ⟨_, _, a3, _⟩ | ⟨_, _, a3, _⟩
    · exact Or.inr ⟨by unfold cnc; omega, by unfold cnc; omega⟩
    · exact Or.inl a3
  refine ⟨hK, DDE_k hD hDw (fun j => (d6 j).trans (c6 j)) (fun j => (d7 j).trans (c7 j)) (d8.trans c8), fun b hb2 => ?_⟩
  have ecc : (cnc m : Int) = (m 0 2).toInt := by unfold cnc; omega
  have eqn : (m2 0 2).toInt = (m2 123 0).toInt := hK.2.1
  have e0 : (m 0 2).toInt = (m 123 0).toInt := hE.2.1
  have e01 : (m1 123 0).toInt = (m 123 0).toInt := congrArg Int32.toInt c0
  by_cases z : (b : Int) < (m 0 2).toInt
  · obtain ⟨h1, h2⟩ := hB b z
    have k40 : (m 124 b).toInt ≤ 40 := (I 124 b).2
    have f4 : m2 124 b = m 124 b := (q.1 b (by rw [ec]; omega)).trans (c4 b)
    refine ⟨?_, fun k hk => ?_⟩
    · rw [f4, dw _ _ (isW_i (by omega)), p.1 (5 + 7 * b) 1 (isW_i (by omega)) (Or.inr ⟨by omega, by omega⟩)]
      exact h1
    · rw [f4] at hk
      rw [dw _ _ (isW_i (by omega)), p.1 (6 + 7 * b) k (isW_i (by omega)) (Or.inr ⟨by omega, by omega⟩), q.2.1 _ (by rw [ec]; omega), c5]
      exact h2 k hk
  · have hb3 : n ≤ (m 1 1).toInt ∧ LET 2 m n ∧ (m1 0 2).toInt = (m 0 2).toInt + 1 := by
      rcases hb with ⟨a1, a2, a3, a4, a5, ⟨a6, a7, a8⟩ | ⟨a6, a7, a8⟩⟩ | ⟨a1, a2, a3, a4⟩
      · exact ⟨a4, a6, a8⟩
      · omega
      · omega
    obtain ⟨hn, hl, hc⟩ := hb3
    have eb : b = cnc m := by omega
    subst eb
    obtain ⟨p1, p2⟩ := p.2 hc
    obtain ⟨q1, q2⟩ := q.2.2 (by omega)
    rw [ec] at q1 q2
    refine ⟨?_, fun k hk => ?_⟩
    · rw [dw _ _ (isW_i (by omega)), p1, q1]
    · rw [q1] at hk
      rw [dw _ _ (isW_i (by omega)), p2 k hk, q2 k hk, c9]
      have r1 := hE.2.2.2 k (by omega)
      have r2 := hl k hk
      have s1 : (-128 : Int) ≤ (m 129 k).toInt := (I 129 k).1
      have s2 : (m 129 k).toInt ≤ 127 := (I 129 k).2
      omega
/-- a DEED told on both sides -/
theorem deed_EW {m m1 m2 : Nat → Nat → Int32} {i n v : Int} (I : IV BB m) (h : EQW m) (hK : EQK m2) (hb : DDK i n (m 1 1).toInt (LET 2 m n) v (m1 1 1).toInt) (p : DDWc m m1 i n v) (q : DDWr m1 m2 i n v)
    (c2 : m1 0 2 = m 0 2) (c4 : ∀ j, m1 124 j = m 124 j) (c5 : ∀ j, m1 125 j = m 125 j) (c6 : ∀ j, m1 126 j = m 126 j) (c7 : ∀ j, m1 127 j = m 127 j) (c8 : m1 123 4 = m 123 4) (c9 : ∀ j, m1 129 j = m 129 j) (d2 : m2 0 2 = m1 0 2) (dw : ∀ a j, isW a = true → m2 a j = m1 a j) (d4 : ∀ j, m2 124 j = m1 124 j) (d5 : ∀ j, m2 125 j = m1 125 j) : EQW m2 := by
  obtain ⟨hE, hD, hB⟩ := h
  refine ⟨hK, fun j hj => ?_, BBE_k I hB (fun a j z z2 => (dw a j z).trans (p.1 a j z ?_)) (fun j => (d4 j).trans (c4 j)) (fun j => (d5 j).trans (c5 j)) (d2.trans c2)⟩
  · obtain ⟨h1, h2, h3⟩ := hD j hj
    have k16 : (m 126 j).toInt ≤ 16 := (I 126 j).2
    by_cases z : v < 0
    · have f6 : m2 126 j = m 126 j := (q.1 j (Or.inl z)).trans (c6 j)
      refine ⟨?_, fun k hk => ?_, ?_⟩
      · rw [f6, dw _ _ (isW_i (by omega)), p.1 _ _ (isW_i (by omega)) (Or.inl z)]
        exact h1
      · rw [f6] at hk
        rw [dw _ _ (isW_i (by omega)), p.1 _ _ (isW_i (by omega)) (Or.inl z), q.2.1 _ (Or.inl z), c7]
        exact h2 k hk
      · rw [q.2.2.1 z, c8, f6]
        exact h3
    · have hb3 : 0 ≤ i ∧ i ≤ 7 ∧ 1 ≤ n ∧ n ≤ 16 ∧ n ≤ (m 1 1).toInt ∧ LET 2 m n := by
        rcases hb with ⟨a1, a2, a3, a4, a5, a6, ⟨a7, a8⟩ | ⟨a7, a8⟩⟩ | ⟨a1, a2, a3⟩
        · exact ⟨a1, a2, a3, a4, a5, a7⟩
        · omega
        · omega
      obtain ⟨i0, i7, n1, n16, hn, hl⟩ := hb3
      obtain ⟨p1, p2⟩ := p.2 (by omega)
      obtain ⟨q1, q2, q3⟩ := q.2.2.2 (by omega)
      have ei : Int32.ofInt i = Int32.ofInt ((i.toNat : Nat) : Int) := by rw [show ((i.toNat : Nat) : Int) = i by omega]
      rw [c8, ei] at q3
      by_cases y : j = i.toNat
      · subst y
        refine ⟨?_, fun k hk => ?_, ?_⟩
        · rw [dw _ _ (isW_i (by omega)), p1, q1]
        · rw [q1] at hk
          rw [dw _ _ (isW_i (by omega)), p2 k hk, q2 k hk, c9]
          have r1 := hE.2.2.2 k (by omega)
          have r2 := hl k hk
          have s1 : (-128 : Int) ≤ (m 129 k).toInt := (I 129 k).1
          have s2 : (m 129 k).toInt ≤ 127 := (I 129 k).2
          omega
        · rw [q3, amv_or _ (by omega) (by omega), if_pos rfl, q1]
          exact ⟨fun _ => by omega, fun _ => rfl⟩
      · have f6 : m2 126 j = m 126 j := (q.1 j (Or.inr y)).trans (c6 j)
        refine ⟨?_, fun k hk => ?_, ?_⟩
        · rw [f6, dw _ _ (isW_i (by omega)), p.1 _ _ (isW_i (by omega)) (Or.inr ⟨by omega, by omega⟩)]
          exact h1
        · rw [f6] at hk
          rw [dw _ _ (isW_i (by omega)), p.1 _ _ (isW_i (by omega)) (Or.inr ⟨by omega, by omega⟩), q.2.1 _ (Or.inr (by omega)), c7]
          exact h2 k hk
        · rw [q3, amv_or _ (by omega) (by omega), if_neg y, f6]
          exact h3
  · by_cases y : v < 0
    · exact Or.inl y
    · exact Or.inr ⟨by omega, by omega⟩
