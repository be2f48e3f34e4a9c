/-! both sides alike, with what is kept of HIDDEN -/
def EQH (m : Nat → Nat → Int32) : Prop := EQW m ∧ CHD m
theorem EQH_k {m m2 : Nat → Nat → Int32} (h : EQH m) (hW : EQW m2) (e2 : m2 112 1 = m 112 1) (e3 : m2 113 1 = m 113 1) (e4 : ∀ j, m2 114 j = m 114 j) (w : ∀ a j, isW a = true → m2 a j = m a j) : EQH m2 :=
  ⟨hW, CHD_eq h.2 e2 e3 e4 (fun a j h1 h2 => w a j (isW_i (Or.inl ⟨h1, h2⟩)))⟩
theorem blank_EH {m m1 m2 : Nat → Nat → Int32} {n v : Int} (I : IV BB m) (h : EQH m) (hW : EQW m2) (hb : BLK n (m 0 2).toInt (m 1 1).toInt (LET 2 m n) v (m1 0 2).toInt (m1 1 1).toInt) (p : BLWc m m1 n) (dw : ∀ a j, isW a = true → m2 a j = m1 a j) (e2 : m2 112 1 = m 112 1) (e3 : m2 113 1 = m 113 1) (e4 : ∀ j, m2 114 j = m 114 j) : EQH m2 := by
  have b0 : 0 ≤ (m 0 2).toInt := (I 0 2).1
  have b8 : (m 0 2).toInt ≤ 8 := (I 0 2).2
  refine ⟨hW, CHD_eq h.2 e2 e3 e4 (fun a j h1 h2 => ?_)⟩
  have z := isW_i (a := a) (Or.inl ⟨h1, h2⟩)
  refine (dw a j z).trans (p.1 a j z ?_)
  rcases hb with ⟨_, _, a3, _⟩ | ⟨_, _, a3, _⟩
  · exact Or.inr ⟨by unfold cnc; omega, by unfold cnc; omega⟩
  · exact Or.inl a3
/-- what a DEED told does to it -/
def DFH (m m1 : Nat → Nat → Int32) (v : Int) : Prop := (m1 112 1).toInt = 0 ∨ (v < 0 ∧ m1 112 1 = m 112 1 ∧ m1 113 1 = m 113 1 ∧ ∀ j, m1 114 j = m 114 j)
theorem deed_EH {m m1 m2 : Nat → Nat → Int32} {i n v : Int} (h : EQH m) (hW : EQW m2) (p : DDWc m m1 i n v) (d : DFH m m1 v) (dw : ∀ a j, isW a = true → m2 a j = m1 a j) (e2 : m2 112 1 = m1 112 1) (e3 : m2 113 1 = m1 113 1) (e4 : ∀ j, m2 114 j = m1 114 j) : EQH m2 := by
  rcases d with d | ⟨d1, d2, d3, d4⟩
  · exact ⟨hW, CHD_0 (by rw [e2]; exact d)⟩
  · exact ⟨hW, CHD_eq h.2 (e2.trans d2) (e3.trans d3) (fun j => (e4 j).trans (d4 j)) (fun a j h1 h2 => (dw a j (isW_i (Or.inl ⟨h1, h2⟩))).trans (p.1 a j (isW_i (Or.inl ⟨h1, h2⟩)) (Or.inl d1)))⟩
