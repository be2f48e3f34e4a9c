/-! both sides alike after each call that changes DAY, tape, number of BLANKS -/
theorem EQK_end {m2 : Nat → Nat → Int32} {tp tp' : Int} {m : Nat → Nat → Int32} (h : EQK m) (e1 : (m2 0 7).toInt = (m2 123 1).toInt) (e2 : (m2 0 2).toInt = (m2 123 0).toInt) (e3 : (m2 1 1).toInt = tp') (e4 : (m2 123 11).toInt = tp') (ht : (m 1 1).toInt = tp) (hz : tp' = tp ∨ tp' = 0) (h7 : ∀ j, m2 2 j = m 2 j) (h8 : ∀ j, m2 129 j = m 129 j) : EQK m2 := by
  refine ⟨e1, e2, by omega, fun j hj => ?_⟩
  rw [h7, h8]
  exact h.2.2.2 j (by omega)
theorem day_EQ {m m1 m2 : Nat → Nat → Int32} {x w v : Int} (h : EQK m) (p : (w = 1 ∧ (m 0 7).toInt ≤ x ∧ x ≤ 999 ∧ (m1 0 7).toInt = x) ∨ (w = 0 ∧ (x < (m 0 7).toInt ∨ 999 < x) ∧ (m1 0 7).toInt = (m 0 7).toInt)) (q : (v = 1 ∧ (m1 123 1).toInt ≤ x ∧ x ≤ 999 ∧ (m2 123 1).toInt = x) ∨ (v = 0 ∧ (x < (m1 123 1).toInt ∨ 999 < x) ∧ (m2 123 1).toInt = (m1 123 1).toInt))
    (c1 : m1 123 1 = m 123 1) (d1 : m2 0 7 = m1 0 7) (f1 : m2 0 2 = m 0 2) (f2 : m2 123 0 = m 123 0) (f3 : m2 1 1 = m 1 1) (f4 : m2 123 11 = m 123 11) (f5 : ∀ j, m2 2 j = m 2 j) (f6 : ∀ j, m2 129 j = m 129 j) : v = w ∧ EQK m2 := by
  have a := h.1
  have e1 : (m1 123 1).toInt = (m 123 1).toInt := congrArg Int32.toInt c1
  have e2 : (m2 0 7).toInt = (m1 0 7).toInt := congrArg Int32.toInt d1
  refine ⟨by omega, EQK_end (tp := (m 1 1).toInt) (tp' := (m 1 1).toInt) h (by omega) ?_ (by rw [f3]) ?_ rfl (Or.inl rfl) f5 f6⟩
  · rw [f1, f2]; exact h.2.1
  · rw [f4]; exact h.2.2.1.symm
theorem blank_EQ {m m1 m2 : Nat → Nat → Int32} {n w v : Int} (I : IV BB m) (h : EQK m) (p : BLK n (m 0 2).toInt (m 1 1).toInt (LET 2 m n) w (m1 0 2).toInt (m1 1 1).toInt) (q : BLK n (m1 123 0).toInt (m1 123 11).toInt (LET 129 m1 n) v (m2 123 0).toInt (m2 123 11).toInt)
    (c1 : m1 123 0 = m 123 0) (c2 : m1 123 11 = m 123 11) (c3 : ∀ j, m1 129 j = m 129 j) (d1 : m2 0 7 = m 0 7) (d2 : m2 123 1 = m 123 1) (d3 : m2 0 2 = m1 0 2) (d4 : m2 1 1 = m1 1 1) (f5 : ∀ j, m2 2 j = m 2 j) (f6 : ∀ j, m2 129 j = m 129 j) : v = w ∧ EQK m2 := by
  rw [c1, c2, ← h.2.1, ← h.2.2.1] at q
  obtain ⟨e1, e2, e3⟩ := BLK_det (fun hn => (EQK_let I h hn).trans (LET_eq c3 n).symm) p q
  refine ⟨e1.symm, EQK_end (tp := (m 1 1).toInt) (tp' := (m1 1 1).toInt) h ?_ ?_ (by rw [d4]) e3.symm rfl (BLK_le p) f5 f6⟩
  · rw [d1, d2]; exact h.1
  · rw [d3]; exact e2
theorem deed_EQ {m m1 m2 : Nat → Nat → Int32} {i n w v : Int} (I : IV BB m) (h : EQK m) (p : DDK i n (m 1 1).toInt (LET 2 m n) w (m1 1 1).toInt) (q : DDK i n (m1 123 11).toInt (LET 129 m1 n) v (m2 123 11).toInt)
    (c2 : m1 123 11 = m 123 11) (c3 : ∀ j, m1 129 j = m 129 j) (d1 : m2 0 7 = m 0 7) (d2 : m2 123 1 = m 123 1) (f1 : m2 0 2 = m 0 2) (f2 : m2 123 0 = m 123 0) (d4 : m2 1 1 = m1 1 1) (f5 : ∀ j, m2 2 j = m 2 j) (f6 : ∀ j, m2 129 j = m 129 j) : v = w ∧ EQK m2 := by
  rw [c2, ← h.2.2.1] at q
  obtain ⟨e1, e3⟩ := DDK_det (fun hn => (EQK_let I h hn).trans (LET_eq c3 n).symm) p q
  refine ⟨e1.symm, EQK_end (tp := (m 1 1).toInt) (tp' := (m1 1 1).toInt) h ?_ ?_ (by rw [d4]) e3.symm rfl (DDK_le p) f5 f6⟩
  · rw [d1, d2]; exact h.1
  · rw [f1, f2]; exact h.2.1
theorem law_EQ {m m1 m2 : Nat → Nat → Int32} {n : Int} (h : EQK m) (p : LWK n (m 1 1).toInt (m1 1 1).toInt) (q : LWK n (m1 123 11).toInt (m2 123 11).toInt)
    (c2 : m1 123 11 = m 123 11) (d1 : m2 0 7 = m 0 7) (d2 : m2 123 1 = m 123 1) (f1 : m2 0 2 = m 0 2) (f2 : m2 123 0 = m 123 0) (d4 : m2 1 1 = m1 1 1) (f5 : ∀ j, m2 2 j = m 2 j) (f6 : ∀ j, m2 129 j = m 129 j) : EQK m2 := by
  rw [c2, ← h.2.2.1] at q
  have e3 := LWK_det p q
  refine EQK_end (tp := (m 1 1).toInt) (tp' := (m1 1 1).toInt) h ?_ ?_ (by rw [d4]) e3.symm rfl (LWK_le p) f5 f6
  · rw [d1, d2]; exact h.1
  · rw [f1, f2]; exact h.2.1
theorem check_EQ {m m1 m2 : Nat → Nat → Int32} {b n : Int} (h : EQK m) (p : CKK b n (m 0 2).toInt (m 1 1).toInt (m1 1 1).toInt) (q : CKK b n (m1 123 0).toInt (m1 123 11).toInt (m2 123 11).toInt)
    (c1 : m1 123 0 = m 123 0) (c2 : m1 123 11 = m 123 11) (d1 : m2 0 7 = m 0 7) (d2 : m2 123 1 = m 123 1) (f1 : m2 0 2 = m 0 2) (f2 : m2 123 0 = m 123 0) (d4 : m2 1 1 = m1 1 1) (f5 : ∀ j, m2 2 j = m 2 j) (f6 : ∀ j, m2 129 j = m 129 j) : EQK m2 := by
  rw [c1, c2, ← h.2.1, ← h.2.2.1] at q
  have e3 := CKK_det p q
  refine EQK_end (tp := (m 1 1).toInt) (tp' := (m1 1 1).toInt) h ?_ ?_ (by rw [d4]) e3.symm rfl (CKK_le p) f5 f6
  · rw [d1, d2]; exact h.1
  · rw [f1, f2]; exact h.2.1
