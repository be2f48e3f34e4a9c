/-! CHEAPEST: the table by PLACES and LETTERS ahead, none where it can't be; the path that keeps as early as can be -/
def mnO (x y : Option Int) : Option Int := match x with
  | none => y
  | some a => match y with
    | none => some a
    | some b => some (if a ≤ b then a else b)
def plO (c x : Option Int) : Option Int := match c with
  | none => none
  | some a => match x with
    | none => none
    | some b => some (b + a)
def enc (N : Int) (x : Option Int) : Int := match x with
  | none => N
  | some v => v
def ctv (r dd : Nat → Int32) (c : Nat → Option Int) (n0 n1 : Nat) : Nat → Nat → Option Int
  | 0, j => if j = n1 then some 0 else none
  | d + 1, j => mnO (if j < n1 ∧ r (n0 - (d + 1)) = dd j then ctv r dd c n0 n1 d (j + 1) else none) (plO (c (n0 - (d + 1))) (ctv r dd c n0 n1 d j))
def CB (c : Nat → Option Int) (n0 : Nat) : Prop := ∀ p, p < n0 → ∀ v, c p = some v → 0 ≤ v ∧ v ≤ 99
theorem mnO_some {x y : Option Int} {v : Int} (h : mnO x y = some v) : (x = some v ∧ ∀ w, y = some w → v ≤ w) ∨ (y = some v ∧ ∀ w, x = some w → v ≤ w) := by
  unfold mnO at h
  cases x with
  | none => exact Or.inr ⟨h, fun w q => by cases q⟩
  | some a =>
    cases y with
    | none => exact Or.inl ⟨h, fun w q => by cases q⟩
    | some b =>
      have h : some (if a ≤ b then a else b) = some v := h
      by_cases z : a ≤ b
      · rw [if_pos z] at h
        cases h
        exact Or.inl ⟨rfl, fun w q => by cases q; exact z⟩
      · rw [if_neg z] at h
        cases h
        exact Or.inr ⟨rfl, fun w q => by cases q; omega⟩
theorem plO_some {c x : Option Int} {v : Int} (h : plO c x = some v) : ∃ a b, c = some a ∧ x = some b ∧ v = b + a := by
  cases c with
  | none => cases h
  | some a =>
    cases x with
    | none => cases h
    | some b => cases h; exact ⟨a, b, rfl, rfl, rfl⟩
section CT
variable {r dd r2 dd2 : Nat → Int32} {c c2 : Nat → Option Int} {n0 n1 : Nat}
theorem ctv_b (h : CB c n0) : ∀ d, d ≤ n0 → ∀ j v, ctv r dd c n0 n1 d j = some v → 0 ≤ v ∧ v ≤ 99 * d
  | 0, _, j, v, e => by
    have e : (if j = n1 then some (0 : Int) else none) = some v := e
    by_cases z : j = n1
    · rw [if_pos z] at e; cases e; omega
    · rw [if_neg z] at e; cases e
  | d + 1, hd, j, v, e => by
    have e : mnO (if j < n1 ∧ r (n0 - (d + 1)) = dd j then ctv r dd c n0 n1 d (j + 1) else none) (plO (c (n0 - (d + 1))) (ctv r dd c n0 n1 d j)) = some v := e
    rcases mnO_some e with ⟨q, _⟩ | ⟨q, _⟩
    · by_cases z : j < n1 ∧ r (n0 - (d + 1)) = dd j
      · rw [if_pos z] at q
        have := ctv_b h d (by omega) _ _ q
        omega
      · rw [if_neg z] at q; cases q
    · obtain ⟨a, b, h1, h2, h3⟩ := plO_some q
      have b1 := ctv_b h d (by omega) _ _ h2
      have b2 := h _ (by omega) _ h1
      omega
theorem ctv_eq (hr : ∀ p, p < n0 → r2 p = r p) (hd : ∀ j, j < n1 → dd2 j = dd j) (hc : ∀ p, p < n0 → c2 p = c p) : ∀ d, d ≤ n0 → ∀ j, ctv r2 dd2 c2 n0 n1 d j = ctv r dd c n0 n1 d j
  | 0, _, _ => rfl
  | d + 1, h, j => by
    show mnO (if j < n1 ∧ r2 (n0 - (d + 1)) = dd2 j then ctv r2 dd2 c2 n0 n1 d (j + 1) else none) (plO (c2 (n0 - (d + 1))) (ctv r2 dd2 c2 n0 n1 d j)) = mnO (if j < n1 ∧ r (n0 - (d + 1)) = dd j then ctv r dd c n0 n1 d (j + 1) else none) (plO (c (n0 - (d + 1))) (ctv r dd c n0 n1 d j))
    rw [ctv_eq hr hd hc d (by omega), ctv_eq hr hd hc d (by omega), hr _ (by omega), hc _ (by omega)]
    by_cases z : j < n1
    · rw [hd j z]
    · rw [if_neg (fun q => z q.1), if_neg (fun q => z q.1)]
/-- at a PLACE the LETTER ahead is kept -/
def kpp (r dd : Nat → Int32) (c : Nat → Option Int) (n0 n1 p j : Nat) : Prop := j < n1 ∧ r p = dd j ∧ ctv r dd c n0 n1 (n0 - (p + 1)) (j + 1) = ctv r dd c n0 n1 (n0 - p) j
noncomputable def jtp (r dd : Nat → Int32) (c : Nat → Option Int) (n0 n1 : Nat) : Nat → Nat
  | 0 => 0
  | p + 1 => @ite _ (kpp r dd c n0 n1 p (jtp r dd c n0 n1 p)) (Classical.propDecidable _) (jtp r dd c n0 n1 p + 1) (jtp r dd c n0 n1 p)
theorem jtp_y {p : Nat} (h : kpp r dd c n0 n1 p (jtp r dd c n0 n1 p)) : jtp r dd c n0 n1 (p + 1) = jtp r dd c n0 n1 p + 1 := @if_pos _ (Classical.propDecidable _) h _ _ _
theorem jtp_n {p : Nat} (h : ¬ kpp r dd c n0 n1 p (jtp r dd c n0 n1 p)) : jtp r dd c n0 n1 (p + 1) = jtp r dd c n0 n1 p := @if_neg _ (Classical.propDecidable _) h _ _ _
/-- the path never leaves what can be -/
theorem jtp_ok (h : ctv r dd c n0 n1 n0 0 ≠ none) : ∀ p, p ≤ n0 → ctv r dd c n0 n1 (n0 - p) (jtp r dd c n0 n1 p) ≠ none
  | 0, _ => h
  | p + 1, hp => by
    have ih := jtp_ok h p (by omega)
    by_cases z : kpp r dd c n0 n1 p (jtp r dd c n0 n1 p)
    · rw [jtp_y z, z.2.2]; exact ih
    · rw [jtp_n z]
      intro q
      have e : n0 - p = (n0 - (p + 1)) + 1 := by omega
      rw [e] at ih
      cases hv : ctv r dd c n0 n1 ((n0 - (p + 1)) + 1) (jtp r dd c n0 n1 p) with
      | none => exact ih hv
      | some v =>
        have hv2 : mnO (if jtp r dd c n0 n1 p < n1 ∧ r (n0 - ((n0 - (p + 1)) + 1)) = dd (jtp r dd c n0 n1 p) then ctv r dd c n0 n1 (n0 - (p + 1)) (jtp r dd c n0 n1 p + 1) else none) (plO (c (n0 - ((n0 - (p + 1)) + 1))) (ctv r dd c n0 n1 (n0 - (p + 1)) (jtp r dd c n0 n1 p))) = some v := hv
        rw [q] at hv2
        rcases mnO_some hv2 with ⟨y, _⟩ | ⟨y, _⟩
        · by_cases x : jtp r dd c n0 n1 p < n1 ∧ r (n0 - ((n0 - (p + 1)) + 1)) = dd (jtp r dd c n0 n1 p)
          · rw [if_pos x] at y
            exact z ⟨x.1, by rw [show n0 - ((n0 - (p + 1)) + 1) = p by omega] at x; exact x.2, by rw [e, hv, y]⟩
          · rw [if_neg x] at y; cases y
        · obtain ⟨a, b, _, h2, _⟩ := plO_some y
          cases h2
/-- what is not kept can be struck -/
theorem jtp_free (h : ctv r dd c n0 n1 n0 0 ≠ none) {p : Nat} (hp : p < n0) (z : ¬ kpp r dd c n0 n1 p (jtp r dd c n0 n1 p)) : c p ≠ none := by
  have ih := jtp_ok h p (by omega)
  intro q
  have e : n0 - p = (n0 - (p + 1)) + 1 := by omega
  rw [e] at ih
  cases hv : ctv r dd c n0 n1 ((n0 - (p + 1)) + 1) (jtp r dd c n0 n1 p) with
  | none => exact ih hv
  | some v =>
    have hv2 : mnO (if jtp r dd c n0 n1 p < n1 ∧ r (n0 - ((n0 - (p + 1)) + 1)) = dd (jtp r dd c n0 n1 p) then ctv r dd c n0 n1 (n0 - (p + 1)) (jtp r dd c n0 n1 p + 1) else none) (plO (c (n0 - ((n0 - (p + 1)) + 1))) (ctv r dd c n0 n1 (n0 - (p + 1)) (jtp r dd c n0 n1 p))) = some v := hv
    rw [show n0 - ((n0 - (p + 1)) + 1) = p by omega, q] at hv2
    rcases mnO_some hv2 with ⟨y, _⟩ | ⟨y, _⟩
    · by_cases x : jtp r dd c n0 n1 p < n1 ∧ r p = dd (jtp r dd c n0 n1 p)
      · rw [if_pos x] at y
        exact z ⟨x.1, x.2, by rw [e, hv, y]⟩
      · rw [if_neg x] at y; cases y
    · cases y
theorem jtp_end (h : ctv r dd c n0 n1 n0 0 ≠ none) : jtp r dd c n0 n1 n0 = n1 := by
  have q := jtp_ok h n0 (Nat.le_refl _)
  rw [Nat.sub_self] at q
  by_cases z : jtp r dd c n0 n1 n0 = n1
  · exact z
  · exact absurd (if_neg z) q
theorem jtp_le : ∀ p, jtp r dd c n0 n1 p ≤ n1 ∧ jtp r dd c n0 n1 p ≤ p
  | 0 => ⟨Nat.zero_le _, Nat.le_refl _⟩
  | p + 1 => by
    have ih := jtp_le p
    by_cases z : kpp r dd c n0 n1 p (jtp r dd c n0 n1 p)
    · rw [jtp_y z]; have := z.1; omega
    · rw [jtp_n z]; omega
theorem jtp_up : ∀ (d p : Nat), jtp r dd c n0 n1 p ≤ jtp r dd c n0 n1 (p + d)
  | 0, p => Nat.le_refl _
  | d + 1, p => by
    have ih := jtp_up d p
    rw [← Nat.add_assoc]
    by_cases z : kpp r dd c n0 n1 (p + d) (jtp r dd c n0 n1 (p + d))
    · rw [jtp_y z]; omega
    · rw [jtp_n z]; exact ih
/-- where the LETTERS that stay stand -/
def STS (r dd : Nat → Int32) (c : Nat → Option Int) (n0 n1 : Nat) (f : Nat → Int32) : Prop := ∀ p, p < n0 → kpp r dd c n0 n1 p (jtp r dd c n0 n1 p) → (f (jtp r dd c n0 n1 p)).toInt = p
theorem jtp_hit (h : ctv r dd c n0 n1 n0 0 ≠ none) : ∀ (q j : Nat), q ≤ n0 → j < jtp r dd c n0 n1 q → ∃ p, p < q ∧ jtp r dd c n0 n1 p = j ∧ kpp r dd c n0 n1 p (jtp r dd c n0 n1 p)
  | 0, j, _, hj => absurd hj (Nat.not_lt_zero _)
  | q + 1, j, hq, hj => by
    by_cases z : kpp r dd c n0 n1 q (jtp r dd c n0 n1 q)
    · rw [jtp_y z] at hj
      by_cases y : j = jtp r dd c n0 n1 q
      · exact ⟨q, by omega, y.symm, z⟩
      · obtain ⟨p, p1, p2, p3⟩ := jtp_hit h q j (by omega) (by omega)
        exact ⟨p, by omega, p2, p3⟩
    · rw [jtp_n z] at hj
      obtain ⟨p, p1, p2, p3⟩ := jtp_hit h q j (by omega) hj
      exact ⟨p, by omega, p2, p3⟩
theorem STS_at {f : Nat → Int32} (h : ctv r dd c n0 n1 n0 0 ≠ none) (s : STS r dd c n0 n1 f) {j : Nat} (hj : j < n1) : ∃ p, p < n0 ∧ jtp r dd c n0 n1 p = j ∧ kpp r dd c n0 n1 p j ∧ (f j).toInt = p := by
  obtain ⟨p, p1, p2, p3⟩ := jtp_hit h n0 j (Nat.le_refl _) (by rw [jtp_end h]; exact hj)
  have := s p p1 p3
  rw [p2] at this p3
  exact ⟨p, p1, p2, p3, this⟩
theorem STS_det {f g : Nat → Int32} (h : ctv r dd c n0 n1 n0 0 ≠ none) (s : STS r dd c n0 n1 f) (t : STS r dd c n0 n1 g) {j : Nat} (hj : j < n1) : f j = g j := by
  obtain ⟨p, p1, p2, p3⟩ := jtp_hit h n0 j (Nat.le_refl _) (by rw [jtp_end h]; exact hj)
  have a := s p p1 p3
  have b := t p p1 p3
  rw [p2] at a b
  exact Int32.toInt_inj.mp (a.trans b.symm)
theorem STS_up {f : Nat → Int32} (h : ctv r dd c n0 n1 n0 0 ≠ none) (s : STS r dd c n0 n1 f) {j : Nat} (hj : j + 1 < n1) : (f j).toInt < (f (j + 1)).toInt := by
  obtain ⟨p, p1, p2, p3, p4⟩ := STS_at h s (show j < n1 by omega)
  obtain ⟨q, q1, q2, q3, q4⟩ := STS_at h s hj
  have : p < q := by
    by_cases z : q ≤ p
    · obtain ⟨d, hd⟩ : ∃ d, p = q + d := ⟨p - q, by omega⟩
      have := jtp_up (r := r) (dd := dd) (c := c) (n0 := n0) (n1 := n1) d q
      rw [← hd] at this
      omega
    · omega
  omega
/-- what lies between those that stay can be struck -/
theorem STS_gap {f : Nat → Int32} (h : ctv r dd c n0 n1 n0 0 ≠ none) (s : STS r dd c n0 n1 f) {p : Nat} (hp : p < n0) (hn : ∀ j, j < n1 → (f j).toInt ≠ p) : c p ≠ none := jtp_free h hp (fun z => hn _ z.1 (s p hp z))
end CT
/-- what choosing answers -/
def CHO (r dd : Nat → Int32) (c : Nat → Option Int) (n0 n1 : Nat) (f : Nat → Int32) (v : Int) : Prop := (ctv r dd c n0 n1 n0 0 = none ∧ v = -1) ∨ (∃ u, ctv r dd c n0 n1 n0 0 = some u ∧ v = u ∧ 0 ≤ u ∧ STS r dd c n0 n1 f)
theorem CHO_y {r dd : Nat → Int32} {c : Nat → Option Int} {n0 n1 : Nat} {f : Nat → Int32} {v : Int} (h : CHO r dd c n0 n1 f v) (hv : v ≠ -1) : ∃ u, ctv r dd c n0 n1 n0 0 = some u ∧ v = u ∧ 0 ≤ u ∧ STS r dd c n0 n1 f := h.resolve_left (fun q => hv q.2)
theorem CHO_n {r dd : Nat → Int32} {c : Nat → Option Int} {n0 n1 : Nat} {f : Nat → Int32} {v : Int} (h : CHO r dd c n0 n1 f v) (hv : v = -1) : ctv r dd c n0 n1 n0 0 = none := by
  rcases h with ⟨h1, _⟩ | ⟨u, _, h2, h3, _⟩
  · exact h1
  · omega
