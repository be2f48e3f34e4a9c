/-! a LAW told: what becomes of both Law objects -/
def LWZ (m M : Nat → Nat → Int32) (la lb : Nat) (t : Int → Int) (r r1 : Nat → Value) (v : Int) : Prop := (v < 0 ∧ r1 1 = r 1 ∧ r1 3 = r 3 ∧ M la 2 = m la 2 ∧ M la 7 = m la 7 ∧ ∀ a i, la < a → a ≤ la + 6 → M a i = m a i) ∨ (0 ≤ v ∧ r1 1 = .ref lb ∧ r1 3 = .ref la ∧ LAWc M lb t v.toNat ∧ (M lb 7).toInt = v)
def LWY (m M : Nat → Nat → Int32) (la lb : Nat) (t : Int → Int) (v : Int) : Prop := (M la 2 = m la 2 ∧ M la 7 = m la 7 ∧ ∀ a i, la < a → a ≤ la + 6 → M a i = m a i) ∧ (0 ≤ v → LAWc M lb t v.toNat ∧ (M lb 7).toInt = v)
theorem wR_out {lb a i : Nat} (h : (a < lb ∨ lb + 8 < a) ∧ a ≠ 87 ∧ a ≠ 86) : wR lb a i = false := by
  cases hc : wR lb a i with
  | false => rfl
  | true =>
    unfold wR at hc
    simp only [Bool.or_eq_true, Bool.and_eq_true, beq_iff_eq, Nat.ble_eq] at hc
    omega
theorem LWZ_h {m M1 M : Nat → Nat → Int32} {la lb : Nat} {t : Int → Int} {v : Int} (zl : la = 77 ∨ la = 88) (zb : lb = 77 ∨ lb = 88) (hne : la ≠ lb) (f : fr (wR lb) m M1) (e : ∀ a i, ¬ (a = 1 ∧ i = 1) → M a i = M1 a i) (k : RDZ t lb M1 v) : LWY m M la lb t v := by
  refine ⟨⟨?_, ?_, fun a i h1 h2 => ?_⟩, fun hv => ?_⟩
  · rw [e _ _ (by omega)]; exact f _ _ (wR_out (by omega))
  · rw [e _ _ (by omega)]; exact f _ _ (wR_out (by omega))
  · rw [e _ _ (by omega)]; exact f _ _ (wR_out (by omega))
  · obtain ⟨k1, k2⟩ := k hv
    exact ⟨LAWc_m k1 (e _ _ (by omega)) (fun a j h1 h2 => e _ _ (by omega)), by rw [e _ _ (by omega)]; exact k2⟩
theorem LWZ_0 {m M : Nat → Nat → Int32} {la lb : Nat} {t : Int → Int} {r r1 : Nat → Value} {v : Int} (hv : v < 0) (h1 : r1 1 = r 1) (h3 : r1 3 = r 3) (e : ∀ a i, M a i = m a i) : LWZ m M la lb t r r1 v := Or.inl ⟨hv, h1, h3, e _ _, e _ _, fun a i _ _ => e a i⟩
theorem LWZ_no {m M : Nat → Nat → Int32} {la lb : Nat} {t : Int → Int} {r r1 : Nat → Value} {v : Int} (hv : v < 0) (k : LWY m M la lb t v) (h1 : r1 1 = r 1) (h3 : r1 3 = r 3) : LWZ m M la lb t r r1 v := Or.inl ⟨hv, h1, h3, k.1.1, k.1.2.1, k.1.2.2⟩
theorem LWZ_yes {m M : Nat → Nat → Int32} {la lb : Nat} {t : Int → Int} {r r1 : Nat → Value} {v : Int} (hv : 0 ≤ v) (k : LWY m M la lb t v) (h1 : r1 1 = .ref lb) (h3 : r1 3 = .ref la) : LWZ m M la lb t r r1 v := Or.inr ⟨hv, h1, h3, (k.2 hv).1, (k.2 hv).2⟩
theorem wR_wPl {lb : Nat} (h : lb = 77 ∨ lb = 88) : ∀ c i, wPl c i = false → wR lb c i = false := by
  intro c i e
  cases hc : wR lb c i with
  | false => rfl
  | true =>
    unfold wR at hc
    simp only [Bool.or_eq_true, Bool.and_eq_true, beq_iff_eq, Nat.ble_eq] at hc
    have z : wPl c i = true := wg_in (Or.inr ⟨(77, 96, none), by decide, by show 77 ≤ c; omega, by show c ≤ 96; omega, Or.inl rfl⟩)
    rw [z] at e
    cases e
