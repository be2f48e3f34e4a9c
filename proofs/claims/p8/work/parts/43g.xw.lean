/-! what is made later lies in each such frame -/
theorem WX_wg {L : List (Nat × Nat × Option Nat)} : ∀ c i, wg L c i = false → WX c i = false := by
  intro c i e
  cases hc : WX c i with
  | false => rfl
  | true =>
    have : 169 ≤ c := Nat.le_of_ble_eq_true hc
    rw [wg_in (Or.inl this)] at e
    cases e
theorem WX_wN : ∀ c i, wN c i = false → WX c i = false := WX_wg
