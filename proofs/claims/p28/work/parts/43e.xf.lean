theorem WX_wF : ∀ c i, wF c i = false → WX c i = false := by
  intro c i e
  cases hc : WX c i with
  | false => rfl
  | true =>
    have : 169 ≤ c := Nat.le_of_ble_eq_true hc
    rw [wF_in (by omega) (by omega)] at e
    cases e
