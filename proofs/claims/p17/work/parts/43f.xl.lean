theorem WX_wL : ∀ c i, wL c i = false → WX c i = false := lh_f WX_wF (fun c i h1 h2 => by
  cases hc : WX c i with
  | false => rfl
  | true =>
    have : 169 ≤ c := Nat.le_of_ble_eq_true hc
    omega)
