/-! the class's places but for DAY, tape's bytes, number of BLANKS; and so with that number -/
def wT (a i : Nat) : Bool := wC a i || (a == 1 && i == 1)
def wU (a i : Nat) : Bool := wT a i || (a == 0 && i == 2)
theorem wC_wT : ∀ c i, wT c i = false → wC c i = false := by
  intro c i e
  unfold wT at e
  cases h : wC c i with
  | false => rfl
  | true => rw [h] at e; cases e
theorem wT_wU : ∀ c i, wU c i = false → wT c i = false := by
  intro c i e
  unfold wU at e
  cases h : wT c i with
  | false => rfl
  | true => rw [h] at e; cases e
theorem wC_wU : ∀ c i, wU c i = false → wC c i = false := fun c i e => wC_wT c i (wT_wU c i e)
theorem wT_in {a i : Nat} (h1 : 3 ≤ a) (h2 : a ≤ 122 ∨ 169 ≤ a) : wT a i = true := by unfold wT; rw [wC_in h1 h2]; rfl
theorem wU_in {a i : Nat} (h1 : 3 ≤ a) (h2 : a ≤ 122 ∨ 169 ≤ a) : wU a i = true := by unfold wU; rw [wT_in h1 h2]; rfl
theorem wr_wT {a b : Nat} (h1 : 3 ≤ a) (h2 : b ≤ 122 ∨ 169 ≤ a) : ∀ c i, wT c i = false → wl [(a, b, none)] c i = false := fun c i e => wr_wC h1 h2 c i (wC_wT c i e)
theorem wr_wU {a b : Nat} (h1 : 3 ≤ a) (h2 : b ≤ 122 ∨ 169 ≤ a) : ∀ c i, wU c i = false → wl [(a, b, none)] c i = false := fun c i e => wr_wC h1 h2 c i (wC_wU c i e)
theorem wl_wT {l : List (Nat × Nat × Option Nat)} (h : wl_okC l = true) : ∀ c i, wT c i = false → wl l c i = false := fun c i e => wl_wC h c i (wC_wT c i e)
theorem wl_wU {l : List (Nat × Nat × Option Nat)} (h : wl_okC l = true) : ∀ c i, wU c i = false → wl l c i = false := fun c i e => wl_wC h c i (wC_wU c i e)
