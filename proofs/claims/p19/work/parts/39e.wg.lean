/-! the same places without what is made when THE SHORTEST is first asked for -/
def lc (w : Nat → Nat → Bool) (a i : Nat) : Bool := Nat.ble a 122 && w a i
theorem lc_s {w : Nat → Nat → Bool} {a i : Nat} (h : w a i = false) : lc w a i = false := by unfold lc; rw [h, Bool.and_false]
theorem lc_i {w : Nat → Nat → Bool} {a i : Nat} (ha : a ≤ 122) (h : w a i = true) : lc w a i = true := by
  unfold lc
  rw [h, Bool.and_true]
  exact Nat.ble_eq_true_of_le ha
theorem lc_hi {w : Nat → Nat → Bool} {a i : Nat} (ha : 123 ≤ a) : lc w a i = false := by
  unfold lc
  cases h : Nat.ble a 122 with
  | false => rfl
  | true => have := Nat.le_of_ble_eq_true h; omega
theorem lc_f {w v : Nat → Nat → Bool} (h : ∀ c i, w c i = false → v c i = false) (hv : ∀ c i, 123 ≤ c → v c i = false) : ∀ c i, lc w c i = false → v c i = false := by
  intro c i e
  by_cases z : c ≤ 122
  · refine h c i ?_
    cases hw : w c i with
    | false => rfl
    | true => rw [lc_i z hw] at e; cases e
  · exact hv c i (by omega)
theorem lc_l {w : Nat → Nat → Bool} {l : List (Nat × Nat × Option Nat)} (h : ∀ c i, w c i = false → wl l c i = false) (hl : l.all (fun q => Nat.ble q.2.1 122) = true) : ∀ c i, lc w c i = false → wl l c i = false := by
  refine lc_f h (fun c i hc => ?_)
  cases hz : wl l c i with
  | false => rfl
  | true =>
    obtain ⟨q, hq, h1⟩ := wl_mem.mp hz
    have h2 := List.all_eq_true.mp hl q hq
    obtain ⟨q1, q2, q3⟩ := q
    simp only [wl1, Bool.and_eq_true, Nat.ble_eq] at h1
    simp only [Nat.ble_eq] at h2
    omega
theorem lc_r {w : Nat → Nat → Bool} {a b : Nat} (h : ∀ c i, w c i = false → wl [(a, b, none)] c i = false) (hb : b ≤ 122) : ∀ c i, lc w c i = false → wl [(a, b, none)] c i = false :=
  lc_l h (by simp only [List.all_cons, List.all_nil, Bool.and_true]; exact Nat.ble_eq_true_of_le hb)
theorem lc_g {w v : Nat → Nat → Bool} (h : ∀ c i, w c i = false → v c i = false) : ∀ c i, lc w c i = false → lc v c i = false :=
  lc_f (fun c i e => lc_s (h c i e)) (fun _ _ hc => lc_hi hc)
def wG : Nat → Nat → Bool := lc wF
theorem wG_wF : ∀ c i, wF c i = false → wG c i = false := fun _ _ e => lc_s e
theorem wG_wA : ∀ c i, wA c i = false → wG c i = false := fun c i e => lc_s (wF_wA c i e)
theorem wG_in {a i : Nat} (h1 : 77 ≤ a) (h2 : a ≤ 122) : wG a i = true := lc_i h2 (wF_in h1 (Or.inl h2))
