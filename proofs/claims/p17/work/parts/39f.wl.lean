/-! the same places without what is kept of HIDDEN -/
def lh (w : Nat → Nat → Bool) (a i : Nat) : Bool := !(Nat.ble 112 a && Nat.ble a 115) && w a i
theorem lh_s {w : Nat → Nat → Bool} {a i : Nat} (h : w a i = false) : lh w a i = false := by unfold lh; rw [h, Bool.and_false]
theorem lh_no {a : Nat} (h : a < 112 ∨ 116 ≤ a) : (Nat.ble 112 a && Nat.ble a 115) = false := by
  cases hc : (Nat.ble 112 a && Nat.ble a 115) with
  | false => rfl
  | true =>
    simp only [Bool.and_eq_true, Nat.ble_eq] at hc
    omega
theorem lh_i {w : Nat → Nat → Bool} {a i : Nat} (ha : a < 112 ∨ 116 ≤ a) (h : w a i = true) : lh w a i = true := by
  unfold lh
  rw [h, lh_no ha]
  rfl
theorem lh_hi {w : Nat → Nat → Bool} {a i : Nat} (h1 : 112 ≤ a) (h2 : a ≤ 115) : lh w a i = false := by
  unfold lh
  rw [Nat.ble_eq_true_of_le h1, Nat.ble_eq_true_of_le h2]
  rfl
theorem lh_f {w v : Nat → Nat → Bool} (h : ∀ c i, w c i = false → v c i = false) (hv : ∀ c i, 112 ≤ c → c ≤ 115 → v c i = false) : ∀ c i, lh w c i = false → v c i = false := by
  intro c i e
  by_cases z : c < 112 ∨ 116 ≤ c
  · refine h c i ?_
    cases hw : w c i with
    | false => rfl
    | true => rw [lh_i z hw] at e; cases e
  · exact hv c i (by omega) (by omega)
theorem lh_l {w : Nat → Nat → Bool} {l : List (Nat × Nat × Option Nat)} (h : ∀ c i, w c i = false → wl l c i = false) (hl : l.all (fun q => Nat.ble q.2.1 111 || Nat.ble 116 q.1) = true) : ∀ c i, lh w c i = false → wl l c i = false := by
  refine lh_f h (fun c i h1 h2 => ?_)
  cases hz : wl l c i with
  | false => rfl
  | true =>
    obtain ⟨q, hq, h1⟩ := wl_mem.mp hz
    have h2 := List.all_eq_true.mp hl q hq
    obtain ⟨q1, q2, q3⟩ := q
    simp only [wl1, Bool.and_eq_true, Nat.ble_eq] at h1
    simp only [Bool.or_eq_true, Nat.ble_eq] at h2
    omega
theorem lh_r {w : Nat → Nat → Bool} {a b : Nat} (h : ∀ c i, w c i = false → wl [(a, b, none)] c i = false) (hb : b ≤ 111 ∨ 116 ≤ a) : ∀ c i, lh w c i = false → wl [(a, b, none)] c i = false :=
  lh_l h (by simp only [List.all_cons, List.all_nil, Bool.and_true, Bool.or_eq_true, Nat.ble_eq]; exact hb)
theorem lh_g {w v : Nat → Nat → Bool} (h : ∀ c i, w c i = false → v c i = false) : ∀ c i, lh w c i = false → lh v c i = false :=
  lh_f (fun c i e => lh_s (h c i e)) (fun _ _ h1 h2 => lh_hi h1 h2)
def wL : Nat → Nat → Bool := lh wF
theorem wL_wF : ∀ c i, wF c i = false → wL c i = false := fun _ _ e => lh_s e
theorem wL_wA : ∀ c i, wA c i = false → wL c i = false := fun c i e => lh_s (wF_wA c i e)
theorem wL_in {a i : Nat} (h1 : 77 ≤ a) (h2 : a ≤ 111 ∨ (116 ≤ a ∧ a ≤ 122) ∨ 169 ≤ a) : wL a i = true := lh_i (by omega) (wF_in h1 (by omega))
