/-! the class's places but for DAY, tape, number of BLANKS, and the rows that are told: DEEDS, BLANKS as written -/
def isW (a : Nat) : Bool := (Nat.ble 61 a && Nat.ble a 76) || (Nat.ble 5 a && Nat.ble a 59 && (a % 7 == 5 || a % 7 == 6))
def wF (a i : Nat) : Bool := wC a i && !isW a
theorem isW_no {a : Nat} (h : 77 ≤ a ∨ (a ≤ 59 ∧ a % 7 ≠ 5 ∧ a % 7 ≠ 6)) : isW a = false := by
  cases hc : isW a with
  | false => rfl
  | true =>
    simp only [isW, Bool.or_eq_true, Bool.and_eq_true, Nat.ble_eq, beq_iff_eq] at hc
    omega
theorem wF_of {a i : Nat} (h1 : 3 ≤ a) (h2 : a ≤ 122 ∨ 169 ≤ a) (h : 77 ≤ a ∨ (a ≤ 59 ∧ a % 7 ≠ 5 ∧ a % 7 ≠ 6)) : wF a i = true := by
  unfold wF
  rw [wC_in h1 h2, isW_no h]
  rfl
theorem wF_in {a i : Nat} (h1 : 77 ≤ a) (h2 : a ≤ 122 ∨ 169 ≤ a) : wF a i = true := wF_of (by omega) h2 (Or.inl h1)
theorem wF_wC : ∀ c i, wC c i = false → wF c i = false := by
  intro c i e
  unfold wF
  rw [e]
  rfl
theorem wF_wA : ∀ c i, wA c i = false → wF c i = false := fun c i e => wF_wC c i (wC_wA c i e)
theorem wr_wF {a b : Nat} (h1 : 77 ≤ a) (h2 : b ≤ 122 ∨ 169 ≤ a) : ∀ c i, wF c i = false → wl [(a, b, none)] c i = false := by
  intro c i e
  cases hc : wl [(a, b, none)] c i with
  | false => rfl
  | true =>
    simp only [wl, wl1, Bool.or_eq_true, Bool.and_eq_true, Nat.ble_eq] at hc
    rcases hc with hc | hc
    · rw [wF_in (by omega) (by omega)] at e
      cases e
    · cases hc
theorem wr_wFb {b : Nat} (h1 : b % 7 = 4) (h2 : 4 ≤ b) (h3 : b ≤ 53) : ∀ c i, wF c i = false → wl [(b + 3, b + 6, none)] c i = false := by
  intro c i e
  cases hc : wl [(b + 3, b + 6, none)] c i with
  | false => rfl
  | true =>
    simp only [wl, wl1, Bool.or_eq_true, Bool.and_eq_true, Nat.ble_eq] at hc
    rcases hc with hc | hc
    · rw [wF_of (by omega) (by omega) (by omega)] at e
      cases e
    · cases hc
def wl_okF (l : List (Nat × Nat × Option Nat)) : Bool := wl_okC l && l.all (fun q => (match q with
  | (0, 0, some _) => true
  | (1, 1, some _) => true
  | (a, _, _) => Nat.ble 77 a))
theorem wl_wF {l : List (Nat × Nat × Option Nat)} (h : wl_okF l = true) : ∀ a i, wF a i = false → wl l a i = false := by
  intro a i e
  unfold wl_okF at h
  rw [Bool.and_eq_true] at h
  cases hw : wC a i with
  | false => exact wl_wC h.1 a i hw
  | true =>
    have hW : isW a = true := by
      cases hq : isW a with
      | true => rfl
      | false => unfold wF at e; rw [hw, hq] at e; cases e
    cases hc : wl l a i with
    | false => rfl
    | true =>
      obtain ⟨q, hq, h1⟩ := wl_mem.mp hc
      have h2 := List.all_eq_true.mp h.2 q hq
      obtain ⟨q1, q2, q3⟩ := q
      simp only [wl1, Bool.and_eq_true, Nat.ble_eq] at h1
      simp only [isW, Bool.or_eq_true, Bool.and_eq_true, Nat.ble_eq, beq_iff_eq] at hW
      split at h2
      · rename_i heq
        simp only [Prod.mk.injEq] at heq
        omega
      · rename_i heq
        simp only [Prod.mk.injEq] at heq
        omega
      · rename_i a' b' x' _ _ heq
        simp only [Prod.mk.injEq] at heq
        simp only [Nat.ble_eq] at h2
        omega
