/-! the class's places but for DAY -/
def wB (a i : Nat) : Bool := (Nat.ble a 122 || Nat.ble 169 a) && !(a == 0 && i == 7)
theorem wB_in {a i : Nat} (h1 : 3 ≤ a) (h2 : a ≤ 122 ∨ 169 ≤ a) : wB a i = true := by
  have h3 : (a == 0 && i == 7) = false := by
    have : (a == 0) = false := by simp; omega
    rw [this]; rfl
  simp only [wB, h3, Bool.not_false, Bool.and_true, Bool.or_eq_true, Nat.ble_eq]
  exact h2
theorem wB_wA : ∀ c i, wA c i = false → wB c i = false := by
  intro c i e
  have e2 : (Nat.ble c 122 || Nat.ble 169 c) = false := e
  simp only [wB, e2, Bool.false_and]
theorem wC_wB : ∀ c i, wB c i = false → wC c i = false := by
  intro c i e
  cases hb : (Nat.ble c 122 || Nat.ble 169 c) with
  | false => simp only [wC, hb, Bool.false_and]
  | true =>
    have : (c == 0 && i == 7) = true := by
      cases hq : (c == 0 && i == 7) with
      | true => rfl
      | false => simp [wB, hb, hq] at e
    simp only [Bool.and_eq_true, beq_iff_eq] at this
    obtain ⟨rfl, rfl⟩ := this
    rfl
theorem wr_wB {a b : Nat} (h1 : 3 ≤ a) (h2 : b ≤ 122 ∨ 169 ≤ a) : ∀ c i, wB c i = false → wl [(a, b, none)] c i = false := by
  intro c i e
  exact wr_wC h1 h2 c i (wC_wB c i e)
def wl_okB (l : List (Nat × Nat × Option Nat)) : Bool := l.all (fun q => (match q with
  | (0, 0, some k) => !(k == 7)
  | (a, b, _) => Nat.ble 1 a && (Nat.ble b 122 || Nat.ble 169 a)))
theorem wl_wB {l : List (Nat × Nat × Option Nat)} (h : wl_okB l = true) : ∀ a i, wB a i = false → wl l a i = false := by
  intro a i e
  cases hc : wl l a i with
  | false => rfl
  | true =>
    obtain ⟨q, hq, h1⟩ := wl_mem.mp hc
    have h2 := List.all_eq_true.mp h q hq
    obtain ⟨q1, q2, q3⟩ := q
    simp only [wl1, Bool.and_eq_true, Nat.ble_eq] at h1
    split at h2
    · rename_i k heq
      simp only [Prod.mk.injEq] at heq
      obtain ⟨rfl, rfl, rfl⟩ := heq
      have ha : a = 0 := by omega
      subst ha
      simp at h1 h2
      have h3 : wB 0 i = true := by simp [wB]; omega
      rw [h3] at e; cases e
    · rename_i a' b' x' _ heq
      simp only [Prod.mk.injEq] at heq
      obtain ⟨rfl, rfl, rfl⟩ := heq
      simp only [Bool.and_eq_true, Bool.or_eq_true, Nat.ble_eq] at h2
      have ha0 : (a == 0 && i == 7) = false := by
        have : (a == 0) = false := by simp; omega
        rw [this]; rfl
      have h3 : wB a i = true := by
        simp only [wB, ha0, Bool.not_false, Bool.and_true, Bool.or_eq_true, Nat.ble_eq]
        omega
      rw [h3] at e; cases e
