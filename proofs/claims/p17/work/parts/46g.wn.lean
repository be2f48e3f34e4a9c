/-! frames without what is kept of HIDDEN, with the tape's size, the number of BLANKS -/
def wP : Nat → Nat → Bool := lh wV
def wQ : Nat → Nat → Bool := lh wU
theorem wP_in {a i : Nat} (h1 : 77 ≤ a) (h2 : a ≤ 111 ∨ (116 ≤ a ∧ a ≤ 122) ∨ 169 ≤ a) : wP a i = true := lh_i (by omega) (wV_in h1 (by omega))
theorem wQ_in {a i : Nat} (h1 : 3 ≤ a) (h2 : a ≤ 111 ∨ (116 ≤ a ∧ a ≤ 122) ∨ 169 ≤ a) : wQ a i = true := lh_i (by omega) (wU_in h1 (by omega))
theorem wP_isW {a i : Nat} (h : isW a = true) : wP a i = false := lh_s (wV_isW h)
theorem wL_isW {a i : Nat} (h : isW a = true) : wL a i = false := lh_s (wF_isW h)
theorem wL_wT : ∀ c i, wT c i = false → wL c i = false := fun c i e => lh_s (wF_wT c i e)
