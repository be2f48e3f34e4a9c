/-! frames without what is made when THE SHORTEST is first asked for, with the tape's size, the number of BLANKS -/
def wH : Nat → Nat → Bool := lc wV
def wJ : Nat → Nat → Bool := lc wU
def wK : Nat → Nat → Bool := lc wT
theorem wH_in {a i : Nat} (h1 : 77 ≤ a) (h2 : a ≤ 122) : wH a i = true := lc_i h2 (wV_in h1 (Or.inl h2))
theorem wJ_in {a i : Nat} (h1 : 3 ≤ a) (h2 : a ≤ 122) : wJ a i = true := lc_i h2 (wU_in h1 (Or.inl h2))
theorem wK_in {a i : Nat} (h1 : 3 ≤ a) (h2 : a ≤ 122) : wK a i = true := lc_i h2 (wT_in h1 (Or.inl h2))
theorem wH_isW {a i : Nat} (h : isW a = true) : wH a i = false := lc_s (wV_isW h)
theorem wG_isW {a i : Nat} (h : isW a = true) : wG a i = false := lc_s (wF_isW h)
