/-! a STROKE, on both sides -/
theorem up2_rw {m : Nat → Nat → Int32} {a i w : Nat} {v : Int32} : up2 m a i v a w = if w = i then v else m a w := by
  by_cases h : w = i
  · subst h; rw [if_pos rfl]; exact up2_eq _ _ _ _
  · rw [if_neg h]; exact up2_ne (fun q => h q.2)
theorem wl_lt {l : List (Nat × Nat × Option Nat)} {a i N : Nat} (h : l.all (fun q => Nat.ble (N + 1) q.1) = true) (ha : a ≤ N) : wl l a i = false := by
  cases hc : wl l a i with
  | false => rfl
  | true =>
    obtain ⟨q, hq, h1⟩ := wl_mem.mp hc
    have h2 := List.all_eq_true.mp h q hq
    obtain ⟨q1, q2, q3⟩ := q
    simp only [wl1, Bool.and_eq_true, Nat.ble_eq] at h1
    simp only [Nat.ble_eq] at h2
    omega
/-- a row with some places changed -/
def mkd (S : Nat → Int32) (f : Nat → Nat) (v : Int32) : Nat → Nat → Int32
  | 0, w => S w
  | k + 1, w => if w = f k then v else mkd S f v k w
theorem mkd_s {S : Nat → Int32} {f : Nat → Nat} {v : Int32} {k w : Nat} : mkd S f v (k + 1) w = if w = f k then v else mkd S f v k w := rfl
theorem mkd_no {S : Nat → Int32} {f : Nat → Nat} {v : Int32} {w : Nat} : ∀ k, (∀ i, i < k → w ≠ f i) → mkd S f v k w = S w
  | 0, _ => rfl
  | k + 1, h => by rw [mkd_s, if_neg (h k (by omega))]; exact mkd_no k (fun i hi => h i (by omega))
theorem mkd_y {S : Nat → Int32} {f : Nat → Nat} {v : Int32} {w : Nat} : ∀ k, (∃ i, i < k ∧ w = f i) → mkd S f v k w = v
  | 0, ⟨i, hi, _⟩ => absurd hi (by omega)
  | k + 1, ⟨i, hi, e⟩ => by
    rw [mkd_s]
    by_cases h : w = f k
    · rw [if_pos h]
    · rw [if_neg h]
      refine mkd_y k ⟨i, ?_, e⟩
      have : i ≠ k := fun q => h (by rw [e, q])
      omega
theorem mkd_eq {S T : Nat → Int32} {f g : Nat → Nat} {v : Int32} {c w : Nat} (e : T (c + w) = S w) : ∀ k, (∀ i, i < k → g i = c + f i) → mkd T g v k (c + w) = mkd S f v k w
  | 0, _ => e
  | k + 1, h => by
    rw [mkd_s, mkd_s, mkd_eq e k (fun i hi => h i (by omega)), h k (by omega)]
    by_cases z : w = f k
    · rw [if_pos (by omega), if_pos z]
    · rw [if_neg (by omega), if_neg z]
theorem mkd_fg {S : Nat → Int32} {f g : Nat → Nat} {v : Int32} {w : Nat} (k : Nat) (h : ∀ i, i < k → g i = f i) : mkd S g v k w = mkd S f v k w := by
  have := mkd_eq (S := S) (T := S) (f := f) (g := g) (v := v) (c := 0) (w := w) (by rw [Nat.zero_add]) k (fun i hi => by rw [h i hi, Nat.zero_add])
  rw [Nat.zero_add] at this
  exact this
def smc (f : Nat → Int32) : Nat → Int32
  | 0 => 0
  | k + 1 => smc f k + f k
theorem smc_s {f : Nat → Int32} {k : Nat} : smc f (k + 1) = smc f k + f k := rfl
theorem smc_1 {f : Nat → Int32} {n : Nat} (h : n = 1) : smc f n = f 0 := by subst h; exact Int32.zero_add _
theorem smc_eq {f g : Nat → Int32} : ∀ k, (∀ i, i < k → g i = f i) → smc g k = smc f k
  | 0, _ => rfl
  | k + 1, h => by rw [smc_s, smc_s, smc_eq k (fun i hi => h i (by omega)), h k (by omega)]
/-- the places that are still there when those from one on were struck -/
theorem cu_mk {S : Nat → Int32} {f : Nat → Nat} {n p k : Nat} (h : ∀ i, i < k → IsN S 0 n (p + i) (f i)) : ∀ w, w ≤ n → cu (mkd S f 1 k) 0 w = if cu S 0 w ≤ p then cu S 0 w else max p (cu S 0 w - k)
  | 0, _ => by
    have e1 : cu S 0 0 = 0 := rfl
    have e2 : cu (mkd S f 1 k) 0 0 = 0 := rfl
    rw [e1, e2, if_pos (by omega)]
  | w + 1, hw => by
    have ih := cu_mk h w (by omega)
    by_cases z : S w = 0
    · have z0 : S (0 + w) = 0 := by rw [Nat.zero_add]; exact z
      rw [cu_y (f := S) z0]
      by_cases y : p ≤ cu S 0 w ∧ cu S 0 w < p + k
      · have hN : IsN S 0 n (cu S 0 w) w := ⟨by omega, z0, rfl⟩
        have hi := h (cu S 0 w - p) (by omega)
        rw [show p + (cu S 0 w - p) = cu S 0 w by omega] at hi
        have e : w = f (cu S 0 w - p) := IsN_one hN hi
        have em : mkd S f 1 k w = 1 := mkd_y k ⟨cu S 0 w - p, by omega, e⟩
        rw [cu_n (f := mkd S f 1 k) (by rw [Nat.zero_add, em]; decide), ih]
        split <;> split <;> omega
      · have em : mkd S f 1 k w = S w := mkd_no k (fun i hi q => by
          have hq := (h i hi).2.2
          rw [← q] at hq
          omega)
        rw [cu_y (f := mkd S f 1 k) (by rw [Nat.zero_add, em]; exact z), ih]
        split <;> split <;> omega
    · have z0 : S (0 + w) ≠ 0 := by rw [Nat.zero_add]; exact z
      have em : mkd S f 1 k w = S w := mkd_no k (fun i hi q => by
        have hq := (h i hi).2.1
        rw [Nat.zero_add, ← q] at hq
        exact z hq)
      rw [cu_n (f := S) z0, cu_n (f := mkd S f 1 k) (by rw [Nat.zero_add, em]; exact z), ih]
theorem IsN_mk {S : Nat → Int32} {f : Nat → Nat} {n p k w : Nat} (h : ∀ i, i < k → IsN S 0 n (p + i) (f i)) (q : IsN (mkd S f 1 k) 0 n p w) : IsN S 0 n (p + k) w := by
  obtain ⟨q1, q2, q3⟩ := q
  rw [Nat.zero_add] at q2
  have c := cu_mk h w (by omega)
  rw [q3] at c
  have hz : S w = 0 := by
    by_cases y : ∃ i, i < k ∧ w = f i
    · rw [mkd_y k y] at q2
      exact absurd q2 (by decide)
    · rw [mkd_no k (fun i hi e => y ⟨i, hi, e⟩)] at q2
      exact q2
  have hz0 : S (0 + w) = 0 := by rw [Nat.zero_add]; exact hz
  refine ⟨q1, hz0, ?_⟩
  by_cases y : p ≤ cu S 0 w ∧ cu S 0 w < p + k
  · have hi := h (cu S 0 w - p) (by omega)
    rw [show p + (cu S 0 w - p) = cu S 0 w by omega] at hi
    have e : w = f (cu S 0 w - p) := IsN_one ⟨q1, hz0, rfl⟩ hi
    rw [mkd_y k ⟨cu S 0 w - p, by omega, e⟩] at q2
    exact absurd q2 (by decide)
  · split at c <;> omega
/-- numbers of a STROKE on the one side, found one by one on the other -/
theorem STK_num {S T : Nat → Int32} {f g : Nat → Nat} {c n p : Nat} : ∀ k, (∀ j, j < n → T (c + j) = S j) → (∀ i, i < k → IsN S 0 n (p + i) (f i)) → (∀ i, i < k → IsN (mkd T (fun i => c + g i) 1 i) c n p (g i)) → ∀ i, i < k → g i = f i
  | 0, _, _, _ => fun i hi => absurd hi (by omega)
  | k + 1, e, h, q => by
    have ih := STK_num k e (fun i hi => h i (by omega)) (fun i hi => q i (by omega))
    intro i hi
    by_cases z : i < k
    · exact ih i z
    · have ei : i = k := by omega
      subst ei
      have q1 := q i (by omega)
      have q2 : IsN (mkd S f 1 i) 0 n p (g i) := IsN_eq (f := mkd T (fun i => c + g i) 1 i) (b := c) (c := 0) (fun j hj => by
        rw [Nat.zero_add]
        exact (mkd_eq (S := S) (T := T) (f := f) (g := fun i => c + g i) (v := 1) (e j hj) i (fun x hx => by show c + g x = _; rw [ih x hx])).symm) q1
      exact IsN_one (IsN_mk (fun x hx => h x (by omega)) q2) (h i (by omega))
/-- THE BOOK's row is begun; a LETTER is added -/
def BGN (m M : Nat → Nat → Int32) (x y z : Int32) : Prop := (M 97 6).toInt = (m 97 6).toInt + 1 ∧ M 98 (m 97 6).toInt.toNat = x ∧ M 99 (m 97 6).toInt.toNat = y ∧ M 100 (m 97 6).toInt.toNat = z ∧ M 101 (m 97 6).toInt.toNat = 0 ∧ M 102 (m 97 6).toInt.toNat = 0 ∧ (∀ a j, 98 ≤ a → a ≤ 102 → j ≠ (m 97 6).toInt.toNat → M a j = m a j) ∧ ∀ j, M 103 j = m 103 j
def ADL (m M : Nat → Nat → Int32) (s : Nat) (x y : Int32) : Prop := (M 97 6).toInt = (m 97 6).toInt ∧ M 103 (9 * s + (m 102 s).toInt.toNat) = x ∧ (∀ j, j ≠ 9 * s + (m 102 s).toInt.toNat → M 103 j = m 103 j) ∧ (M 102 s).toInt = (m 102 s).toInt + 1 ∧ M 101 s = m 101 s + y ∧ (∀ a j, 98 ≤ a → a ≤ 102 → j ≠ s → M a j = m a j) ∧ M 98 s = m 98 s ∧ M 99 s = m 99 s ∧ M 100 s = m 100 s
def WSI (m M : Nat → Nat → Int32) (e b p k : Nat) (cl cost : Int32) : Prop := (M 97 6).toInt = (m 97 6).toInt + 1 ∧ (M 98 (m 97 6).toInt.toNat).toInt = b ∧ M 99 (m 97 6).toInt.toNat = cl ∧ M 100 (m 97 6).toInt.toNat = m 0 7 ∧ M 101 (m 97 6).toInt.toNat = cost ∧ (M 102 (m 97 6).toInt.toNat).toInt = k ∧ (∀ i, i < k → M 103 (9 * (m 97 6).toInt.toNat + i) = m (e + 5) (p + i)) ∧ (∀ a j, 98 ≤ a → a ≤ 102 → j ≠ (m 97 6).toInt.toNat → M a j = m a j) ∧ (∀ j, j < 9 * (m 97 6).toInt.toNat → M 103 j = m 103 j) ∧ (∀ w, M (e + 6) w = mkd (m (e + 6)) (fun i => (m (e + 5) (p + i)).toInt.toNat) 1 k w) ∧ ∀ a i, 5 ≤ a → a ≤ 59 → a ≠ e + 6 → M a i = m a i
def STKc (m M : Nat → Nat → Int32) (e b p n : Nat) (cl cost : Int32) : Prop := (M 97 6).toInt = (m 97 6).toInt + 1 ∧ (M 98 (m 97 6).toInt.toNat).toInt = b ∧ M 99 (m 97 6).toInt.toNat = cl ∧ M 100 (m 97 6).toInt.toNat = m 0 7 ∧ M 101 (m 97 6).toInt.toNat = cost ∧ (M 102 (m 97 6).toInt.toNat).toInt = n ∧ (∀ i, i < n → M 103 (9 * (m 97 6).toInt.toNat + i) = m (e + 5) (p + i)) ∧ (∀ a j, 98 ≤ a → a ≤ 102 → j ≠ (m 97 6).toInt.toNat → M a j = m a j) ∧ (∀ j, j < 9 * (m 97 6).toInt.toNat → M 103 j = m 103 j) ∧ (∀ w, M (e + 6) w = mkd (m (e + 6)) (fun i => (m (e + 5) (p + i)).toInt.toNat) 1 n w) ∧ (∀ a i, 5 ≤ a → a ≤ 59 → (a < e + 3 ∨ e + 6 < a) → M a i = m a i) ∧ RST M e
section SK
variable {m M M2 M3 : Nat → Nat → Int32} {e b p k n : Nat} {cl cost x y z : Int32}
theorem WSI_b (h : BGN m M x y z) (hx : x.toInt = b) (hz : z = m 0 7) (hf : ∀ a i, a ≤ 59 → M a i = m a i) (he : e ≤ 53) : WSI m M e b p 0 y 0 := by
  obtain ⟨h1, h2, h3, h4, h5, h6, h7, h8⟩ := h
  exact ⟨h1, by rw [h2]; exact hx, h3, by rw [h4]; exact hz, h5, by rw [h6]; rfl, fun i hi => by omega, h7, fun j _ => h8 j, fun w => hf _ _ (by omega), fun a i _ q _ => hf a i q⟩
theorem WSI_s {k2 : Nat} {c2 : Int32} (h : WSI m M e b p k cl cost) (a : ADL M M2 (m 97 6).toInt.toNat x y) (hf2 : ∀ a i, a ≤ 59 → M2 a i = M a i) (hx : x = m (e + 5) (p + k)) (mk : ∀ w, M3 (e + 6) w = if w = x.toInt.toNat then 1 else M2 (e + 6) w) (hf3 : ∀ a i, a ≠ e + 6 → M3 a i = M2 a i) (he : e ≤ 53) (hk : k2 = k + 1) (hc : c2 = cost + y) : WSI m M3 e b p k2 cl c2 := by
  subst hk; subst hc
  obtain ⟨h1, h2, h3, h4, h5, h6, h7, h8, h9, h10, h11⟩ := h
  obtain ⟨a1, a2, a3, a4, a5, a6, a7, a8, a9⟩ := a
  have g : ∀ a i, 60 ≤ a → M3 a i = M2 a i := fun a i q => hf3 a i (by omega)
  rw [show (M 102 (m 97 6).toInt.toNat).toInt.toNat = k by omega] at a2 a3
  refine ⟨by rw [g _ _ (by omega)]; omega, by rw [g _ _ (by omega), a7]; exact h2, by rw [g _ _ (by omega), a8]; exact h3, by rw [g _ _ (by omega), a9]; exact h4, by rw [g _ _ (by omega), a5, h5], by rw [g _ _ (by omega)]; omega, fun i hi => ?_, fun a j q1 q2 q3 => by rw [g _ _ (by omega), a6 a j q1 q2 q3]; exact h8 a j q1 q2 q3, fun j hj => by rw [g _ _ (by omega), a3 j (by omega)]; exact h9 j hj, fun w => ?_, fun a i q1 q2 q3 => by rw [hf3 a i q3, hf2 a i q2]; exact h11 a i q1 q2 q3⟩
  · rw [g _ _ (by omega)]
    by_cases q : i = k
    · subst q; rw [a2, hx]
    · rw [a3 _ (by omega)]; exact h7 i (by omega)
  · rw [mk w, mkd_s, hx, hf2 _ _ (by omega), h10 w]
theorem WSI_e (h : WSI m M e b p n cl cost) (hf : ∀ a i, (a < e + 3 ∨ e + 5 < a) → M2 a i = M a i) (hR : RST M2 e) (he : e ≤ 53) : STKc m M2 e b p n cl cost := by
  obtain ⟨h1, h2, h3, h4, h5, h6, h7, h8, h9, h10, h11⟩ := h
  have g : ∀ a i, 60 ≤ a → M2 a i = M a i := fun a i q => hf a i (Or.inr (by omega))
  exact ⟨by rw [g _ _ (by omega)]; exact h1, by rw [g _ _ (by omega)]; exact h2, by rw [g _ _ (by omega)]; exact h3, by rw [g _ _ (by omega)]; exact h4, by rw [g _ _ (by omega)]; exact h5, by rw [g _ _ (by omega)]; exact h6, fun i hi => by rw [g _ _ (by omega)]; exact h7 i hi, fun a j q1 q2 q3 => by rw [g _ _ (by omega)]; exact h8 a j q1 q2 q3, fun j hj => by rw [g _ _ (by omega)]; exact h9 j hj, fun w => by rw [hf _ _ (Or.inr (by omega))]; exact h10 w, fun a i q1 q2 q3 => by rw [hf a i (by omega)]; exact h11 a i q1 q2 (by omega), hR⟩
end SK
/-- the reference's -/
def MKI (m M : Nat → Nat → Int32) (b p k : Nat) : Prop := ∃ g : Nat → Nat, (∀ i, i < k → IsN (mkd (m 128) (fun i => 40 * b + g i) 1 i) (40 * b) (m 124 b).toInt.toNat p (g i)) ∧ (∀ i, i < k → (M 148 (9 * (m 123 3).toInt.toNat + i)).toInt = g i) ∧ (∀ j, j < 9 * (m 123 3).toInt.toNat → M 148 j = m 148 j) ∧ ∀ j, M 128 j = mkd (m 128) (fun i => 40 * b + g i) 1 k j
def STKr (m M : Nat → Nat → Int32) (b p n : Nat) (cl cost : Int32) : Prop := MKI m M b p n ∧ (M 123 3).toInt = (m 123 3).toInt + 1 ∧ (M 143 (m 123 3).toInt.toNat).toInt = b ∧ M 144 (m 123 3).toInt.toNat = cl ∧ M 145 (m 123 3).toInt.toNat = m 123 1 ∧ M 146 (m 123 3).toInt.toNat = cost ∧ (M 147 (m 123 3).toInt.toNat).toInt = n ∧ ∀ a j, 143 ≤ a → a ≤ 147 → j ≠ (m 123 3).toInt.toNat → M a j = m a j
section SR
variable {m M M2 M3 : Nat → Nat → Int32} {b p k n : Nat} {cl cost x y z : Int32}
theorem MKI_0 : MKI m m b p 0 := ⟨fun _ => 0, fun i hi => absurd hi (by omega), fun i hi => absurd hi (by omega), fun _ _ => rfl, fun _ => rfl⟩
theorem MKI_s {k2 : Nat} (h : MKI m M b p k) (hN : IsN (M 128) (40 * b) (M 124 b).toInt.toNat p x.toInt.toNat) (h0 : 0 ≤ x.toInt) (h4 : M 124 b = m 124 b) (e1 : M2 = up2 M 148 (9 * (m 123 3).toInt.toNat + k) x) (e2 : M3 = up2 M2 128 (40 * b + x.toInt.toNat) 1) (hk : k2 = k + 1) : MKI m M3 b p k2 := by
  subst hk
  obtain ⟨g, g1, g2, g3, g4⟩ := h
  have hg : ∀ i, i < k → (if i = k then x.toInt.toNat else g i) = g i := fun i hi => if_neg (by omega)
  have hm : ∀ j, j ≤ k → ∀ w, mkd (m 128) (fun i => 40 * b + (if i = k then x.toInt.toNat else g i)) 1 j w = mkd (m 128) (fun i => 40 * b + g i) 1 j w := fun j hj w => mkd_fg j (fun i hi => by show 40 * b + _ = 40 * b + _; rw [hg i (by omega)])
  refine ⟨fun i => if i = k then x.toInt.toNat else g i, fun i hi => ?_, fun i hi => ?_, fun j hj => ?_, fun j => ?_⟩
  · have e : mkd (m 128) (fun i => 40 * b + (if i = k then x.toInt.toNat else g i)) 1 i = mkd (m 128) (fun i => 40 * b + g i) 1 i := funext (hm i (by omega))
    rw [e]
    show IsN _ _ _ _ (if i = k then x.toInt.toNat else g i)
    by_cases q : i = k
    · rw [if_pos q, q]
      have e2 : M 128 = mkd (m 128) (fun i => 40 * b + g i) 1 k := funext g4
      rw [← e2, ← h4]
      exact hN
    · rw [if_neg q]
      exact g1 i (by omega)
  · show _ = (((if i = k then x.toInt.toNat else g i) : Nat) : Int)
    rw [e2, up2_ne (by omega), e1]
    by_cases q : i = k
    · rw [if_pos q, q, up2_eq]; omega
    · rw [if_neg q, up2_ne (by omega)]; exact g2 i (by omega)
  · rw [e2, up2_ne (by omega), e1, up2_ne (by omega)]; exact g3 j hj
  · rw [mkd_s, hm k (by omega) j, e2, up2_rw]
    show (if j = 40 * b + x.toInt.toNat then (1 : Int32) else M2 128 j) = if j = 40 * b + (if k = k then x.toInt.toNat else g k) then 1 else _
    rw [if_pos (rfl : k = k)]
    by_cases q : j = 40 * b + x.toInt.toNat
    · rw [if_pos q, if_pos q]
    · rw [if_neg q, if_neg q, e1, up2_ne (by omega)]; exact g4 j
end SR
