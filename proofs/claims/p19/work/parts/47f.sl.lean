/-! THE SHORTEST: tables that obey one recursion agree -/
def hda (n : Nat → Int) (s : Nat → Nat → Int) (a : Nat → Int) (d : Nat) : Int := if a d < n d then s d (a d).toNat else -1
def adv4 (n : Nat → Int) (s : Nat → Nat → Int) (a : Nat → Int) (l : Int) : Nat → Int := fun d => a d + (if hda n s a d = l then 1 else 0)
def VL4 (n a : Nat → Int) : Prop := ∀ d, d < 4 → 0 ≤ a d ∧ a d ≤ n d
def OB1 (n : Nat → Int) (s : Nat → Nat → Int) (F : (Nat → Int) → Int) (a : Nat → Int) (v : Int) : Prop := ((∀ d, d < 4 → hda n s a d = -1) ∧ v = 0) ∨ ((∃ d, d < 4 ∧ hda n s a d ≠ -1 ∧ v = 1 + F (adv4 n s a (hda n s a d))) ∧ ∀ d, d < 4 → hda n s a d ≠ -1 → v ≤ 1 + F (adv4 n s a (hda n s a d)))
def OBY (n : Nat → Int) (s : Nat → Nat → Int) (F : (Nat → Int) → Int) : Prop := ∀ a, VL4 n a → OB1 n s F a (F a)
def rst (n a : Nat → Int) : Int := n 0 - a 0 + (n 1 - a 1) + (n 2 - a 2) + (n 3 - a 3)
theorem hda_lt {n : Nat → Int} {s : Nat → Nat → Int} {a : Nat → Int} {d : Nat} (h : hda n s a d ≠ -1) : a d < n d := by
  unfold hda at h
  by_cases z : a d < n d
  · exact z
  · rw [if_neg z] at h; exact absurd rfl h
theorem adv_VL {n : Nat → Int} {s : Nat → Nat → Int} {a : Nat → Int} {l : Int} (h : VL4 n a) (hl : l ≠ -1) : VL4 n (adv4 n s a l) := by
  intro d hd
  have q := h d hd
  unfold adv4
  split
  · rename_i c
    have := hda_lt (n := n) (s := s) (a := a) (d := d) (by rw [c]; exact hl)
    omega
  · omega
theorem adv_b {n : Nat → Int} {s : Nat → Nat → Int} {a : Nat → Int} {l : Int} (d : Nat) : a d ≤ adv4 n s a l d ∧ adv4 n s a l d ≤ a d + 1 := by
  unfold adv4
  split <;> omega
theorem adv_rst {n : Nat → Int} {s : Nat → Nat → Int} {a : Nat → Int} {d : Nat} (hd : d < 4) : rst n (adv4 n s a (hda n s a d)) ≤ rst n a - 1 := by
  have b0 := adv_b (n := n) (s := s) (a := a) (l := hda n s a d) 0
  have b1 := adv_b (n := n) (s := s) (a := a) (l := hda n s a d) 1
  have b2 := adv_b (n := n) (s := s) (a := a) (l := hda n s a d) 2
  have b3 := adv_b (n := n) (s := s) (a := a) (l := hda n s a d) 3
  have e : adv4 n s a (hda n s a d) d = a d + 1 := by unfold adv4; rw [if_pos rfl]
  unfold rst
  have : d = 0 ∨ d = 1 ∨ d = 2 ∨ d = 3 := by omega
  rcases this with rfl | rfl | rfl | rfl <;> omega
theorem rst_0 {n a : Nat → Int} (h : VL4 n a) : 0 ≤ rst n a := by
  have := h 0 (by omega); have := h 1 (by omega); have := h 2 (by omega); have := h 3 (by omega)
  unfold rst
  omega
theorem OBY_b {n : Nat → Int} {s : Nat → Nat → Int} {F : (Nat → Int) → Int} (h : OBY n s F) : ∀ (k : Nat) (a : Nat → Int), VL4 n a → rst n a ≤ k → 0 ≤ F a ∧ F a ≤ rst n a
  | k, a, hv, hk => by
    have r0 := rst_0 hv
    rcases h a hv with ⟨_, e⟩ | ⟨⟨d, hd, hne, e⟩, _⟩
    · omega
    · have c := adv_rst (n := n) (s := s) (a := a) hd
      have v2 := adv_VL (s := s) hv hne
      have r2 := rst_0 v2
      match k, hk with
      | 0, hk => omega
      | k + 1, hk =>
        have q := OBY_b h k _ v2 (by omega)
        omega
theorem OBY_eq {n : Nat → Int} {s : Nat → Nat → Int} {F G : (Nat → Int) → Int} (hF : OBY n s F) (hG : OBY n s G) : ∀ (k : Nat) (a : Nat → Int), VL4 n a → rst n a ≤ k → F a = G a
  | k, a, hv, hk => by
    have r0 := rst_0 hv
    rcases hF a hv with ⟨z1, e1⟩ | ⟨⟨d, hd, hne, e1⟩, m1⟩ <;> rcases hG a hv with ⟨z2, e2⟩ | ⟨⟨d2, hd2, hne2, e2⟩, m2⟩
    · omega
    · exact absurd (z1 d2 hd2) hne2
    · exact absurd (z2 d hd) hne
    · have c := adv_rst (n := n) (s := s) (a := a) hd
      have c2 := adv_rst (n := n) (s := s) (a := a) hd2
      have v1 := adv_VL (s := s) hv hne
      have v2 := adv_VL (s := s) hv hne2
      have q1 := rst_0 v1
      match k, hk with
      | 0, hk => omega
      | k + 1, hk =>
        have i1 := OBY_eq hF hG k _ v1 (by omega)
        have i2 := OBY_eq hF hG k _ v2 (by omega)
        have u1 := m1 d2 hd2 hne2
        have u2 := m2 d hd hne
        omega
/-- the same rows, the same recursion -/
theorem hda_of {n n2 : Nat → Int} {s s2 : Nat → Nat → Int} {a : Nat → Int} {d : Nat} (hn : n d = n2 d) (h0 : 0 ≤ a d) (hs : ∀ k : Nat, (k : Int) < n d → s d k = s2 d k) : hda n s a d = hda n2 s2 a d := by
  unfold hda
  rw [← hn]
  by_cases z : a d < n d
  · rw [if_pos z, if_pos z, hs _ (by omega)]
  · rw [if_neg z, if_neg z]
def RQ4 (n n2 : Nat → Int) (s s2 : Nat → Nat → Int) : Prop := ∀ d, d < 4 → n d = n2 d ∧ ∀ k : Nat, (k : Int) < n d → s d k = s2 d k
/-- what looks at four places alone -/
def F4 (F : (Nat → Int) → Int) : Prop := ∀ a b : Nat → Int, (∀ d, d < 4 → a d = b d) → F a = F b
theorem OBY_of {n n2 : Nat → Int} {s s2 : Nat → Nat → Int} {F : (Nat → Int) → Int} (h4 : F4 F) (h : OBY n s F) (hq : RQ4 n n2 s s2) : OBY n2 s2 F := by
  intro a hv
  have hv1 : VL4 n a := fun d hd => by rw [(hq d hd).1]; exact hv d hd
  have e : ∀ d, d < 4 → hda n s a d = hda n2 s2 a d := fun d hd => hda_of (hq d hd).1 (hv d hd).1 (hq d hd).2
  have e2 : ∀ l, F (adv4 n s a l) = F (adv4 n2 s2 a l) := fun l => h4 _ _ (fun d hd => by unfold adv4; rw [e d hd])
  rcases h a hv1 with ⟨z1, e1⟩ | ⟨⟨d, hd, hne, e1⟩, m1⟩
  · exact Or.inl ⟨fun d hd => by rw [← e d hd]; exact z1 d hd, e1⟩
  · refine Or.inr ⟨⟨d, hd, by rw [← e d hd]; exact hne, by rw [← e d hd, ← e2]; exact e1⟩, fun d2 hd2 hne2 => ?_⟩
    rw [← e d2 hd2] at hne2 ⊢
    rw [← e2]
    exact m1 d2 hd2 hne2
/-- mixed radix: one state, one place -/
theorem mr_eq {x y c r t : Int} (hr : 0 ≤ r) (hr2 : r < c) (ht : 0 ≤ t) (ht2 : t < c) (h : x * c + r = y * c + t) : x = y ∧ r = t := by
  have hc : 0 < c := by omega
  rcases Int.lt_trichotomy x y with z | z | z
  · have := Int.mul_le_mul_of_nonneg_right (show x + 1 ≤ y by omega) (show 0 ≤ c by omega)
    rw [Int.add_mul, Int.one_mul] at this
    omega
  · subst z; exact ⟨rfl, by omega⟩
  · have := Int.mul_le_mul_of_nonneg_right (show y + 1 ≤ x by omega) (show 0 ≤ c by omega)
    rw [Int.add_mul, Int.one_mul] at this
    omega
theorem ix4_inj {s a b : Nat → Int} (h : S12 s) (ha : VL4 s a) (hb : VL4 s b) (e : ix4 s a = ix4 s b) : ∀ d, d < 4 → a d = b d := by
  have c0 : cA s 0 = 1 := rfl
  have x1 : cA s 1 = s 3 * cA s 0 + cA s 0 := cA_x s 0
  have x2 : cA s 2 = s 2 * cA s 1 + cA s 1 := cA_x s 1
  have x3 : cA s 3 = s 1 * cA s 2 + cA s 2 := cA_x s 2
  have p1 := (cA_b h 1 (by omega)).1
  have p2 := (cA_b h 2 (by omega)).1
  have p3 := (cA_b h 3 (by omega)).1
  have a0 := ha 0 (by omega); have a1 := ha 1 (by omega); have a2 := ha 2 (by omega); have a3 := ha 3 (by omega)
  have b0 := hb 0 (by omega); have b1 := hb 1 (by omega); have b2 := hb 2 (by omega); have b3 := hb 3 (by omega)
  have low : ∀ u : Nat → Int, (0 ≤ u 1 ∧ u 1 ≤ s 1) → (0 ≤ u 2 ∧ u 2 ≤ s 2) → (0 ≤ u 3 ∧ u 3 ≤ s 3) → (0 ≤ u 3 * cA s 0 ∧ u 3 * cA s 0 < cA s 1) ∧ (0 ≤ u 2 * cA s 1 + u 3 * cA s 0 ∧ u 2 * cA s 1 + u 3 * cA s 0 < cA s 2) ∧ (0 ≤ u 1 * cA s 2 + u 2 * cA s 1 + u 3 * cA s 0 ∧ u 1 * cA s 2 + u 2 * cA s 1 + u 3 * cA s 0 < cA s 3) := by
    intro u h1 h2 h3
    have m3 := Int.mul_le_mul_of_nonneg_right h3.2 (show 0 ≤ cA s 0 by omega)
    have n3 := Int.mul_nonneg h3.1 (show 0 ≤ cA s 0 by omega)
    have m2 := Int.mul_le_mul_of_nonneg_right h2.2 (show 0 ≤ cA s 1 by omega)
    have n2 := Int.mul_nonneg h2.1 (show 0 ≤ cA s 1 by omega)
    have m1 := Int.mul_le_mul_of_nonneg_right h1.2 (show 0 ≤ cA s 2 by omega)
    have n1 := Int.mul_nonneg h1.1 (show 0 ≤ cA s 2 by omega)
    omega
  obtain ⟨la1, la2, la3⟩ := low a a1 a2 a3
  obtain ⟨lb1, lb2, lb3⟩ := low b b1 b2 b3
  unfold ix4 at e
  obtain ⟨e0, r0⟩ := mr_eq (x := a 0) (y := b 0) (c := cA s 3) la3.1 la3.2 lb3.1 lb3.2 (by omega)
  obtain ⟨e1, r1⟩ := mr_eq (x := a 1) (y := b 1) (c := cA s 2) la2.1 la2.2 lb2.1 lb2.2 (by omega)
  obtain ⟨e2, r2⟩ := mr_eq (x := a 2) (y := b 2) (c := cA s 1) la1.1 la1.2 lb1.1 lb1.2 (by omega)
  intro d hd
  have : d = 0 ∨ d = 1 ∨ d = 2 ∨ d = 3 := by omega
  rcases this with rfl | rfl | rfl | rfl
  · exact e0
  · exact e1
  · exact e2
  · rw [c0] at r2; omega
