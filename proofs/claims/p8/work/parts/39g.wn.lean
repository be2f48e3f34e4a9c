/-! frames as lists of places, and all that is made later: what no answer of a later call shows, and more -/
def wg (L : List (Nat × Nat × Option Nat)) (a i : Nat) : Bool := Nat.ble 169 a || wl L a i
theorem wg_g {L K : List (Nat × Nat × Option Nat)} (h : (K.all (fun q => Nat.ble 169 q.1 || L.any (fun p => wl_le p q))) = true) : ∀ a i, wg L a i = false → wg K a i = false := by
  intro a i e
  cases hc : wg K a i with
  | false => rfl
  | true =>
    unfold wg at e hc
    rw [Bool.or_eq_false_iff] at e
    rw [e.1, Bool.false_or] at hc
    obtain ⟨q, hq, h1⟩ := wl_mem.mp hc
    have h2 := List.all_eq_true.mp h q hq
    rw [Bool.or_eq_true] at h2
    rcases h2 with h2 | h2
    · obtain ⟨q1, q2, q3⟩ := q
      simp only [wl1, Bool.and_eq_true, Nat.ble_eq] at h1 h2
      have h3 : Nat.ble 169 a = true := Nat.ble_eq_true_of_le (by omega)
      rw [h3] at e
      cases e.1
    · obtain ⟨p, hp, h3⟩ := List.any_eq_true.mp h2
      rw [wl_mem.mpr ⟨p, hp, wl1_le h3 h1⟩] at e
      cases e.2
theorem wg_l {L K : List (Nat × Nat × Option Nat)} (h : (K.all (fun q => Nat.ble 169 q.1 || L.any (fun p => wl_le p q))) = true) : ∀ a i, wg L a i = false → wl K a i = false := by
  intro a i e
  have q := wg_g h a i e
  unfold wg at q
  rw [Bool.or_eq_false_iff] at q
  exact q.2
theorem wg_in {L : List (Nat × Nat × Option Nat)} {a i : Nat} (h : 169 ≤ a ∨ ∃ q ∈ L, q.1 ≤ a ∧ a ≤ q.2.1 ∧ (q.2.2 = none ∨ q.2.2 = some i)) : wg L a i = true := by
  unfold wg
  rw [Bool.or_eq_true]
  rcases h with h | ⟨q, hq, h1, h2, h3⟩
  · exact Or.inl (Nat.ble_eq_true_of_le h)
  · refine Or.inr (wl_mem.mpr ⟨q, hq, ?_⟩)
    obtain ⟨q1, q2, q3⟩ := q
    simp only [wl1, Bool.and_eq_true, Nat.ble_eq]
    refine ⟨⟨h1, h2⟩, ?_⟩
    rcases h3 with h3 | h3
    · have e : q3 = none := h3
      subst e; rfl
    · have e : q3 = some i := h3
      subst e; simp
theorem wg_ra {L : List (Nat × Nat × Option Nat)} {a b : Nat} (h : 169 ≤ a ∨ ∃ q ∈ L, q.1 ≤ a ∧ b ≤ q.2.1 ∧ q.2.2 = none) : ∀ c i, wg L c i = false → wl [(a, b, none)] c i = false := by
  intro c i e
  cases hc : wl [(a, b, none)] c i with
  | false => rfl
  | true =>
    simp only [wl, wl1, Bool.or_eq_true, Bool.and_eq_true, Nat.ble_eq] at hc
    rcases hc with hc | hc
    · have z : wg L c i = true := wg_in (h.elim (fun h => Or.inl (by omega)) (fun ⟨q, hq, h1, h2, h3⟩ => Or.inr ⟨q, hq, by omega, by omega, Or.inl h3⟩))
      rw [z] at e
      cases e
    · cases hc
def dsj (p q : Nat × Nat × Option Nat) : Bool := Nat.ble (p.2.1 + 1) q.1 || Nat.ble (q.2.1 + 1) p.1 || (match p.2.2, q.2.2 with
  | some j, some k => !(j == k)
  | _, _ => false)
theorem dsj_no {p q : Nat × Nat × Option Nat} (h : dsj p q = true) {a i : Nat} (h1 : wl1 p a i = true) (h2 : wl1 q a i = true) : False := by
  obtain ⟨p1, p2, p3⟩ := p
  obtain ⟨q1, q2, q3⟩ := q
  simp only [dsj, wl1, Bool.or_eq_true, Bool.and_eq_true, Nat.ble_eq] at h h1 h2
  rcases h with (h | h) | h
  · omega
  · omega
  · cases p3 with
    | none => simp at h
    | some j =>
      cases q3 with
      | none => simp at h
      | some k =>
        simp at h h1 h2
        omega
/-- what lies in a list lies outside of another -/
theorem wl_no {L K : List (Nat × Nat × Option Nat)} (h : (K.all (fun p => L.all (fun q => dsj p q))) = true) {a i : Nat} (hk : wl K a i = true) : wl L a i = false := by
  cases hc : wl L a i with
  | false => rfl
  | true =>
    obtain ⟨p, hp, h1⟩ := wl_mem.mp hk
    obtain ⟨q, hq, h2⟩ := wl_mem.mp hc
    exact (dsj_no (List.all_eq_true.mp (List.all_eq_true.mp h p hp) q hq) h1 h2).elim
theorem wg_no {L K : List (Nat × Nat × Option Nat)} (h : (K.all (fun p => Nat.ble p.2.1 168 && L.all (fun q => dsj p q))) = true) {a i : Nat} (hk : wl K a i = true) : wg L a i = false := by
  have h0 : (K.all (fun p => L.all (fun q => dsj p q))) = true := List.all_eq_true.mpr (fun p hp => by
    have := List.all_eq_true.mp h p hp
    rw [Bool.and_eq_true] at this
    exact this.2)
  unfold wg
  rw [wl_no h0 hk, Bool.or_false]
  obtain ⟨p, hp, h1⟩ := wl_mem.mp hk
  have h3 := List.all_eq_true.mp h p hp
  rw [Bool.and_eq_true, Nat.ble_eq] at h3
  obtain ⟨p1, p2, p3⟩ := p
  simp only [wl1, Bool.and_eq_true, Nat.ble_eq] at h1
  cases hc : Nat.ble 169 a with
  | false => rfl
  | true =>
    have := Nat.le_of_ble_eq_true hc
    have h4 : p2 ≤ 168 := h3.1
    omega
/-- the places for reckoning, of which no later call's answer depends -/
abbrev lZN : List (Nat × Nat × Option Nat) := [(84, 85, none), (95, 96, none), (104, 122, none), (77, 77, some 10), (77, 77, some 11), (88, 88, some 10), (88, 88, some 11)]
/-- what is LEFT of each BLANK, its marks, THE BOOK -/
abbrev lS : List (Nat × Nat × Option Nat) := [(7, 10, none), (14, 17, none), (21, 24, none), (28, 31, none), (35, 38, none), (42, 45, none), (49, 52, none), (56, 59, none), (97, 103, none)]
def wN : Nat → Nat → Bool := wg lZN
def wS3 : Nat → Nat → Bool := wl lS
def wO : Nat → Nat → Bool := wg (lZN ++ lS ++ [(0, 0, some 8)])
/-- a BLANK more; a DEED; a LAW -/
def wPb : Nat → Nat → Bool := wg (lZN ++ [(0, 0, some 2), (1, 1, some 1), (5, 9, none), (12, 16, none), (19, 23, none), (26, 30, none), (33, 37, none), (40, 44, none), (47, 51, none), (54, 58, none)])
def wPd : Nat → Nat → Bool := wg (lZN ++ [(1, 1, some 1), (61, 76, none)])
def wPl : Nat → Nat → Bool := wg (lZN ++ [(1, 1, some 1), (77, 96, none)])
/-- a law's places for reckoning -/
def wsL (a c i : Nat) : Bool := (c == a && (i == 10 || i == 11)) || c == a + 8
theorem wsL_10 {a : Nat} : wsL a a 10 = true := by unfold wsL; simp
theorem wsL_11 {a : Nat} : wsL a a 11 = true := by unfold wsL; simp
theorem wsL_8 {a i : Nat} : wsL a (a + 8) i = true := by unfold wsL; simp
theorem wsL_wg {L : List (Nat × Nat × Option Nat)} {la : Nat} (h : la = 77 ∨ la = 88) (hL : (lZN.all (fun q => Nat.ble 169 q.1 || L.any (fun p => wl_le p q))) = true) : ∀ c i, wg L c i = false → wsL la c i = false := by
  intro c i e
  have e := wg_g hL c i e
  cases hc : wsL la c i with
  | false => rfl
  | true =>
    unfold wsL at hc
    simp only [Bool.or_eq_true, Bool.and_eq_true, beq_iff_eq] at hc
    have : wg lZN c i = true := by
      rcases h with rfl | rfl <;> rcases hc with ⟨rfl, rfl | rfl⟩ | rfl <;> rfl
    rw [this] at e
    cases e
theorem la7_wg {L : List (Nat × Nat × Option Nat)} {la : Nat} (h : la = 77 ∨ la = 88) (hL : (lZN.all (fun q => Nat.ble 169 q.1 || L.any (fun p => wl_le p q))) = true) : ∀ c i, wg L c i = false → wl [(la + 7, la + 7, none)] c i = false := by
  intro c i e
  have e := wg_g hL c i e
  rcases h with rfl | rfl
  · exact wg_l (L := lZN) (by decide) c i e
  · exact wg_l (L := lZN) (by decide) c i e
/-- ranges of a BLANK -/
theorem bl_wg {L : List (Nat × Nat × Option Nat)} {b : Nat} (h1 : b % 7 = 4) (h2 : 4 ≤ b) (h3 : b ≤ 53) (hL : (lS.all (fun q => Nat.ble 169 q.1 || L.any (fun p => wl_le p q))) = true) : ∀ c i, wg L c i = false → wl [(b + 3, b + 6, none)] c i = false := by
  intro c i e
  have e := wg_g hL c i e
  have : b = 4 ∨ b = 11 ∨ b = 18 ∨ b = 25 ∨ b = 32 ∨ b = 39 ∨ b = 46 ∨ b = 53 := by omega
  rcases this with rfl | rfl | rfl | rfl | rfl | rfl | rfl | rfl <;> exact wg_l (L := lS) (by decide) c i e
theorem bl_wS36 {b : Nat} (h1 : b % 7 = 4) (h2 : 4 ≤ b) (h3 : b ≤ 53) : ∀ c i, wS3 c i = false → wl [(b + 6, b + 6, none)] c i = false := by
  intro c i e
  have : b = 4 ∨ b = 11 ∨ b = 18 ∨ b = 25 ∨ b = 32 ∨ b = 39 ∨ b = 46 ∨ b = 53 := by omega
  rcases this with rfl | rfl | rfl | rfl | rfl | rfl | rfl | rfl <;> exact wl_sub (l := lS) (by decide) c i e
theorem bl_wS35 {b : Nat} (h1 : b % 7 = 4) (h2 : 4 ≤ b) (h3 : b ≤ 53) : ∀ c i, wS3 c i = false → wl [(b + 3, b + 5, none)] c i = false := by
  intro c i e
  have : b = 4 ∨ b = 11 ∨ b = 18 ∨ b = 25 ∨ b = 32 ∨ b = 39 ∨ b = 46 ∨ b = 53 := by omega
  rcases this with rfl | rfl | rfl | rfl | rfl | rfl | rfl | rfl <;> exact wl_sub (l := lS) (by decide) c i e
theorem bl_wPb1 {b : Nat} (h1 : b % 7 = 4) (h2 : 4 ≤ b) (h3 : b ≤ 53) : ∀ c i, wPb c i = false → wl [(b + 1, b + 1 + 1, none)] c i = false := by
  intro c i e
  have : b = 4 ∨ b = 11 ∨ b = 18 ∨ b = 25 ∨ b = 32 ∨ b = 39 ∨ b = 46 ∨ b = 53 := by omega
  rcases this with rfl | rfl | rfl | rfl | rfl | rfl | rfl | rfl <;> exact wg_l (by decide) c i e
theorem bl_wPb3 {b : Nat} (h1 : b % 7 = 4) (h2 : 4 ≤ b) (h3 : b ≤ 53) : ∀ c i, wPb c i = false → wl [(b + 3, b + 5, none)] c i = false := by
  intro c i e
  have : b = 4 ∨ b = 11 ∨ b = 18 ∨ b = 25 ∨ b = 32 ∨ b = 39 ∨ b = 46 ∨ b = 53 := by omega
  rcases this with rfl | rfl | rfl | rfl | rfl | rfl | rfl | rfl <;> exact wg_l (by decide) c i e
theorem dd_wPd {a : Nat} (h1 : 61 ≤ a) (h2 : a ≤ 75) : ∀ c i, wPd c i = false → wl [(a, a + 1, none)] c i = false :=
  wg_ra (Or.inr ⟨(61, 76, none), by decide, h1, by show a + 1 ≤ 76; omega, rfl⟩)
/-- the places of both sides of which answers depend, but for DAY, tape, DEEDS -/
abbrev lR : List (Nat × Nat × Option Nat) := [(5, 59, none), (78, 83, none), (77, 77, some 2), (77, 77, some 7), (89, 94, none), (88, 88, some 2), (88, 88, some 7), (97, 103, none), (0, 0, some 2), (0, 0, some 8), (123, 123, some 0), (123, 123, some 2), (123, 123, some 3), (123, 123, some 20), (124, 124, none), (128, 128, none), (136, 140, none), (143, 148, none)]
def isR : Nat → Nat → Bool := wl lR
theorem isR_in {a i : Nat} (h : ∃ q ∈ lR, q.1 ≤ a ∧ a ≤ q.2.1 ∧ (q.2.2 = none ∨ q.2.2 = some i)) : isR a i = true := by
  obtain ⟨q, hq, h1, h2, h3⟩ := h
  refine wl_mem.mpr ⟨q, hq, ?_⟩
  obtain ⟨q1, q2, q3⟩ := q
  simp only [wl1, Bool.and_eq_true, Nat.ble_eq]
  refine ⟨⟨h1, h2⟩, ?_⟩
  rcases h3 with h3 | h3
  · have e : q3 = none := h3
    subst e; rfl
  · have e : q3 = some i := h3
    subst e; simp
theorem wN_isR {a i : Nat} (h : isR a i = true) : wN a i = false := wg_no (K := lR) (by decide) h
theorem isW_lR {a i : Nat} (h : isW a = true) : wl [(5, 59, none), (61, 76, none)] a i = true := by
  simp only [isW, Bool.or_eq_true, Bool.and_eq_true, Nat.ble_eq, beq_iff_eq] at h
  simp only [wl, wl1, Bool.or_eq_true, Bool.and_eq_true, Nat.ble_eq, and_true, or_false, Bool.false_eq_true]
  omega
theorem wN_isW {a i : Nat} (h : isW a = true) : wN a i = false := wg_no (K := [(5, 59, none), (61, 76, none)]) (by decide) (isW_lR h)
theorem wPl_isW {a i : Nat} (h : isW a = true) : wPl a i = false := wg_no (K := [(5, 59, none), (61, 76, none)]) (by decide) (isW_lR h)
theorem isW_lQ {a i : Nat} (h : isW a = true) : wl [(5, 6, none), (12, 13, none), (19, 20, none), (26, 27, none), (33, 34, none), (40, 41, none), (47, 48, none), (54, 55, none), (61, 76, none)] a i = true := by
  simp only [isW, Bool.or_eq_true, Bool.and_eq_true, Nat.ble_eq, beq_iff_eq] at h
  simp only [wl, wl1, Bool.or_eq_true, Bool.and_eq_true, Nat.ble_eq, and_true, or_false, Bool.false_eq_true]
  omega
theorem wO_isW {a i : Nat} (h : isW a = true) : wO a i = false := wg_no (K := [(5, 6, none), (12, 13, none), (19, 20, none), (26, 27, none), (33, 34, none), (40, 41, none), (47, 48, none), (54, 55, none), (61, 76, none)]) (by decide) (isW_lQ h)
