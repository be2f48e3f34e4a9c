/-! THE SHORTEST of the class: one LETTER further; all states from the last one back -/
abbrev Szs : (Nat → Int) → Prop := S12
theorem up2_own {m m2 : Nat → Nat → Int32} {a j : Nat} {v : Int32} (e : m2 = up2 m a j v) : m2 = up2 m a j (m2 a j) := by rw [e, up2_eq]
theorem up2_id (m : Nat → Nat → Int32) (a j : Nat) : up2 m a j (m a j) = m := by
  funext b i
  by_cases h : b = a ∧ i = j
  · obtain ⟨rfl, rfl⟩ := h; rw [up2_eq]
  · rw [up2_ne h]
theorem at_lap {m M : Nat → Nat → Int32} {pp : Nat → Nat} {d b : Nat} {i : Int} (hF : ∀ b j, b ≠ 175 → M b j = m b j) (hD : Dj pp) (hd : d < 4) (hA : ATx m pp) (hb : b = pp d) (hi : i = atp m d) : atv M b i = lap m pp d := by
  have q := hD d hd
  have a := (hA d hd).1
  subst hb hi
  unfold atv lap szp
  rw [hF _ 1 (by omega), hF _ _ (by omega)]
  by_cases z : atp m d < (m (pp d) 1).toInt
  · rw [if_pos ⟨a, z⟩, if_pos z]
  · rw [if_neg (fun q => z q.2), if_neg z]
/-- where one stands: places, state -/
def CK (m : Nat → Nat → Int32) (pp : Nat → Nat) (st : Int) : Prop := S12 (szp m pp) ∧ ATx m pp ∧ APx m pp ∧ 0 ≤ st ∧ st ≤ ix4 (szp m pp) (atp m)
theorem CK_le {m : Nat → Nat → Int32} {pp : Nat → Nat} {st : Int} (h : CK m pp st) : 0 ≤ st ∧ st ≤ 28560 := by
  have := ix4_le h.1 (fun d hd => (h.2.1 d hd).2)
  exact ⟨h.2.2.2.1, by have := h.2.2.2.2; omega⟩
theorem CX_eq2 {m m2 : Nat → Nat → Int32} {pp : Nat → Nat} (e : ∀ b j, b ≤ 76 ∨ (173 ≤ b ∧ b ≤ 176) → m2 b j = m b j) (hD : Dj pp) : (∀ d, d < 4 → szp m2 pp d = szp m pp d) ∧ (∀ d, atp m2 d = atp m d) ∧ (∀ d, d < 4 → lap m2 pp d = lap m pp d) := by
  exact ⟨szp_eq (fun b hb => funext fun j => e b j (by omega)) hD, fun d => congrArg Int32.toInt (e 175 d (by omega)), lap_eq (fun b hb => funext fun j => e b j (by omega)) hD⟩
theorem CK_eq {m m2 : Nat → Nat → Int32} {pp : Nat → Nat} {st : Int} (h : CK m pp st) (e : ∀ b j, b ≤ 76 ∨ (173 ≤ b ∧ b ≤ 176) → m2 b j = m b j) (hD : Dj pp) : CK m2 pp st := by
  obtain ⟨hs, ha, _⟩ := CX_eq2 e hD
  obtain ⟨h1, h2, h3, h4, h5⟩ := h
  exact ⟨fun d hd => by rw [hs d hd]; exact h1 d hd, fun d hd => by rw [hs d hd, ha d]; exact h2 d hd, fun d hd => by rw [e 176 d (by omega), cA_of hs (3 - d) (by omega)]; exact h3 d hd, h4, by rw [ix4_of hs (fun d _ => ha d)]; exact h5⟩
theorem wnh_eq {m m2 : Nat → Nat → Int32} {pp : Nat → Nat} (e : ∀ b j, b ≤ 76 ∨ (173 ≤ b ∧ b ≤ 176) → m2 b j = m b j) (hD : Dj pp) (l : Int) : wn (szp m2 pp) (hw m2 pp l) 4 = wn (szp m pp) (hw m pp l) 4 := by
  obtain ⟨hs, _, hl⟩ := CX_eq2 e hD
  exact wn_of hs (fun d hd => by unfold hw; rw [hl d hd]) 4 (by omega)
theorem CK_0 {m m2 : Nat → Nat → Int32} {pp : Nat → Nat} (h1 : S12 (szp m pp)) (h2 : APx m pp) (e : ∀ b j, b ≤ 76 ∨ b = 173 ∨ b = 174 ∨ b = 176 → m2 b j = m b j) (hD : Dj pp) (h0 : ∀ d, d < 4 → (m2 175 d).toInt = 0) : CK m2 pp 0 := by
  have hs : ∀ d, d < 4 → szp m2 pp d = szp m pp d := szp_eq (fun b hb => funext fun j => e b j (by omega)) hD
  have k1 : S12 (szp m2 pp) := fun d hd => by rw [hs d hd]; exact h1 d hd
  have k2 : ATx m2 pp := fun d hd => by have a := h0 d hd; have b := k1 d hd; unfold atp; omega
  exact ⟨k1, k2, fun d hd => by rw [e 176 d (by omega), cA_of hs (3 - d) (by omega)]; exact h2 d hd, Int.le_refl _, ix4_0 k1 (fun d hd => (k2 d hd).1)⟩
theorem CK_step {m m2 : Nat → Nat → Int32} {pp : Nat → Nat} {st on l : Int} (h : CK m pp st) (hD : Dj pp) (hl : l ≠ -1) (h0 : 0 ≤ on) (hon : on ≤ wn (szp m pp) (hw m pp l) 4) (e : ∀ b j, b ≠ 175 → m2 b j = m b j) (h2 : ∀ d, d < 4 → (m2 175 d).toInt = atp m d + hw m pp l d) : CK m2 pp (st + on) := by
  have hs : ∀ d, d < 4 → szp m2 pp d = szp m pp d := szp_eq (fun b hb => funext fun j => e b j (by omega)) hD
  obtain ⟨a1, a2, a3, a4, a5⟩ := h
  have k := hw_at a2 hl
  refine ⟨fun d hd => by rw [hs d hd]; exact a1 d hd, fun d hd => ?_, fun d hd => by rw [e 176 d (by omega), cA_of hs (3 - d) (by omega)]; exact a3 d hd, by omega, ?_⟩
  · have q := h2 d hd
    have q2 := k d hd
    have q3 := hw_b m pp l d
    have q4 := a2 d hd
    rw [hs d hd]
    unfold atp at *
    omega
  · rw [ix4_of hs (a := atp m2) (a' := fun d => atp m d + hw m pp l d) (fun d hd => h2 d hd), ← wn_4]
    omega
theorem wo_t {b j : Nat} (h : b ≤ 169 ∨ (172 ≤ b ∧ b ≤ 174) ∨ b = 176 ∨ 178 ≤ b) : wl [(170, 171, none), (175, 175, none), (177, 177, none)] b j = false := by
  cases hc : wl [(170, 171, none), (175, 175, none), (177, 177, none)] b j with
  | false => rfl
  | true =>
    simp only [wl, wl1, Bool.or_eq_true, Bool.and_eq_true, Nat.ble_eq, Bool.false_eq_true, or_false, and_true] at hc
    omega
theorem wo_s {b j : Nat} (h : b ≤ 169 ∨ (172 ≤ b ∧ b ≤ 174) ∨ 179 ≤ b) : wl [(170, 171, none), (175, 178, none)] b j = false := by
  cases hc : wl [(170, 171, none), (175, 178, none)] b j with
  | false => rfl
  | true =>
    simp only [wl, wl1, Bool.or_eq_true, Bool.and_eq_true, Nat.ble_eq, Bool.false_eq_true, or_false, and_true] at hc
    omega
theorem cA_step {s : Nat → Int} {x y d : Int} (h : S12 s) (h0 : 0 ≤ d) (h3 : d ≤ 3) (hx : x = cA s (3 - d).toNat) (hy : y = s d.toNat + 1) : x * y = cA s (3 - (d - 1)).toNat ∧ 1 ≤ x * y ∧ x * y ≤ 28561 := by
  have e : x * y = cA s (3 - (d - 1)).toNat := by
    rw [show (3 - (d - 1)).toNat = (3 - d).toNat + 1 by omega, cA_s, ← hx, show 3 - (3 - d).toNat = d.toNat by omega, ← hy]
  have b := cA_b h (3 - (d - 1)).toNat (by omega)
  refine ⟨e, by omega, ?_⟩
  have : (13 : Int) ^ (3 - (d - 1)).toNat ≤ 28561 := by
    have z : (3 - (d - 1)).toNat = 1 ∨ (3 - (d - 1)).toNat = 2 ∨ (3 - (d - 1)).toNat = 3 ∨ (3 - (d - 1)).toNat = 4 := by omega
    rcases z with z | z | z | z <;> rw [z] <;> decide
  omega
def SVb (m : Nat → Nat → Int32) (pp : Nat → Nat) (k : Nat) : Prop := S12 (szp m pp) ∧ APx m pp ∧ (∀ d, d < k → 0 ≤ (m 175 d).toInt ∧ (m 175 d).toInt ≤ szp m pp d) ∧ -1 ≤ (m 175 k).toInt ∧ (m 175 k).toInt ≤ szp m pp k
theorem SVb_eq {m m2 : Nat → Nat → Int32} {pp : Nat → Nat} (e : ∀ b j, b ≠ 175 → b ≤ 176 → m2 b j = m b j) (hD : Dj pp) (h1 : S12 (szp m pp)) (h2 : APx m pp) : S12 (szp m2 pp) ∧ APx m2 pp ∧ (∀ d, d < 4 → szp m2 pp d = szp m pp d) := by
  have hs : ∀ d, d < 4 → szp m2 pp d = szp m pp d := szp_eq (fun b hb => funext fun j => e b j (by omega) (by omega)) hD
  exact ⟨fun d hd => by rw [hs d hd]; exact h1 d hd, fun d hd => by rw [e 176 d (by omega) (by omega), cA_of hs (3 - d) (by omega)]; exact h2 d hd, hs⟩
def SV0 (m : Nat → Nat → Int32) (pp : Nat → Nat) (st : Int) : Prop := SVb m pp 0 ∧ st = ((m 175 0).toInt + 1) * cA (szp m pp) 3
def SV1 (m : Nat → Nat → Int32) (pp : Nat → Nat) (st : Int) : Prop := SVb m pp 1 ∧ st = (m 175 0).toInt * cA (szp m pp) 3 + ((m 175 1).toInt + 1) * cA (szp m pp) 2
def SV2 (m : Nat → Nat → Int32) (pp : Nat → Nat) (st : Int) : Prop := SVb m pp 2 ∧ st = (m 175 0).toInt * cA (szp m pp) 3 + (m 175 1).toInt * cA (szp m pp) 2 + ((m 175 2).toInt + 1) * cA (szp m pp) 1
def SV3 (m : Nat → Nat → Int32) (pp : Nat → Nat) (st : Int) : Prop := SVb m pp 3 ∧ st = (m 175 0).toInt * cA (szp m pp) 3 + (m 175 1).toInt * cA (szp m pp) 2 + (m 175 2).toInt * cA (szp m pp) 1 + ((m 175 3).toInt + 1) * cA (szp m pp) 0
/-- place k is set, all else of it stays -/
theorem SVb_set {m m1 m2 : Nat → Nat → Int32} {pp : Nat → Nat} {k k2 : Nat} {v : Int32} (h : SVb m pp k2) (hD : Dj pp) (e1 : ∀ b j, b ≤ 176 → m1 b j = m b j) (e : m2 = up2 m1 175 k v) (hk : k < 4) (hp : ∀ d, d < k → 0 ≤ (m 175 d).toInt ∧ (m 175 d).toInt ≤ szp m pp d) (hv : -1 ≤ v.toInt ∧ v.toInt ≤ szp m pp k) : SVb m2 pp k ∧ (∀ d, d < 4 → szp m2 pp d = szp m pp d) ∧ (∀ d, d ≠ k → m2 175 d = m 175 d) ∧ m2 175 k = v := by
  have f : ∀ b j, b ≠ 175 → b ≤ 176 → m2 b j = m b j := fun b j h1 h2 => by rw [e, up2_ne (by omega)]; exact e1 b j h2
  have g : ∀ d, d ≠ k → m2 175 d = m 175 d := fun d hd => by rw [e, up2_ne (by omega)]; exact e1 175 d (by omega)
  have gk : m2 175 k = v := by rw [e, up2_eq]
  obtain ⟨q1, q2, q3⟩ := SVb_eq f hD h.1 h.2.1
  exact ⟨⟨q1, q2, fun d hd => by rw [g d (by omega), q3 d (by omega)]; exact hp d hd, by rw [gk]; exact hv.1, by rw [gk, q3 k hk]; exact hv.2⟩, q3, g, gk⟩
theorem SV_start {m m2 : Nat → Nat → Int32} {pp : Nat → Nat} {v : Int32} {st : Int} (h1 : S12 (szp m pp)) (h2 : APx m pp) (h4 : st = cA (szp m pp) 4) (hD : Dj pp) (e : m2 = up2 m 175 0 v) (hv : v.toInt = szp m pp 0) : SV0 m2 pp st := by
  have f : ∀ b j, b ≠ 175 → b ≤ 176 → m2 b j = m b j := fun b j _ _ => by rw [e, up2_ne (by omega)]
  obtain ⟨q1, q2, q3⟩ := SVb_eq f hD h1 h2
  have gk : m2 175 0 = v := by rw [e, up2_eq]
  have z := h1 0 (by omega)
  refine ⟨⟨q1, q2, fun d hd => absurd hd (by omega), by rw [gk]; omega, by rw [gk, q3 0 (by omega)]; omega⟩, ?_⟩
  rw [gk, hv, h4, cA_of q3 3 (by omega)]
  have : cA (szp m pp) 4 = szp m pp 0 * cA (szp m pp) 3 + cA (szp m pp) 3 := cA_x (szp m pp) 3
  rw [Int.add_mul, Int.one_mul]
  omega
theorem SV_in0 {m m2 : Nat → Nat → Int32} {pp : Nat → Nat} {v : Int32} {st : Int} (h : SV0 m pp st) (h0 : 0 ≤ (m 175 0).toInt) (hD : Dj pp) (e : m2 = up2 m 175 1 v) (hv : v.toInt = szp m pp 1) : SV1 m2 pp st := by
  have z := h.1.1 1 (by omega)
  obtain ⟨q1, q2, q3, q4⟩ := SVb_set (k := 1) h.1 hD (fun _ _ _ => rfl) e (by omega) (fun d hd => by rw [show d = 0 by omega]; exact ⟨h0, h.1.2.2.2.2⟩) ⟨by omega, by omega⟩
  refine ⟨q1, ?_⟩
  rw [q4, q3 0 (by omega), cA_of q2 3 (by omega), cA_of q2 2 (by omega), h.2, hv]
  have : cA (szp m pp) 3 = szp m pp 1 * cA (szp m pp) 2 + cA (szp m pp) 2 := cA_x (szp m pp) 2
  simp only [Int.add_mul, Int.one_mul]
  omega
theorem SV_in1 {m m2 : Nat → Nat → Int32} {pp : Nat → Nat} {v : Int32} {st : Int} (h : SV1 m pp st) (h0 : 0 ≤ (m 175 1).toInt) (hD : Dj pp) (e : m2 = up2 m 175 2 v) (hv : v.toInt = szp m pp 2) : SV2 m2 pp st := by
  have z := h.1.1 2 (by omega)
  obtain ⟨q1, q2, q3, q4⟩ := SVb_set (k := 2) h.1 hD (fun _ _ _ => rfl) e (by omega) (fun d hd => by
    by_cases w : d < 1
    · exact h.1.2.2.1 d w
    · rw [show d = 1 by omega]; exact ⟨h0, h.1.2.2.2.2⟩) ⟨by omega, by omega⟩
  refine ⟨q1, ?_⟩
  rw [q4, q3 0 (by omega), q3 1 (by omega), cA_of q2 3 (by omega), cA_of q2 2 (by omega), cA_of q2 1 (by omega), h.2, hv]
  have : cA (szp m pp) 2 = szp m pp 2 * cA (szp m pp) 1 + cA (szp m pp) 1 := cA_x (szp m pp) 1
  simp only [Int.add_mul, Int.one_mul]
  omega
theorem SV_in2 {m m2 : Nat → Nat → Int32} {pp : Nat → Nat} {v : Int32} {st : Int} (h : SV2 m pp st) (h0 : 0 ≤ (m 175 2).toInt) (hD : Dj pp) (e : m2 = up2 m 175 3 v) (hv : v.toInt = szp m pp 3) : SV3 m2 pp st := by
  have z := h.1.1 3 (by omega)
  obtain ⟨q1, q2, q3, q4⟩ := SVb_set (k := 3) h.1 hD (fun _ _ _ => rfl) e (by omega) (fun d hd => by
    by_cases w : d < 2
    · exact h.1.2.2.1 d w
    · rw [show d = 2 by omega]; exact ⟨h0, h.1.2.2.2.2⟩) ⟨by omega, by omega⟩
  refine ⟨q1, ?_⟩
  rw [q4, q3 0 (by omega), q3 1 (by omega), q3 2 (by omega), cA_of q2 3 (by omega), cA_of q2 2 (by omega), cA_of q2 1 (by omega), cA_of q2 0 (by omega), h.2, hv]
  have : cA (szp m pp) 1 = szp m pp 3 * cA (szp m pp) 0 + cA (szp m pp) 0 := cA_x (szp m pp) 0
  simp only [Int.add_mul, Int.one_mul]
  omega
theorem SV_out0 {m m2 : Nat → Nat → Int32} {pp : Nat → Nat} {v : Int32} {st : Int} (h : SV1 m pp st) (h0 : (m 175 1).toInt < 0) (hD : Dj pp) (e : m2 = up2 m 175 0 v) (hv : v.toInt = (m 175 0).toInt - 1) : SV0 m2 pp st := by
  have z := h.1.2.2.1 0 (by omega)
  have z2 := h.1.2.2.2.1
  obtain ⟨q1, q2, q3, q4⟩ := SVb_set (k := 0) h.1 hD (fun _ _ _ => rfl) e (by omega) (fun d hd => absurd hd (by omega)) ⟨by omega, by omega⟩
  refine ⟨q1, ?_⟩
  rw [q4, cA_of q2 3 (by omega), h.2, hv, show (m 175 1).toInt + 1 = 0 by omega, show (m 175 0).toInt - 1 + 1 = (m 175 0).toInt by omega, Int.zero_mul]
  omega
theorem SV_out1 {m m2 : Nat → Nat → Int32} {pp : Nat → Nat} {v : Int32} {st : Int} (h : SV2 m pp st) (h0 : (m 175 2).toInt < 0) (hD : Dj pp) (e : m2 = up2 m 175 1 v) (hv : v.toInt = (m 175 1).toInt - 1) : SV1 m2 pp st := by
  have z := h.1.2.2.1 1 (by omega)
  have z2 := h.1.2.2.2.1
  obtain ⟨q1, q2, q3, q4⟩ := SVb_set (k := 1) h.1 hD (fun _ _ _ => rfl) e (by omega) (fun d hd => h.1.2.2.1 d (by omega)) ⟨by omega, by omega⟩
  refine ⟨q1, ?_⟩
  rw [q4, q3 0 (by omega), cA_of q2 3 (by omega), cA_of q2 2 (by omega), h.2, hv, show (m 175 2).toInt + 1 = 0 by omega, show (m 175 1).toInt - 1 + 1 = (m 175 1).toInt by omega, Int.zero_mul]
  omega
theorem SV_out2 {m m2 : Nat → Nat → Int32} {pp : Nat → Nat} {v : Int32} {st : Int} (h : SV3 m pp st) (h0 : (m 175 3).toInt < 0) (hD : Dj pp) (e : m2 = up2 m 175 2 v) (hv : v.toInt = (m 175 2).toInt - 1) : SV2 m2 pp st := by
  have z := h.1.2.2.1 2 (by omega)
  have z2 := h.1.2.2.2.1
  obtain ⟨q1, q2, q3, q4⟩ := SVb_set (k := 2) h.1 hD (fun _ _ _ => rfl) e (by omega) (fun d hd => h.1.2.2.1 d (by omega)) ⟨by omega, by omega⟩
  refine ⟨q1, ?_⟩
  rw [q4, q3 0 (by omega), q3 1 (by omega), cA_of q2 3 (by omega), cA_of q2 2 (by omega), cA_of q2 1 (by omega), h.2, hv, show (m 175 3).toInt + 1 = 0 by omega, show (m 175 2).toInt - 1 + 1 = (m 175 2).toInt by omega, Int.zero_mul]
  omega
theorem SV3_ix {m : Nat → Nat → Int32} {pp : Nat → Nat} {st : Int} (h : SV3 m pp st) (h0 : 0 ≤ (m 175 3).toInt) : ATx m pp ∧ st - 1 = ix4 (szp m pp) (atp m) ∧ 0 ≤ st - 1 ∧ st - 1 ≤ 28560 := by
  have hA : ATx m pp := fun d hd => by
    by_cases w : d < 3
    · exact h.1.2.2.1 d w
    · rw [show d = 3 by omega]; exact ⟨h0, h.1.2.2.2.2⟩
  have e : st - 1 = ix4 (szp m pp) (atp m) := by
    have c0 : cA (szp m pp) 0 = 1 := rfl
    rw [h.2]
    unfold ix4 atp
    simp only [Int.add_mul, Int.one_mul]
    omega
  have q := ix4_0 h.1.1 (fun d hd => (hA d hd).1)
  have q2 := ix4_le h.1.1 (fun d hd => (hA d hd).2)
  exact ⟨hA, e, by omega, by omega⟩
theorem SV3_next {m m1 m2 : Nat → Nat → Int32} {pp : Nat → Nat} {v : Int32} {st st2 : Int} (h : SV3 m pp st) (h0 : 0 ≤ (m 175 3).toInt) (hD : Dj pp) (e1 : ∀ b j, b ≤ 176 → m1 b j = m b j) (e : m2 = up2 m1 175 3 v) (hv : v.toInt = (m 175 3).toInt - 1) (hs : st2 = st - 1) : SV3 m2 pp st2 := by
  have z := h.1.2.2.2
  obtain ⟨q1, q2, q3, q4⟩ := SVb_set (k := 3) h.1 hD e1 e (by omega) (fun d hd => h.1.2.2.1 d hd) ⟨by omega, by omega⟩
  refine ⟨q1, ?_⟩
  rw [q4, q3 0 (by omega), q3 1 (by omega), q3 2 (by omega), cA_of q2 3 (by omega), cA_of q2 2 (by omega), cA_of q2 1 (by omega), cA_of q2 0 (by omega), hs, h.2, hv]
  have c0 : cA (szp m pp) 0 = 1 := rfl
  simp only [Int.add_mul, Int.sub_mul, Int.one_mul]
  omega
