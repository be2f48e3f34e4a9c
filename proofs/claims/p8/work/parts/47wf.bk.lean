/-! a STROKE taken back, on both sides -/
def LSO (f : Nat → Int32) (n x : Int) (v : Int) : Prop := (0 ≤ v ∧ v < n ∧ (f v.toNat).toInt = x ∧ ∀ i : Nat, v < (i : Int) → (i : Int) < n → (f i).toInt ≠ x) ∨ (v = -1 ∧ ∀ i : Nat, (i : Int) < n → (f i).toInt ≠ x)
theorem LSO_det {f g : Nat → Int32} {n x v w : Int} (h : LSO f n x v) (h2 : LSO g n x w) (e : ∀ i : Nat, (i : Int) < n → (g i).toInt = (f i).toInt) : v = w := by
  rcases h with ⟨a1, a2, a3, a4⟩ | ⟨a1, a2⟩ <;> rcases h2 with ⟨c1, c2, c3, c4⟩ | ⟨c1, c2⟩
  · by_cases z : v < w
    · have := a4 w.toNat (by omega) (by omega)
      rw [← e _ (by omega)] at this
      exact absurd c3 this
    · by_cases y : w < v
      · have := c4 v.toNat (by omega) (by omega)
        rw [e _ (by omega)] at this
        exact absurd a3 this
      · omega
  · have := c2 v.toNat (by omega)
    rw [e _ (by omega)] at this
    exact absurd a3 this
  · have := a2 w.toNat (by omega)
    rw [← e _ (by omega)] at this
    exact absurd c3 this
  · omega
def rmv (f : Nat → Int32) (a b w j : Nat) : Int32 := if a ≤ j ∧ j < b then f (j + w) else f j
def sh (q i : Nat) : Nat := if q ≤ i then i + 1 else i
theorem rmv_row {f : Nat → Int32} {q n i : Nat} (h : i < n) : rmv f q n 1 i = f (sh q i) := by
  unfold rmv sh
  by_cases z : q ≤ i
  · rw [if_pos ⟨z, h⟩, if_pos z]
  · rw [if_neg (fun y => z y.1), if_neg z]
theorem rmv_num {f : Nat → Int32} {q n i k : Nat} (h : i < n) (hk : k < 9) : rmv f (9 * q) (9 * n) 9 (9 * i + k) = f (9 * sh q i + k) := by
  unfold rmv sh
  by_cases z : q ≤ i
  · rw [if_pos ⟨by omega, by omega⟩, if_pos z]; congr 1; omega
  · rw [if_neg (fun y => by omega), if_neg z]
theorem sh_lt {q n i : Nat} (h : i < n) : sh q i < n + 1 := by unfold sh; split <;> omega
def RMVc (m M : Nat → Nat → Int32) (q : Nat) : Prop := (M 97 6).toInt = (m 97 6).toInt - 1 ∧ (∀ a j, 98 ≤ a → a ≤ 102 → M a j = rmv (m a) q ((m 97 6).toInt.toNat - 1) 1 j) ∧ ∀ j, M 103 j = rmv (m 103) (9 * q) (9 * ((m 97 6).toInt.toNat - 1)) 9 j
def RMVr (m M : Nat → Nat → Int32) (q : Nat) : Prop := (M 123 3).toInt = (m 123 3).toInt - 1 ∧ (∀ a j, 143 ≤ a → a ≤ 147 → M a j = rmv (m a) q ((m 123 3).toInt.toNat - 1) 1 j) ∧ ∀ j, M 148 j = rmv (m 148) (9 * q) (9 * ((m 123 3).toInt.toNat - 1)) 9 j
def BCKc (m M : Nat → Nat → Int32) (e b : Nat) (v : Int) : Prop := ∃ q : Nat, LSO (m 98) (m 97 6).toInt b q ∧ v = (m 102 q).toInt ∧ (∀ w, M (e + 6) w = mkd (m (e + 6)) (fun k => (m 103 (9 * q + k)).toInt.toNat) 0 v.toNat w) ∧ (∀ a i, 5 ≤ a → a ≤ 59 → (a < e + 3 ∨ e + 6 < a) → M a i = m a i) ∧ RST M e ∧ RMVc m M q
def BCKr (m M : Nat → Nat → Int32) (b : Nat) (v : Int) : Prop := ∃ q : Nat, LSO (m 143) (m 123 3).toInt b q ∧ v = (m 147 q).toInt ∧ (∀ j, M 128 j = mkd (m 128) (fun k => 40 * b + (m 148 (9 * q + k)).toInt.toNat) 0 v.toNat j) ∧ RMVr m M q
/-- back's answers: refused, or one taken back -/
def BCKP (has : Prop) (same : Prop) (bck : Int → Prop) (v : Int) : Prop := (¬ has ∧ v = -1 ∧ same) ∨ (has ∧ bck v)
section BK
variable {la lb : Nat} {mc mr mc2 mr2 : Nat → Nat → Int32}
theorem LSO_has {f : Nat → Int32} {n x v : Int} (h : LSO f n x v) (h0 : 0 ≤ v) : ∃ i : Nat, (i : Int) < n ∧ (f i).toInt = x := by
  rcases h with ⟨a1, a2, a3, _⟩ | ⟨a1, _⟩
  · exact ⟨v.toNat, by omega, a3⟩
  · omega
theorem LSO_no {f : Nat → Int32} {n x v : Int} (h : LSO f n x v) (h0 : v < 0) : ¬ ∃ i : Nat, (i : Int) < n ∧ (f i).toInt = x := by
  rcases h with ⟨a1, a2, a3, _⟩ | ⟨_, a2⟩
  · omega
  · exact fun ⟨i, h1, h2⟩ => a2 i h1 h2
theorem BCK_RE {b : Nat} {v w : Int} (hl : la = 77 ∨ la = 88) (hS : SB2 mc mr) (h : REST la lb mc mr) (hb : (b : Int) < (mc 0 2).toInt) (s : BCKc mc mc2 (4 + 7 * b) b v) (t : BCKr mr mr2 b w)
    (c2 : mc2 0 2 = mc 0 2) (c8 : mc2 0 8 = mc 0 8) (cl2 : mc2 la 2 = mc la 2) (cl7 : mc2 la 7 = mc la 7) (cla : ∀ a i, la < a → a ≤ la + 6 → mc2 a i = mc a i) (dcr : ∀ a i, 136 ≤ a → a ≤ 140 → mr2 a i = mr a i) (d20 : mr2 123 20 = mr 123 20) (d2 : mr2 123 2 = mr 123 2) : v = w ∧ REST la lb mc2 mr2 := by
  obtain ⟨h1, h2, h3, h4, h5, h6, h7⟩ := h
  obtain ⟨q, s1, s2, s3, s4, s5, s6, s7, s8⟩ := s
  obtain ⟨q2, t1, t2, t3, t4, t5, t6⟩ := t
  obtain ⟨b1, b2, b8, b3⟩ := hS
  have e3 : (mr 123 3).toInt = (mc 97 6).toInt := h3.1.symm
  rw [e3] at t1 t4 t5 t6
  have rows : ∀ i : Nat, (i : Int) < (mc 97 6).toInt → ∀ k, k ≤ 4 → mr (143 + k) i = mc (98 + k) i := fun i hi k hk => ((h3.2 i hi).1 k hk).symm
  have eq : (q : Int) = q2 := LSO_det s1 t1 (fun i hi => congrArg Int32.toInt (rows i hi 0 (by omega)))
  have eq : q2 = q := by omega
  subst eq
  have hq : (q2 : Int) < (mc 97 6).toInt := by
    rcases s1 with ⟨_, a2, _⟩ | ⟨a1, _⟩
    · exact a2
    · omega
  have ev : v = w := by rw [s2, t2]; exact congrArg Int32.toInt (rows q2 hq 4 (by omega)).symm
  subst ev
  obtain ⟨i1, i2, i3, i4, i5⟩ := h4 q2 hq
  have hbq : (mc 98 q2).toInt = b := by
    rcases s1 with ⟨_, _, a3, _⟩ | ⟨a1, _⟩
    · rw [show ((q2 : Nat) : Int).toNat = q2 by omega] at a3; exact a3
    · omega
  obtain ⟨⟨w0, w40⟩, w1, w2⟩ := b3 b hb
  have hnum : ∀ k : Nat, k < v.toNat → 0 ≤ (mc 103 (9 * q2 + k)).toInt ∧ (mc 103 (9 * q2 + k)).toInt < 40 ∧ mr 148 (9 * q2 + k) = mc 103 (9 * q2 + k) := fun k hk => by
    have z := i5 k (by omega)
    rw [hbq, show ((b : Nat) : Int).toNat = b by omega] at z
    exact ⟨z.1, by omega, ((h3.2 q2 hq).2 k (by omega)).symm⟩
  refine ⟨rfl, fun b' x hb' hx => ?_, fun b' hb' => ?_, ⟨by omega, fun i hi => ?_⟩, fun i hi => ?_, LWE_k hl h5 cl2 cl7 cla dcr d20, h6, by rw [c8, d2]; exact h7⟩
  · by_cases z : b' = b
    · subst z
      rw [s3 x, t3]
      exact (mkd_eq (S := mc (4 + 7 * b' + 6)) (T := mr 128) (c := 40 * b') (h1 b' x hb' hx).symm v.toNat (fun i hi => by show 40 * b' + (mr 148 (9 * q2 + i)).toInt.toNat = _; rw [(hnum i hi).2.2])).symm
    · rw [s4 _ _ (by omega) (by omega) (by omega), t3, mkd_no v.toNat (fun i hi y => by
        have z1 := hnum i hi
        rw [z1.2.2] at y
        omega)]
      exact h1 b' x hb' hx
  · rw [c2] at hb'
    by_cases z : b' = b
    · subst z; exact s5
    · exact RST_eq (h2 b' hb') (fun a j q1 q2 => s4 a j (by omega) (by omega) (by omega))
  · have hi1 : i < (mc 97 6).toInt.toNat - 1 := by omega
    have hs := sh_lt (q := q2) hi1
    have hs2 : ((sh q2 i : Nat) : Int) < (mc 97 6).toInt := by omega
    obtain ⟨k1, k2⟩ := h3.2 _ hs2
    have k9 := (h4 _ hs2).2.2.2.1
    refine ⟨fun k hk => by rw [s7 _ _ (by omega) (by omega), t5 _ _ (by omega) (by omega), rmv_row hi1, rmv_row hi1]; exact k1 k hk, fun k hk => ?_⟩
    rw [s7 102 _ (by omega) (by omega), rmv_row hi1] at hk
    rw [s8, t6, rmv_num hi1 (by omega), rmv_num hi1 (by omega)]
    exact k2 k hk
  · have hi1 : i < (mc 97 6).toInt.toNat - 1 := by omega
    have hs := sh_lt (q := q2) hi1
    have hs2 : ((sh q2 i : Nat) : Int) < (mc 97 6).toInt := by omega
    obtain ⟨k1, k2, k3, k4, k5⟩ := h4 _ hs2
    rw [s7 98 _ (by omega) (by omega), s7 102 _ (by omega) (by omega), rmv_row hi1, rmv_row hi1, c2]
    refine ⟨k1, k2, k3, k4, fun k hk => ?_⟩
    rw [s8, rmv_num hi1 (by omega), s4 _ _ (by omega) (by omega) (by omega)]
    exact k5 k hk
end BK
theorem rmv_0 {f : Nat → Int32} {a b w j : Nat} (h : b ≤ a) : rmv f a b w j = f j := by unfold rmv; rw [if_neg (fun z => by omega)]
theorem rmv_hi {f : Nat → Int32} {a b w j : Nat} (h : b ≤ j) : rmv f a b w j = f j := by unfold rmv; rw [if_neg (fun z => by omega)]
theorem rmv_s {f : Nat → Int32} {a b w j : Nat} (h : a ≤ b) : rmv f a (b + 1) w j = if j = b then f (b + w) else rmv f a b w j := by
  unfold rmv
  by_cases y : j = b
  · rw [if_pos y, y, if_pos (by omega)]
  · rw [if_neg y]
    by_cases z : a ≤ j ∧ j < b
    · rw [if_pos z, if_pos (by omega)]
    · rw [if_neg z, if_neg (fun q => z ⟨q.1, by omega⟩)]
