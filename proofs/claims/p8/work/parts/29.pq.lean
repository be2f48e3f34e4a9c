/-! the reference's reader of a LAW: whole methods -/
theorem SLK_pl {m m' : Nat → Nat → Int32} (h1 : m' 123 16 = m 123 16) (h2 : m' 123 17 = m 123 17) (h4 : ∀ j, m' 131 j = m 131 j) : SLK m' = SLK m + ((m' 123 12).toInt - (m 123 12).toInt) := by
  unfold SLK plm cmm wtm
  rw [h1, h2, show m' 131 = m 131 from funext h4]
  omega
/-- what was read inside a sum: the signs and brackets that wait above where it began -/
def RLs (cb c : Int) (m m' : Nat → Nat → Int32) : Prop := HW cb c m' ∧ SLK m ≤ SLK m' ∧ KB cb m m' ∧ (m 123 17).toInt ≤ (m' 123 17).toInt ∧ (m' 123 17).toInt ≤ (m' 123 12).toInt ∧ (∀ j : Nat, (j : Int) < (m 123 17).toInt → m' 131 j = m 131 j) ∧ (∀ j : Nat, (m 123 17).toInt ≤ j → (j : Int) < (m' 123 17).toInt → (2 ≤ opv (m' 131 j) ∧ opv (m' 131 j) ≤ 6) ∨ opv (m' 131 j) = 14) ∧ (m 123 12).toInt ≤ (m' 123 12).toInt ∧ (m' 123 12).toInt ≤ (m' 123 13).toInt ∧ (m' 123 13).toInt = (m 123 13).toInt
theorem RLs.start {cb c : Int} {m : Nat → Nat → Int32} (h : HW cb c m) (h1 : (m 123 17).toInt ≤ (m 123 12).toInt) (h2 : (m 123 12).toInt ≤ (m 123 13).toInt) : RLs cb c m m := ⟨h, Int.le_refl _, KB.rf, Int.le_refl _, h1, fun _ _ => rfl, fun j a b => by omega, Int.le_refl _, h2, rfl⟩
theorem RLs.trans {cb c d : Int} {m m1 m2 : Nat → Nat → Int32} (h : RLs cb d m m1) (k : RLs cb c m1 m2) : RLs cb c m m2 := by
  obtain ⟨a1, a2, a3, a4, a5, a6, a7, a8, a9, a10⟩ := h
  obtain ⟨b1, b2, b3, b4, b5, b6, b7, b8, b9, b10⟩ := k
  refine ⟨b1, by omega, a3.trans b3, by omega, b5, fun j hj => (b6 j (by omega)).trans (a6 j hj), fun j h1 h2 => ?_, by omega, b9, by omega⟩
  by_cases hj : (j : Int) < (m1 123 17).toInt
  · rw [b6 j hj]; exact a7 j h1 hj
  · exact b7 j (by omega) h2
/-- the reader moves on by n signs, and nothing else of what it holds changes -/
theorem HW_move {cb c : Int} {m m' : Nat → Nat → Int32} (h : HW cb c m) (h1 : m' 123 16 = m 123 16) (h2 : m' 123 17 = m 123 17) (h3 : ∀ j, m' 130 j = m 130 j) (h4 : ∀ j, m' 131 j = m 131 j) : HW cb c m' ∧ SLK m' = SLK m + ((m' 123 12).toInt - (m 123 12).toInt) := ⟨HW_eq h1 h2 h3 h4 h, SLK_pl h1 h2 h4⟩
/-- a bracket or a NOT is opened -/
theorem HW_open {cb c what : Int} {m m' : Nat → Nat → Int32} (h : HW cb c m) (h0 : 0 ≤ (m 123 17).toInt) (ho : ∃ o u w z : Int32, m' = up2 (up2 (up2 (up2 m 123 15 o) 131 (m 123 17).toInt.toNat u) 123 17 w) 123 12 z ∧ u.toInt = 1048576 * what ∧ w.toInt = (m 123 17).toInt + 1 ∧ z.toInt = (m 123 12).toInt + 1) (h1 : 7 ≤ what) (hw : what ≠ 11 ∧ what ≠ 12) : HW cb c m' ∧ SLK m ≤ SLK m' ∧ KB cb m m' ∧ (m' 123 17).toInt = (m 123 17).toInt + 1 ∧ (m' 123 12).toInt = (m 123 12).toInt + 1 ∧ m' 123 13 = m 123 13 ∧ (∀ j : Nat, (j : Int) < (m 123 17).toInt → m' 131 j = m 131 j) ∧ opv (m' 131 (m 123 17).toInt.toNat) = what ∧ m' 123 16 = m 123 16 ∧ OPS m' = OPS m := by
  obtain ⟨o, u, w, z, e, hu, hw2, hz⟩ := ho
  have ou : opv u = what := by unfold opv; omega
  have hq : HW cb c (up2 m 123 15 o) := HW_eq (up2_ne (by omega)) (up2_ne (by omega)) (fun j => up2_ne (by omega)) (fun j => up2_ne (by omega)) h
  have hw1 : wtm (up2 m 123 15 o) = (m 123 17).toInt := by unfold wtm; rw [up2_ne (by omega)]
  have hs : sov u = 0 := by unfold sov; rw [if_neg (by omega)]
  obtain ⟨p1, p2, p3⟩ := HW_push (d := 0) hq (by rw [hw1]; exact h0) (by rw [hw1]) rfl (v := u) (u := w) (by rw [hw1]; exact hw2) (by unfold ifv; omega) hs
  have hpd : pdv u ≤ 1 := by unfold pdv; split <;> omega
  have s1 : SLK (up2 m 123 15 o) = SLK m := SLK_eq (up2_ne (by omega)) (up2_ne (by omega)) (up2_ne (by omega)) (fun j => up2_ne (by omega))
  subst e
  obtain ⟨r1, r2⟩ := HW_move (m' := up2 (up2 (up2 (up2 m 123 15 o) 131 (m 123 17).toInt.toNat u) 123 17 w) 123 12 z) p1 (up2_ne (by omega)) (up2_ne (by omega)) (fun j => up2_ne (by omega)) (fun j => up2_ne (by omega))
  have e12 : (up2 (up2 (up2 (up2 m 123 15 o) 131 (m 123 17).toInt.toNat u) 123 17 w) 123 12 z 123 12).toInt = (m 123 12).toInt + 1 := by rw [up2_f]; exact hz
  have e12b : (up2 (up2 (up2 m 123 15 o) 131 (m 123 17).toInt.toNat u) 123 17 w 123 12).toInt = (m 123 12).toInt := by rw [up2_ne (by omega), up2_ne (by omega), up2_ne (by omega)]
  refine ⟨by rw [show c = c - 0 by omega]; exact r1, by omega, fun k hk => ?_, ?_, e12, ?_, fun j hj => ?_, ?_, ?_, ?_⟩
  · rw [up2_ne (by omega), up2_ne (by omega), up2_ne (by omega), up2_ne (by omega)]
  · rw [up2_ne (by omega), up2_f]; exact hw2
  · rw [up2_ne (by omega), up2_ne (by omega), up2_ne (by omega), up2_ne (by omega)]
  · rw [up2_ne (by omega), up2_ne (by omega), up2_ne (by omega), up2_ne (by omega)]
  · rw [up2_ne (by omega), up2_ne (by omega), up2_f]; exact ou
  · rw [up2_ne (by omega), up2_ne (by omega), up2_ne (by omega), up2_ne (by omega)]
  · have g1 : OPS (up2 (up2 (up2 (up2 m 123 15 o) 131 (m 123 17).toInt.toNat u) 123 17 w) 123 12 z) = OPS (up2 (up2 (up2 m 123 15 o) 131 (m 123 17).toInt.toNat u) 123 17 w) := by
      unfold OPS wtm
      rw [up2_ne (by omega), up2_off (by omega)]
    have g2 : OPS (up2 m 123 15 o) = OPS m := by unfold OPS wtm; rw [up2_ne (by omega), up2_off (by omega)]
    omega
theorem RLs.opn {cb c : Int} {m m1 m2 : Nat → Nat → Int32} (h : RLs cb c m m1) (h00 : 0 ≤ (m 123 17).toInt) (hl : (m1 123 12).toInt < (m1 123 13).toInt) (ho : ∃ o u w z : Int32, m2 = up2 (up2 (up2 (up2 m1 123 15 o) 131 (m1 123 17).toInt.toNat u) 123 17 w) 123 12 z ∧ u.toInt = 1048576 * 14 ∧ w.toInt = (m1 123 17).toInt + 1 ∧ z.toInt = (m1 123 12).toInt + 1) : RLs cb c m m2 := by
  have h0 : 0 ≤ (m1 123 17).toInt := by have := h.2.2.2.1; omega
  obtain ⟨a1, a2, a3, a4, a5, a6, a7, a8, a9, a10⟩ := HW_open h.1 h0 ho (by omega) (by omega)
  refine h.trans ⟨a1, a2, a3, by omega, by have := h.2.2.2.2.1; omega, a7, fun j q1 q2 => Or.inr ?_, by omega, by rw [a6]; omega, by rw [a6]⟩
  have : j = (m1 123 17).toInt.toNat := by omega
  rw [this]; exact a8
/-- a number was read, and its code written -/
theorem RLs.num {cb c v : Int} {m m1 m2 m3 : Nat → Nat → Int32} (h : RLs cb c m m1) (h1 : m2 123 16 = m1 123 16) (h2 : m2 123 17 = m1 123 17) (h3 : ∀ j, m2 130 j = m1 130 j) (h4 : ∀ j, m2 131 j = m1 131 j) (hp : (m1 123 12).toInt + 1 ≤ (m2 123 12).toInt) (hl : (m2 123 12).toInt ≤ (m2 123 13).toInt) (hl2 : (m2 123 13).toInt = (m1 123 13).toInt) (n : NOTE 0 v m2 m3) (v1 : 0 ≤ v) (v2 : v < 1048576) : RLs cb (c + 1) m m3 := by
  obtain ⟨a1, a2⟩ := HW_move h.1 h1 h2 h3 h4
  obtain ⟨b1, b2, b3⟩ := NOTE_HW (d := 1) n a1 v1 v2 (by omega)
  obtain ⟨c1, c2, c3, c4, c5⟩ := NOTE_131 n
  have hb : cb ≤ (m2 123 16).toInt := a1.1.2.1
  have hw := h.2.2.2.2.1
  have e1 : (m2 123 17).toInt = (m1 123 17).toInt := by rw [h2]
  refine h.trans ⟨b1, by omega, (KB_of h3).trans (NOTE_KB n hb), by rw [c2, h2]; exact Int.le_refl _, by rw [c2, c3]; omega, fun j _ => (c1 j).trans (h4 j), fun j q1 q2 => ?_, by rw [c3]; omega, by rw [c3, c4]; exact hl, by rw [c4]; exact hl2⟩
  rw [c2] at q2; omega
/-- a name's code was written, and it is passed -/
theorem RLs.nam {cb c v : Int} {m m1 m2 m3 : Nat → Nat → Int32} {z : Int32} (h : RLs cb c m m1) (n : NOTE 1 v m1 m2) (v1 : 0 ≤ v) (v2 : v ≤ 9) (e : m3 = up2 m2 123 12 z) (hz : z.toInt = (m1 123 12).toInt + 1) (hl : (m1 123 12).toInt < (m1 123 13).toInt) : RLs cb (c + 1) m m3 := by
  obtain ⟨b1, b2, b3⟩ := NOTE_HW (d := 1) n h.1 v1 (by omega) (by omega)
  obtain ⟨c1, c2, c3, c4, c5⟩ := NOTE_131 n
  have hb : cb ≤ (m1 123 16).toInt := h.1.1.2.1
  obtain ⟨a1, a2⟩ := HW_move (m' := m3) b1 (by rw [e, up2_ne (by omega)]) (by rw [e, up2_ne (by omega)]) (fun j => by rw [e, up2_ne (by omega)]) (fun j => by rw [e, up2_ne (by omega)])
  have e12 : (m3 123 12).toInt = (m1 123 12).toInt + 1 := by rw [e, up2_f]; exact hz
  have e17 : m3 123 17 = m1 123 17 := by rw [e, up2_ne (by omega), c2]
  have e13 : m3 123 13 = m1 123 13 := by rw [e, up2_ne (by omega), c4]
  have e12b : (m2 123 12).toInt = (m1 123 12).toInt := by rw [c3]
  have hw := h.2.2.2.2.1
  refine h.trans ⟨a1, by omega, (NOTE_KB n hb).trans (KB_of (fun j => by rw [e, up2_ne (by omega)])), by rw [e17]; exact Int.le_refl _, by rw [e17]; omega, fun j _ => by rw [e, up2_ne (by omega)]; exact c1 j, fun j q1 q2 => ?_, by omega, by rw [e13]; omega, by rw [e13]⟩
  rw [e17] at q2; omega
def NS (m : Nat → Nat → Int32) : Prop := ∀ j : Nat, (j : Int) < (m 123 17).toInt → ¬ (2 ≤ opv (m 131 j) ∧ opv (m 131 j) ≤ 6)
/-- the signs that bind no looser are written; none below where the sum began -/
theorem RLs.cls {cb c : Int} {m m1 m2 : Nat → Nat → Int32} (h : RLs cb c m m1) (ns : NS m) (h00 : 0 ≤ (m 123 17).toInt) (k : CSI cb c m1 m2) (hp : m2 123 12 = m1 123 12) (hl : m2 123 13 = m1 123 13) : RLs cb c m m2 := by
  obtain ⟨a1, a2, a3, a4, a5, a6, a7, a8, a9, a10⟩ := h
  obtain ⟨b1, b2, b3, b4, b5, b6, b7⟩ := k
  have hge : (m 123 17).toInt ≤ (m2 123 17).toInt := by
    apply Int.le_of_not_gt
    intro q
    have hj := b7 (m2 123 17).toInt.toNat (by omega) (by omega)
    rw [a6 _ (by omega)] at hj
    exact ns _ (by omega) hj
  refine ⟨b1, by omega, a3.trans b3, hge, by rw [hp]; omega, fun j hj => (b6 j).trans (a6 j hj), fun j q1 q2 => ?_, by rw [hp]; exact a8, by rw [hp, hl]; exact a9, by rw [hl]; exact a10⟩
  rw [b6]; exact a7 j q1 (by omega)
/-- a sign begins to wait, and is passed -/
theorem RLs.sign {cb c s : Int} {m m2 m3 m4 m5 : Nat → Nat → Int32} {v w z : Int32} (h : RLs cb c m m2) (h00 : 0 ≤ (m 123 17).toInt) (s1 : 2 ≤ s) (s2 : s ≤ 6) (e1 : m3 = up2 m2 131 (m2 123 17).toInt.toNat v) (hv : v.toInt = 1048576 * s) (e2 : m4 = up2 m3 123 17 w) (hw : w.toInt = (m2 123 17).toInt + 1) (e3 : m5 = up2 m4 123 12 z) (hz : z.toInt = (m2 123 12).toInt + 1) (hl : (m2 123 12).toInt < (m2 123 13).toInt) : RLs cb (c - 1) m m5 := by
  have h0 : 0 ≤ (m2 123 17).toInt := by have := h.2.2.2.1; omega
  have ov : opv v = s := by unfold opv; omega
  have hs : sov v = 1 := by unfold sov; rw [if_pos (by omega)]
  have hp : pdv v = 1 := by unfold pdv; rw [if_pos (by omega)]
  obtain ⟨p1, p2, p3⟩ := HW_push (d := 1) h.1 h0 e1 e2 hw (by unfold ifv; omega) hs
  obtain ⟨a1, a2⟩ := HW_move (m' := m5) p1 (by rw [e3, up2_ne (by omega)]) (by rw [e3, up2_ne (by omega)]) (fun j => by rw [e3, up2_ne (by omega)]) (fun j => by rw [e3, up2_ne (by omega)])
  have e12 : (m5 123 12).toInt = (m2 123 12).toInt + 1 := by rw [e3, up2_f]; exact hz
  have e12b : (m4 123 12).toInt = (m2 123 12).toInt := by rw [e2, e1, up2_ne (by omega), up2_ne (by omega)]
  have e17 : (m5 123 17).toInt = (m2 123 17).toInt + 1 := by rw [e3, e2, up2_ne (by omega), up2_f]; exact hw
  have e13 : m5 123 13 = m2 123 13 := by rw [e3, e2, e1, up2_ne (by omega), up2_ne (by omega), up2_ne (by omega)]
  have hwp := h.2.2.2.2.1
  refine h.trans ⟨a1, by omega, KB_of (fun j => by rw [e3, e2, e1, up2_ne (by omega), up2_ne (by omega), up2_ne (by omega)]), by omega, by omega, fun j hj => by rw [e3, e2, e1, up2_ne (by omega), up2_ne (by omega), up2_ne (by omega)], fun j q1 q2 => Or.inl ?_, by omega, by rw [e13]; omega, by rw [e13]⟩
  have hj : j = (m2 123 17).toInt.toNat := by omega
  have : m5 131 j = v := by rw [hj, e3, e2, e1, up2_ne (by omega), up2_ne (by omega), up2_f]
  rw [this, ov]; exact ⟨s1, s2⟩
/-- a bracket of a sum is closed: the bracket goes -/
theorem RLs.close {cb c : Int} {m m1 m2 m3 m4 m5 : Nat → Nat → Int32} {z y p : Int32} (h1 : RLs cb c m m1) (h : RLs cb c m m2) (h00 : 0 ≤ (m 123 17).toInt) (k : CSI cb c m1 m2) (hj : ∃ j : Nat, (m 123 17).toInt ≤ j ∧ (j : Int) < (m1 123 17).toInt ∧ opv (m1 131 j) = 14) (ht : (m2 123 17).toInt = 0 ∨ ¬ (2 ≤ opv (m2 131 ((m2 123 17).toInt - 1).toNat) ∧ opv (m2 131 ((m2 123 17).toInt - 1).toNat) ≤ 6)) (e3 : m3 = up2 m2 123 17 z) (hz : z.toInt = (m2 123 17).toInt - 1) (e4 : m4 = up2 m3 123 15 y) (e5 : m5 = up2 m4 123 12 p) (hp : p.toInt = (m2 123 12).toInt + 1) (hl : (m2 123 12).toInt < (m2 123 13).toInt) : RLs cb c m m5 ∧ 1 ≤ (m2 123 17).toInt := by
  obtain ⟨j, j1, j2, j3⟩ := hj
  have j4 := k.wt1 j2 (by omega)
  have hw1 : 1 ≤ (m2 123 17).toInt := by omega
  have h14 : opv (m2 131 ((m2 123 17).toInt - 1).toNat) = 14 := by
    rcases h.2.2.2.2.2.2.1 ((m2 123 17).toInt - 1).toNat (by omega) (by omega) with q | q
    · rcases ht with t | t
      · omega
      · exact absurd q t
    · exact q
  obtain ⟨p1, p2, p3⟩ := HW_pop (d := 0) h.1 hw1 e3 hz (by unfold ifv wtm; omega) (by unfold sov wtm; rw [if_neg (by omega)])
  have hpd : pdv (m2 131 (wtm m2 - 1).toNat) = 0 := by unfold pdv wtm; rw [if_neg (by omega)]
  obtain ⟨a1, a2⟩ := HW_move (m' := m5) p1 (by rw [e5, e4, up2_ne (by omega), up2_ne (by omega)]) (by rw [e5, e4, up2_ne (by omega), up2_ne (by omega)]) (fun j => by rw [e5, e4, up2_ne (by omega), up2_ne (by omega)]) (fun j => by rw [e5, e4, up2_ne (by omega), up2_ne (by omega)])
  have e12 : (m5 123 12).toInt = (m2 123 12).toInt + 1 := by rw [e5, up2_f]; exact hp
  have e12b : (m3 123 12).toInt = (m2 123 12).toInt := by rw [e3, up2_ne (by omega)]
  have e17 : (m5 123 17).toInt = (m2 123 17).toInt - 1 := by rw [e5, e4, e3, up2_ne (by omega), up2_ne (by omega), up2_f]; exact hz
  have e13 : m5 123 13 = m2 123 13 := by rw [e5, e4, e3, up2_ne (by omega), up2_ne (by omega), up2_ne (by omega)]
  have e131 : ∀ j, m5 131 j = m2 131 j := fun j => by rw [e5, e4, e3, up2_ne (by omega), up2_ne (by omega), up2_ne (by omega)]
  have e130 : ∀ j, m5 130 j = m2 130 j := fun j => by rw [e5, e4, e3, up2_ne (by omega), up2_ne (by omega), up2_ne (by omega)]
  obtain ⟨b1, b2, b3, b4, b5, b6, b7, b8, b9, b10⟩ := h
  refine ⟨⟨by rw [show c = c + 0 by omega]; exact a1, by omega, b3.trans (KB_of e130), by omega, by omega, fun j hj => (e131 j).trans (b6 j hj), fun j q1 q2 => by rw [e131]; exact b7 j q1 (by omega), by omega, by rw [e13]; omega, by rw [e13]; exact b10⟩, hw1⟩
/-- a sum was read -/
def RS (cb c : Int) (m m' : Nat → Nat → Int32) : Prop := HW cb c m' ∧ SLK m ≤ SLK m' ∧ KB cb m m' ∧ (m' 123 17).toInt = (m 123 17).toInt ∧ (∀ j : Nat, (j : Int) < (m 123 17).toInt → m' 131 j = m 131 j) ∧ (m 123 12).toInt ≤ (m' 123 12).toInt ∧ (m' 123 12).toInt ≤ (m' 123 13).toInt ∧ (m' 123 13).toInt = (m 123 13).toInt
theorem RLs.fin {cb c : Int} {m m1 m2 : Nat → Nat → Int32} (h1 : RLs cb c m m1) (h : RLs cb c m m2) (h00 : 0 ≤ (m 123 17).toInt) (k : CSI cb c m1 m2) (hn : ∀ j : Nat, (m 123 17).toInt ≤ j → (j : Int) < (m1 123 17).toInt → opv (m1 131 j) ≠ 14) (ht : (m2 123 17).toInt = 0 ∨ ¬ (2 ≤ opv (m2 131 ((m2 123 17).toInt - 1).toNat) ∧ opv (m2 131 ((m2 123 17).toInt - 1).toNat) ≤ 6)) : RS cb c m m2 := by
  obtain ⟨b1, b2, b3, b4, b5, b6, b7, b8, b9, b10⟩ := h
  refine ⟨b1, b2, b3, ?_, b6, b8, b9, b10⟩
  apply Int.le_antisymm _ b4
  apply Int.le_of_not_gt
  intro q
  have hj := h1.2.2.2.2.2.2.1 ((m2 123 17).toInt - 1).toNat (by omega) (by have := k.2.2.2.1; omega)
  have hn2 := hn ((m2 123 17).toInt - 1).toNat (by omega) (by have := k.2.2.2.1; omega)
  rw [← k.2.2.2.2.2.1] at hj hn2
  rcases ht with t | t
  · omega
  · rcases hj with w | w
    · exact t w
    · exact hn2 w
theorem NS_eq {m m' : Nat → Nat → Int32} (h : NS m) (h1 : (m' 123 17).toInt ≤ (m 123 17).toInt) (h2 : ∀ j : Nat, (j : Int) < (m' 123 17).toInt → m' 131 j = m 131 j) : NS m' := fun j hj => by rw [h2 j hj]; exact h j (by omega)
theorem NS_ops {m : Nat → Nat → Int32} (h : NS m) : OPS m = 0 := by
  have : ∀ k : Nat, (k : Int) ≤ (m 123 17).toInt → sumF sov (m 131) k = 0 := by
    intro k
    induction k with
    | zero => intro _; rfl
    | succ k ih =>
      intro hk
      simp only [sumF]
      rw [ih (by omega)]
      have : sov (m 131 k) = 0 := by unfold sov; rw [if_neg (h k (by omega))]
      omega
  by_cases hw : 0 ≤ (m 123 17).toInt
  · exact this (m 123 17).toInt.toNat (by omega)
  · unfold OPS; rw [show (wtm m).toNat = 0 by unfold wtm; omega]; rfl
