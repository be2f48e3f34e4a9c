/-! the reference's reader of a LAW: NOTs, jumps, conditions -/
def EPI (cb c : Int) (m m' : Nat → Nat → Int32) : Prop := HW cb c m' ∧ SLK m' = SLK m ∧ KB cb m m' ∧ (m' 123 17).toInt ≤ (m 123 17).toInt ∧ 0 ≤ (m' 123 17).toInt ∧ (∀ j, m' 131 j = m 131 j) ∧ (∀ j : Nat, (m' 123 17).toInt ≤ j → (j : Int) < (m 123 17).toInt → opv (m 131 j) = 10) ∧ OPS m' = OPS m
theorem EPI.start {cb c : Int} {m : Nat → Nat → Int32} (h : HW cb c m) (h0 : 0 ≤ (m 123 17).toInt) : EPI cb c m m := ⟨h, rfl, KB.rf, Int.le_refl _, h0, fun _ => rfl, fun j h1 h2 => by omega, rfl⟩
theorem EPI.step {cb c : Int} {m0 m m2 m3 m4 : Nat → Nat → Int32} {z y : Int32} (h : EPI cb c m0 m) (hc : 1 ≤ c) (h0 : 1 ≤ (m 123 17).toInt) (hop : opv (m 131 ((m 123 17).toInt - 1).toNat) = 10) (n : NOTE 10 0 m m2) (e : m3 = up2 m2 123 17 z) (hz : z.toInt = (m 123 17).toInt - 1) (e4 : m4 = up2 m3 123 15 y) : EPI cb c m0 m4 := by
  obtain ⟨a1, a2, a3, a4, a5, a6, a7, a8⟩ := h
  obtain ⟨b1, b2, b3, b4, b5, b6⟩ := EP_step a1 hc h0 hop n e hz e4
  refine ⟨b1, by omega, a3.trans b3, by omega, by omega, fun j => (b4 j).trans (a6 j), fun j q1 q2 => ?_, by omega⟩
  by_cases hj : (j : Int) = (m 123 17).toInt - 1
  · have : j = ((m 123 17).toInt - 1).toNat := by omega
    rw [← a6, this]; exact hop
  · exact a7 j (by omega) q2
def LDI (cb c : Int) (m m' : Nat → Nat → Int32) : Prop := HW cb c m' ∧ SLK m' = SLK m ∧ KB cb m m' ∧ (m' 123 17).toInt ≤ (m 123 17).toInt ∧ 0 ≤ (m' 123 17).toInt ∧ (∀ j, m' 131 j = m 131 j) ∧ (∀ j : Nat, (m' 123 17).toInt ≤ j → (j : Int) < (m 123 17).toInt → ifv (m 131 j)) ∧ OPS m' = OPS m
theorem LDI.start {cb c : Int} {m : Nat → Nat → Int32} (h : HW cb c m) (h0 : 0 ≤ (m 123 17).toInt) : LDI cb c m m := ⟨h, rfl, KB.rf, Int.le_refl _, h0, fun _ => rfl, fun j h1 h2 => by omega, rfl⟩
theorem LDI.step {cb c p : Int} {m0 m m1 m2 : Nat → Nat → Int32} {x u : Int32} (h : LDI cb c m0 m) (hc : c + OPS m0 ≤ 1) (h0 : 1 ≤ (m 123 17).toInt) (hf : ifv (m 131 ((m 123 17).toInt - 1).toNat)) (hp : p = agv (m 131 ((m 123 17).toInt - 1).toNat)) (e1 : m1 = up2 m 130 p.toNat x) (hx : x.toInt = 1048576 * ((m 130 p.toNat).toInt / 1048576) + (m 123 16).toInt) (hcm : 0 ≤ (m 123 16).toInt) (hcm2 : (m 123 16).toInt ≤ 1000) (e2 : m2 = up2 m1 123 17 u) (hu : u.toInt = (m 123 17).toInt - 1) : LDI cb c m0 m2 := by
  obtain ⟨a1, a2, a3, a4, a5, a6, a7, a8⟩ := h
  subst hp
  obtain ⟨b1, b2, b3, b4⟩ := HW_land a1 h0 hf e1 (show opv x = opv (m 130 (agv (m 131 ((m 123 17).toInt - 1).toNat)).toNat) by unfold opv; omega) (by unfold agv; show _ = (m 123 16).toInt; omega) e2 hu (by omega)
  have e17 : (m2 123 17).toInt = (m 123 17).toInt - 1 := by rw [e2, up2_f]; exact hu
  have e131 : ∀ j, m2 131 j = m 131 j := fun j => by rw [e2, e1, up2_ne (by omega), up2_ne (by omega)]
  refine ⟨b1, by omega, a3.trans b4, by omega, by omega, fun j => (e131 j).trans (a6 j), fun j q1 q2 => ?_, by omega⟩
  by_cases hj : (j : Int) = (m 123 17).toInt - 1
  · have : j = ((m 123 17).toInt - 1).toNat := by omega
    rw [← a6, this]; exact hf
  · exact a7 j (by omega) q2
/-- a jump was written -/
def JPI (cb c : Int) (m m' : Nat → Nat → Int32) : Prop := HW cb c m' ∧ SLK m' = SLK m ∧ KB cb m m' ∧ (m' 123 17).toInt = (m 123 17).toInt + 1 ∧ (∀ j : Nat, (j : Int) < (m 123 17).toInt → m' 131 j = m 131 j) ∧ ifv (m' 131 (m 123 17).toInt.toNat) ∧ (m' 123 12).toInt = (m 123 12).toInt + 1 ∧ m' 123 13 = m 123 13 ∧ OPS m' = OPS m
theorem JPI.of {cb c op : Int} {m m1 m2 m3 m4 : Nat → Nat → Int32} {v u z : Int32} (h : HW cb c m) (hc : 1 ≤ c) (h0 : 0 ≤ (m 123 17).toInt) (ho : op = 11 ∨ op = 12) (e1 : m1 = up2 m 131 (m 123 17).toInt.toNat v) (hv : v.toInt = 1048576 * op + (m 123 16).toInt) (hcm : 0 ≤ (m 123 16).toInt) (hcm2 : (m 123 16).toInt ≤ 1000) (e2 : m2 = up2 m1 123 17 u) (hu : u.toInt = (m 123 17).toInt + 1) (n : NOTE op 0 m2 m3) (e4 : m4 = up2 m3 123 12 z) (hz : z.toInt = (m 123 12).toInt + 1) : JPI cb (c - 1) m m4 := by
  obtain ⟨x, y, en, hx, hy⟩ := n
  have g16 : m2 123 16 = m 123 16 := by rw [e2, e1, up2_ne (by omega), up2_ne (by omega)]
  rw [g16] at en hy
  have hb : cb ≤ (m 123 16).toInt := h.1.2.1
  have ho2 := OPS_ge m
  obtain ⟨b1, b2, b3⟩ := HW_jump h h0 e1 e2 hu rfl en hy (by unfold ifv opv; omega) (by unfold agv; show _ = (m 123 16).toInt; omega) (by unfold ifv opv; omega) (by omega)
  obtain ⟨a1, a2⟩ := HW_move (m' := m4) b1 (by rw [e4, up2_ne (by omega)]) (by rw [e4, up2_ne (by omega)]) (fun j => by rw [e4, up2_ne (by omega)]) (fun j => by rw [e4, up2_ne (by omega)])
  have f12 : (m4 123 12).toInt = (m 123 12).toInt + 1 := by rw [e4, up2_f]; exact hz
  have f12b : (m3 123 12).toInt = (m 123 12).toInt := by rw [en, e2, e1, up2_ne (by omega), up2_ne (by omega), up2_ne (by omega), up2_ne (by omega)]
  refine ⟨a1, by omega, fun k hk => ?_, ?_, fun j hj => ?_, ?_, f12, ?_, ?_⟩
  · rw [e4, en, e2, e1, up2_ne (by omega), up2_ne (by omega), up2_ne (by omega), up2_ne (by omega), up2_ne (by omega)]
  · rw [e4, en, e2, up2_ne (by omega), up2_ne (by omega), up2_ne (by omega), up2_f]; exact hu
  · rw [e4, en, e2, e1, up2_ne (by omega), up2_ne (by omega), up2_ne (by omega), up2_ne (by omega), up2_ne (by omega)]
  · rw [e4, en, e2, e1, up2_ne (by omega), up2_ne (by omega), up2_ne (by omega), up2_ne (by omega), up2_f]; unfold ifv opv; omega
  · rw [e4, en, e2, e1, up2_ne (by omega), up2_ne (by omega), up2_ne (by omega), up2_ne (by omega), up2_ne (by omega)]
  · have : OPS m4 = OPS m3 := by unfold OPS wtm; rw [e4, up2_ne (by omega), up2_off (by omega)]
    omega
/-- a comparison was read, with its NOTs -/
def RC (cb : Int) (m m' : Nat → Nat → Int32) : Prop := HW cb 1 m' ∧ SLK m ≤ SLK m' ∧ KB cb m m' ∧ (m' 123 17).toInt ≤ (m 123 17).toInt ∧ 0 ≤ (m' 123 17).toInt ∧ (∀ j : Nat, (j : Int) < (m' 123 17).toInt → m' 131 j = m 131 j) ∧ (∀ j : Nat, (m' 123 17).toInt ≤ j → (j : Int) < (m 123 17).toInt → opv (m 131 j) = 10) ∧ (m 123 12).toInt ≤ (m' 123 12).toInt ∧ (m' 123 12).toInt ≤ (m' 123 13).toInt ∧ (m' 123 13).toInt = (m 123 13).toInt
theorem RC.of {cb how : Int} {m m1 m2 m3 m4 m5 : Nat → Nat → Int32} {z : Int32} (h0 : 0 ≤ (m 123 17).toInt) (a : RS cb 1 m m1) (e : m2 = up2 m1 123 12 z) (hz : z.toInt = (m1 123 12).toInt + 1) (b : RS cb 2 m2 m3) (n : NOTE how 0 m3 m4) (h1 : 7 ≤ how) (h2 : how ≤ 9) (k : EPI cb 1 m4 m5) (hp : m5 123 12 = m4 123 12) (hl : m5 123 13 = m4 123 13) : RC cb m m5 := by
  obtain ⟨a1, a2, a3, a4, a5, a6, a7, a8⟩ := a
  obtain ⟨b1, b2, b3, b4, b5, b6, b7, b8⟩ := b
  obtain ⟨k1, k2, k3, k4, k5, k6, k7, k8⟩ := k
  obtain ⟨c1, c2, c3, c4, c5⟩ := NOTE_131 n
  have ho3 := OPS_ge m3
  obtain ⟨n1, n2, n3⟩ := NOTE_HW (d := -1) n b1 (by omega) (by omega) (by omega)
  have hb : cb ≤ (m3 123 16).toInt := b1.1.2.1
  obtain ⟨q1, q2⟩ := HW_move (m' := m2) a1 (by rw [e, up2_ne (by omega)]) (by rw [e, up2_ne (by omega)]) (fun j => by rw [e, up2_ne (by omega)]) (fun j => by rw [e, up2_ne (by omega)])
  have e17 : (m2 123 17).toInt = (m 123 17).toInt := by rw [e, up2_ne (by omega)]; exact a4
  have e12 : (m2 123 12).toInt = (m1 123 12).toInt + 1 := by rw [e, up2_f]; exact hz
  have e13 : (m2 123 13).toInt = (m 123 13).toInt := by rw [e, up2_ne (by omega)]; exact a8
  have w4 : (m4 123 17).toInt = (m 123 17).toInt := by rw [c2]; omega
  have s131 : ∀ j : Nat, (j : Int) < (m 123 17).toInt → m4 131 j = m 131 j := fun j hj => by
    rw [c1, b5 j (by omega), e, up2_ne (by omega), a5 j hj]
  refine ⟨k1, by omega, ?_, by omega, k5, fun j hj => (k6 j).trans (s131 j (by omega)), fun j h3 h4 => ?_, by rw [hp, c3]; omega, by rw [hp, hl, c3, c4]; exact b7, by rw [hl, c4]; omega⟩
  · exact a3.trans ((KB_of (fun j => by rw [e, up2_ne (by omega)])).trans (b3.trans ((NOTE_KB n hb).trans k3)))
  · rw [← s131 j h4]; exact k7 j h3 (by omega)
/-- inside a condition: c LETTERS of the stack are made -/
def QC (cb c : Int) (m m' : Nat → Nat → Int32) : Prop := HW cb c m' ∧ 0 ≤ SLK m' ∧ KB cb m m' ∧ 1 ≤ (m' 123 17).toInt ∧ (m' 123 17).toInt ≤ (m' 123 12).toInt ∧ NS m' ∧ opv (m' 131 0) = 13 ∧ (m 123 12).toInt ≤ (m' 123 12).toInt ∧ (m' 123 12).toInt ≤ (m' 123 13).toInt ∧ (m' 123 13).toInt = (m 123 13).toInt
theorem QC.opn {cb c what : Int} {m m1 m2 : Nat → Nat → Int32} (h : QC cb c m m1) (hl : (m1 123 12).toInt < (m1 123 13).toInt) (hw : what = 10 ∨ what = 13) (ho : ∃ o u w z : Int32, m2 = up2 (up2 (up2 (up2 m1 123 15 o) 131 (m1 123 17).toInt.toNat u) 123 17 w) 123 12 z ∧ u.toInt = 1048576 * what ∧ w.toInt = (m1 123 17).toInt + 1 ∧ z.toInt = (m1 123 12).toInt + 1) : QC cb c m m2 := by
  obtain ⟨b1, b2, b3, b4, b5, b6, b7, b8, b9, b10⟩ := h
  obtain ⟨a1, a2, a3, a4, a5, a6, a7, a8, a9, a10⟩ := HW_open b1 (by omega) ho (by omega) (by omega)
  refine ⟨a1, by omega, b3.trans a3, by omega, by omega, fun j hj => ?_, by rw [a7 0 (by omega)]; exact b7, by omega, by rw [a6]; omega, by rw [a6]; exact b10⟩
  by_cases q : (j : Int) < (m1 123 17).toInt
  · rw [a7 j q]; exact b6 j q
  · rw [show j = (m1 123 17).toInt.toNat by omega, a8]; omega
theorem QC.cmp {cb : Int} {m m1 m2 : Nat → Nat → Int32} (h : QC cb 0 m m1) (k : RC cb m1 m2) : QC cb 1 m m2 := by
  obtain ⟨b1, b2, b3, b4, b5, b6, b7, b8, b9, b10⟩ := h
  obtain ⟨k1, k2, k3, k4, k5, k6, k7, k8, k9, k10⟩ := k
  have hw : 1 ≤ (m2 123 17).toInt := by
    apply Int.not_lt.mp
    intro q
    have := k7 0 (by omega) (by omega)
    omega
  exact ⟨k1, by omega, b3.trans k3, hw, by omega, NS_eq b6 k4 k6, by rw [k6 0 (by omega)]; exact b7, by omega, k9, by omega⟩
theorem QC.lnd {cb : Int} {m m1 m2 : Nat → Nat → Int32} (h : QC cb 1 m m1) (k : LDI cb 1 m1 m2) (hp : m2 123 12 = m1 123 12) (hl : m2 123 13 = m1 123 13) : QC cb 1 m m2 := by
  obtain ⟨b1, b2, b3, b4, b5, b6, b7, b8, b9, b10⟩ := h
  obtain ⟨k1, k2, k3, k4, k5, k6, k7, k8⟩ := k
  have hw : 1 ≤ (m2 123 17).toInt := by
    apply Int.not_lt.mp
    intro q
    have := k7 0 (by omega) (by omega)
    unfold ifv at this
    omega
  exact ⟨k1, by omega, b3.trans k3, hw, by rw [hp]; omega, NS_eq b6 k4 (fun j _ => k6 j), by rw [k6]; exact b7, by rw [hp]; exact b8, by rw [hp, hl]; exact b9, by rw [hl]; exact b10⟩
/-- the one that waits last goes: a bracket; then all is there, or more is to come -/
theorem QC.pop {cb : Int} {m m2 m3 m4 m5 : Nat → Nat → Int32} {z y p : Int32} (h : QC cb 1 m m2) (ht : ¬ ifv (m2 131 ((m2 123 17).toInt - 1).toNat)) (e3 : m3 = up2 m2 123 17 z) (hz : z.toInt = (m2 123 17).toInt - 1) (e4 : m4 = up2 m3 123 15 y) (e5 : m5 = up2 m4 123 12 p) (hp : p.toInt = (m2 123 12).toInt + 1) (hl : (m2 123 12).toInt < (m2 123 13).toInt) : HW cb 1 m5 ∧ 0 ≤ SLK m5 ∧ KB cb m m5 ∧ (m5 123 17).toInt = (m2 123 17).toInt - 1 ∧ (1 ≤ (m5 123 17).toInt → QC cb 1 m m5) := by
  obtain ⟨b1, b2, b3, b4, b5, b6, b7, b8, b9, b10⟩ := h
  have hso : sov (m2 131 (wtm m2 - 1).toNat) = 0 := by unfold sov wtm; rw [if_neg (b6 _ (by omega))]
  have hpd := pdv_ge (m2 131 (wtm m2 - 1).toNat)
  obtain ⟨p1, p2, p3⟩ := HW_pop (d := 0) b1 b4 e3 hz ht hso
  obtain ⟨a1, a2⟩ := HW_move (m' := m5) p1 (by rw [e5, e4, up2_ne (by omega), up2_ne (by omega)]) (by rw [e5, e4, up2_ne (by omega), up2_ne (by omega)]) (fun j => by rw [e5, e4, up2_ne (by omega), up2_ne (by omega)]) (fun j => by rw [e5, e4, up2_ne (by omega), up2_ne (by omega)])
  have e12 : (m5 123 12).toInt = (m2 123 12).toInt + 1 := by rw [e5, up2_f]; exact hp
  have e12b : (m3 123 12).toInt = (m2 123 12).toInt := by rw [e3, up2_ne (by omega)]
  have e17 : (m5 123 17).toInt = (m2 123 17).toInt - 1 := by rw [e5, e4, e3, up2_ne (by omega), up2_ne (by omega), up2_f]; exact hz
  have e13 : m5 123 13 = m2 123 13 := by rw [e5, e4, e3, up2_ne (by omega), up2_ne (by omega), up2_ne (by omega)]
  have e131 : ∀ j, m5 131 j = m2 131 j := fun j => by rw [e5, e4, e3, up2_ne (by omega), up2_ne (by omega), up2_ne (by omega)]
  have e130 : ∀ j, m5 130 j = m2 130 j := fun j => by rw [e5, e4, e3, up2_ne (by omega), up2_ne (by omega), up2_ne (by omega)]
  have q1 : HW cb 1 m5 := by rw [show (1 : Int) = 1 + 0 by omega]; exact a1
  have q3 := b3.trans (KB_of (cb := cb) e130)
  refine ⟨q1, by omega, q3, e17, fun hw => ⟨q1, by omega, q3, hw, by omega, NS_eq b6 (by omega) (fun j _ => e131 j), by rw [e131]; exact b7, by omega, by rw [e13]; omega, by rw [e13]; exact b10⟩⟩
theorem QC.end {cb : Int} {m m1 m2 : Nat → Nat → Int32} (h : QC cb 1 m m1) (k : EPI cb 1 m1 m2) (hp : m2 123 12 = m1 123 12) (hl : m2 123 13 = m1 123 13) : QC cb 1 m m2 := by
  obtain ⟨b1, b2, b3, b4, b5, b6, b7, b8, b9, b10⟩ := h
  obtain ⟨k1, k2, k3, k4, k5, k6, k7, k8⟩ := k
  have hw : 1 ≤ (m2 123 17).toInt := by
    apply Int.not_lt.mp
    intro q
    have := k7 0 (by omega) (by omega)
    omega
  exact ⟨k1, by omega, b3.trans k3, hw, by rw [hp]; omega, NS_eq b6 k4 (fun j _ => k6 j), by rw [k6]; exact b7, by rw [hp]; exact b8, by rw [hp, hl]; exact b9, by rw [hl]; exact b10⟩
theorem QC.jmp {cb : Int} {m m1 m2 : Nat → Nat → Int32} (h : QC cb 1 m m1) (k : JPI cb 0 m1 m2) (hl : (m1 123 12).toInt < (m1 123 13).toInt) : QC cb 0 m m2 := by
  obtain ⟨b1, b2, b3, b4, b5, b6, b7, b8, b9, b10⟩ := h
  obtain ⟨k1, k2, k3, k4, k5, k6, k7, k8, k9⟩ := k
  refine ⟨k1, by omega, b3.trans k3, by omega, by omega, fun j hj => ?_, by rw [k5 0 (by omega)]; exact b7, by omega, by rw [k8]; omega, by rw [k8]; exact b10⟩
  by_cases q : (j : Int) < (m1 123 17).toInt
  · rw [k5 j q]; exact b6 j q
  · rw [show j = (m1 123 17).toInt.toNat by omega]; unfold ifv at k6; omega
/-- a condition begins: its first bracket is open -/
theorem QC.start {m m1 m2 m3 : Nat → Nat → Int32} {y z : Int32} (hs : 0 ≤ SLK m) (hc : 0 ≤ (m 123 16).toInt) (h0 : 0 ≤ (m 123 17).toInt) (e1 : m1 = up2 m 123 15 y) (e2 : m2 = up2 m1 123 17 z) (hz : z.toInt = 0) (hp : 0 ≤ (m 123 12).toInt) (hl : (m 123 12).toInt < (m 123 13).toInt) (ho : ∃ o u w z : Int32, m3 = up2 (up2 (up2 (up2 m2 123 15 o) 131 (m2 123 17).toInt.toNat u) 123 17 w) 123 12 z ∧ u.toInt = 1048576 * 13 ∧ w.toInt = (m2 123 17).toInt + 1 ∧ z.toInt = (m2 123 12).toInt + 1) : QC (m 123 16).toInt 0 m m3 := by
  have f16 : m2 123 16 = m 123 16 := by rw [e2, e1, up2_ne (by omega), up2_ne (by omega)]
  have f12 : m2 123 12 = m 123 12 := by rw [e2, e1, up2_ne (by omega), up2_ne (by omega)]
  have f13 : m2 123 13 = m 123 13 := by rw [e2, e1, up2_ne (by omega), up2_ne (by omega)]
  have f17 : (m2 123 17).toInt = 0 := by rw [e2, up2_f]; exact hz
  have f131 : m2 131 = m 131 := by rw [e2, e1, up2_off (by omega), up2_off (by omega)]
  have hn : HW (m 123 16).toInt 0 m2 := by
    have := HW_new (m := m2) (by show 0 ≤ (m2 123 16).toInt; rw [f16]; exact hc) f17
    unfold cmm at this
    rw [f16] at this
    exact this
  have hsl : 0 ≤ SLK m2 := by
    have := sumF_ge (f := m 131) pdv_ge (m 123 17).toInt.toNat
    unfold SLK plm cmm wtm at hs ⊢
    rw [f12, f16, f17, f131]
    simp only [show (0 : Int).toNat = 0 from rfl, sumF]
    omega
  obtain ⟨a1, a2, a3, a4, a5, a6, a7, a8, a9, a10⟩ := HW_open hn (by omega) ho (by omega) (by omega)
  have e12 : (m2 123 12).toInt = (m 123 12).toInt := by rw [f12]
  have e13 : (m2 123 13).toInt = (m 123 13).toInt := by rw [f13]
  refine ⟨a1, by omega, ?_, by omega, by omega, fun j hj => ?_, ?_, by omega, by rw [a6]; omega, by rw [a6]; exact e13⟩
  · exact (KB_of (fun j => by rw [e2, e1, up2_ne (by omega), up2_ne (by omega)])).trans a3
  · rw [show j = (m2 123 17).toInt.toNat by omega, a8]; omega
  · rw [f17] at a8; exact a8
/-- the CLAUSES that were read so far can be reckoned -/
def SX (m : Nat → Nat → Int32) : Prop := ∀ q : Nat, (q : Int) < (m 123 18).toInt → WFc (m 130) (m 133 q).toInt.toNat (m 134 q).toInt.toNat ∧ WFc (m 130) (m 134 q).toInt.toNat (m 135 q).toInt.toNat ∧ (m 134 q).toInt ≤ (m 135 q).toInt ∧ (m 135 q).toInt ≤ (m 123 16).toInt ∧ (m 133 q).toInt ≤ (m 134 q).toInt
/-- the LAW that stands can be reckoned -/
def LX (m : Nat → Nat → Int32) : Prop := ∀ q : Nat, (q : Int) < (m 123 20).toInt → WFc (m 136) (m 138 q).toInt.toNat (m 139 q).toInt.toNat ∧ WFc (m 136) (m 139 q).toInt.toNat (m 140 q).toInt.toNat ∧ (m 138 q).toInt ≤ 179 ∧ (m 139 q).toInt ≤ 179
theorem LX_eq {m m' : Nat → Nat → Int32} (h : LX m) (h0 : m' 123 20 = m 123 20) (h1 : ∀ j, m' 136 j = m 136 j) (h2 : ∀ j, m' 138 j = m 138 j) (h3 : ∀ j, m' 139 j = m 139 j) (h4 : ∀ j, m' 140 j = m 140 j) : LX m' := by
  intro q hq
  rw [h0] at hq
  rw [h2, h3, h4, show m' 136 = m 136 from funext h1]
  exact h q hq
