/-! references that change: the parts; the LAW -/
def ro (r r' : Nat → Value) : Prop := ∀ j, (j < 172000 ∨ 173000 ≤ j) → r' j = r j
theorem ro.rf {r : Nat → Value} : ro r r := fun _ _ => rfl
theorem ro.trans {r r1 r2 : Nat → Value} (h : ro r r1) (h2 : ro r1 r2) : ro r r2 := fun j q => (h2 j q).trans (h j q)
theorem ro.set {r r1 r2 : Nat → Value} {X : Int} {v : Value} (h : ro r r1) (e : r2 = up1 r1 (1000 * 172 + X.toNat) v) (h1 : 0 ≤ X) (h2 : X < 4) : ro r r2 := fun j q => by rw [e, up1_ne (by omega)]; exact h j q
theorem RX_ro {T : List mv_T} {r r' : Nat → Value} {la lb : Nat} (R : RX T r la lb) (h : ro r r') : RX T r' la lb :=
  ⟨fun b hb => (h _ (by omega)).trans (R.1 b hb), fun i hi => (h _ (by omega)).trans (R.2.1 i hi), (h 1 (by omega)).trans R.2.2.1, (h 3 (by omega)).trans R.2.2.2.1, R.2.2.2.2.1, R.2.2.2.2.2⟩
/-- the LAW and the draft -/
def rl (r r' : Nat → Value) : Prop := ∀ j, j ≠ 1 → j ≠ 3 → r' j = r j
theorem rl.rf {r : Nat → Value} : rl r r := fun _ _ _ => rfl
theorem rl.trans {r r1 r2 : Nat → Value} (h : rl r r1) (h2 : rl r1 r2) : rl r r2 := fun j q p => (h2 j q p).trans (h j q p)
theorem rl.set {r r1 r2 : Nat → Value} {k : Nat} {v : Value} (h : rl r r1) (e : r2 = up1 r1 k v) (hk : k = 1 ∨ k = 3) : rl r r2 := fun j q p => by rw [e, up1_ne (by omega)]; exact h j q p
def sqVr (T : List mv_T) (B : Nat → Nat → Int × Int) (W : Nat → Nat → Bool) (ρ : (Nat → Value) → (Nat → Value) → Prop) (r : Nat → Value) (m0 : Nat → Nat → Int32) (P : (Nat → Nat → Int32) → (Nat → Value) → Prop) : Option Value → List pv_C → Prop := fun rv h' => ∃ (m' : Nat → Nat → Int32) (n' : Nat → Nat → Int64) (r' : Nat → Value), h' = mk T m' n' r' ∧ rv = none ∧ IV B m' ∧ fr W m0 m' ∧ ρ r r' ∧ P m' r'
def sqAr (T : List mv_T) (B : Nat → Nat → Int × Int) (W : Nat → Nat → Bool) (ρ : (Nat → Value) → (Nat → Value) → Prop) (r : Nat → Value) (m0 : Nat → Nat → Int32) (a : Nat) (P : (Nat → Nat → Int32) → (Nat → Value) → Prop) : Option Value → List pv_C → Prop := fun rv h' => ∃ (m' : Nat → Nat → Int32) (n' : Nat → Nat → Int64) (r' : Nat → Value), h' = mk T m' n' r' ∧ rv = some (.ref a) ∧ IV B m' ∧ fr W m0 m' ∧ ρ r r' ∧ P m' r'
def sqJr (T : List mv_T) (B : Nat → Nat → Int × Int) (W : Nat → Nat → Bool) (ρ : (Nat → Value) → (Nat → Value) → Prop) (r : Nat → Value) (m0 : Nat → Nat → Int32) (P : (Nat → Nat → Int32) → (Nat → Value) → Prop) : Option Value → List pv_C → Prop := fun rv h' => ∃ (m' : Nat → Nat → Int32) (n' : Nat → Nat → Int64) (r' : Nat → Value) (v : Int64), h' = mk T m' n' r' ∧ rv = some (.long v) ∧ IV B m' ∧ fr W m0 m' ∧ ρ r r' ∧ P m' r'
def sqIr (T : List mv_T) (B : Nat → Nat → Int × Int) (W : Nat → Nat → Bool) (ρ : (Nat → Value) → (Nat → Value) → Prop) (r : Nat → Value) (m0 : Nat → Nat → Int32) (l1 l2 : Int) (P : (Nat → Nat → Int32) → (Nat → Value) → Int32 → Prop) : Option Value → List pv_C → Prop := fun rv h' => ∃ (m' : Nat → Nat → Int32) (n' : Nat → Nat → Int64) (r' : Nat → Value) (v : Int32), h' = mk T m' n' r' ∧ rv = some (.int v) ∧ IV B m' ∧ fr W m0 m' ∧ ρ r r' ∧ l1 ≤ v.toInt ∧ v.toInt ≤ l2 ∧ P m' r' v
theorem NMt {T : List mv_T} (h : TC T) {X : Nat} (hx : X < 4) : NM T 172 (1000 * 172 + X) := by
  unfold TC at h
  rw [h]
  exact NMp hx
def TK (T : List mv_T) : Prop := T = TL ∨ T = TL2
theorem NM1k {T : List mv_T} (h : TK T) : NM T 0 1 := by
  rcases h with h | h
  · rw [h]; exact NM1
  · rw [h]; exact NM1c
theorem NM3k {T : List mv_T} (h : TK T) : NM T 86 3 := by
  rcases h with h | h
  · rw [h]; exact NM3
  · rw [h]; exact NM3c
theorem NM2t {T : List mv_T} (h : TC T) : NM T 0 2 := by
  unfold TC at h
  rw [h]
  exact NM2c
theorem up1_same {r : Nat → Value} {j : Nat} {v : Value} (h : r j = v) : up1 r j v = r := by
  funext i
  by_cases z : i = j
  · rw [z, up1_eq]; exact h.symm
  · rw [up1_ne z]
theorem hu_of {ds : List (Option (Nat ⊕ Nat))} {i j : Nat} (h : (ds.mapIdx (fun q d => q == i || !(decide (d = some (Sum.inr j))))).all id = true) : ∀ q, q ≠ i → ds[q]? ≠ some (some (.inr j)) := by
  intro q hq hd
  have hm : (q == i || !(decide ((some (Sum.inr j) : Option (Nat ⊕ Nat)) = some (Sum.inr j)))) ∈ ds.mapIdx (fun q d => q == i || !(decide (d = some (Sum.inr j)))) := List.mem_of_getElem? (i := q) (by rw [List.getElem?_mapIdx, hd]; rfl)
  have z := List.all_eq_true.mp h _ hm
  simp [hq] at z
/-- the parts: rows of no more than twelve LETTERS -/
def PXE (T : List mv_T) (r : Nat → Value) (m : Nat → Nat → Int32) : Prop := ∃ pp qq, PX T r pp qq ∧ Dj pp ∧ S12 (szp m pp)
theorem PXE_m {T : List mv_T} {r : Nat → Value} {m m2 : Nat → Nat → Int32} (h : PXE T r m) (e : ∀ b, b ≤ 75 ∨ b = 173 → m2 b 1 = m b 1) : PXE T r m2 := by
  obtain ⟨pp, qq, P, D, S⟩ := h
  exact ⟨pp, qq, P, D, fun d hd => by have q := S d hd; unfold szp at *; rw [e _ (D d hd)]; exact q⟩
theorem PXE_0 {T : List mv_T} {r : Nat → Value} {m : Nat → Nat → Int32} (hC : TC T) (I : IV BB m) (h : ∀ d, d < 4 → r (172000 + d) = .ref 173) : PXE T r m := by
  refine ⟨fun _ => 173, fun _ => 0, fun d hd => ⟨h d hd, row173 hC⟩, fun d hd => Or.inr rfl, fun d hd => ?_⟩
  have a : (0 : Int) ≤ (m 173 1).toInt := (I 173 1).1
  have b : (m 173 1).toInt ≤ 0 := (I 173 1).2
  show 0 ≤ (m 173 1).toInt ∧ (m 173 1).toInt ≤ 12
  omega
theorem PXE_add {T : List mv_T} {r r2 : Nat → Value} {m : Nat → Nat → Int32} {a rm : Nat} {X : Int} (h : PXE T r m) (e : r2 = up1 r (1000 * 172 + X.toNat) (.ref a)) (h1 : 0 ≤ X) (h2 : X < 4) (ha : RowAt T a rm) (hD : a ≤ 75 ∨ a = 173) (hs : 0 ≤ (m a 1).toInt ∧ (m a 1).toInt ≤ 12) : PXE T r2 m := by
  obtain ⟨pp, qq, P, D, S⟩ := h
  refine ⟨fun d => if d = X.toNat then a else pp d, fun d => if d = X.toNat then rm else qq d, fun d hd => ?_, fun d hd => ?_, fun d hd => ?_⟩
  · by_cases z : d = X.toNat
    · subst z
      simp only [if_true]
      exact ⟨by rw [e, show 172000 + X.toNat = 1000 * 172 + X.toNat by omega, up1_eq], ha⟩
    · simp only [z, if_false]
      exact ⟨by rw [e, up1_ne (by omega)]; exact (P d hd).1, (P d hd).2⟩
  · by_cases z : d = X.toNat
    · simp only [z, if_true]; exact hD
    · simp only [z, if_false]; exact D d hd
  · unfold szp
    by_cases z : d = X.toNat
    · simp only [z, if_true]; exact hs
    · simp only [z, if_false]; exact S d hd
def RXE (T : List mv_T) (r : Nat → Value) : Prop := ∃ la lb, RX T r la lb
theorem RX_swap {T : List mv_T} {r r1 r2 : Nat → Value} {la lb : Nat} (R : RX T r la lb) (e1 : r1 = up1 r 3 (.ref la)) (e2 : r2 = up1 r1 1 (.ref lb)) : RXE T r2 :=
  ⟨lb, la, fun b hb => by rw [e2, up1_ne (by omega), e1, up1_ne (by omega)]; exact R.1 b hb, fun i hi => by rw [e2, up1_ne (by omega), e1, up1_ne (by omega)]; exact R.2.1 i hi, by rw [e2, up1_eq], by rw [e2, up1_ne (by omega), e1, up1_eq], R.2.2.2.2.2, R.2.2.2.2.1⟩
/-- what is made when THE SHORTEST is first asked for, and its parts -/
def rn (r r' : Nat → Value) : Prop := r' 2 = .ref 169 ∧ ∀ j, j ≠ 2 → (j < 172000 ∨ 173000 ≤ j) → r' j = r j
theorem rn.rf {r : Nat → Value} (h : r 2 = .ref 169) : rn r r := ⟨h, fun _ _ _ => rfl⟩
theorem rn.trans {r r1 r2 : Nat → Value} (h : rn r r1) (h2 : rn r1 r2) : rn r r2 := ⟨h2.1, fun j p q => (h2.2 j p q).trans (h.2 j p q)⟩
theorem rn.ro {r r1 r2 : Nat → Value} (h : rn r r1) (h2 : ro r1 r2) : rn r r2 := ⟨(h2 2 (by omega)).trans h.1, fun j p q => (h2 j q).trans (h.2 j p q)⟩
theorem RX_rn {T : List mv_T} {r r' : Nat → Value} {la lb : Nat} (R : RX T r la lb) (h : rn r r') : RX T r' la lb :=
  ⟨fun b hb => (h.2 _ (by omega) (by omega)).trans (R.1 b hb), fun i hi => (h.2 _ (by omega) (by omega)).trans (R.2.1 i hi), (h.2 1 (by omega) (by omega)).trans R.2.2.1, (h.2 3 (by omega) (by omega)).trans R.2.2.2.1, R.2.2.2.2.1, R.2.2.2.2.2⟩
theorem RX_rn2 {T : List mv_T} {r0 r r' : Nat → Value} {la lb : Nat} (R : RX T r la lb) (h0 : rn r0 r) (h : rn r0 r') : RX T r' la lb :=
  RX_rn R ⟨h.1, fun j p q => (h.2 j p q).trans (h0.2 j p q).symm⟩
theorem LawAt_c {a : Nat} {T : List mv_T} (h : LawAt T a) : LawAt TL2 a := by
  rcases h.1 with e | e
  · rw [e]; exact law77 (TC_TX rfl)
  · rw [e]; exact law88 (TC_TX rfl)
theorem RX_T2 {T : List mv_T} {r : Nat → Value} {la lb : Nat} (R : RX T r la lb) : RX TL2 r la lb := ⟨R.1, R.2.1, R.2.2.1, R.2.2.2.1, LawAt_c R.2.2.2.2.1, LawAt_c R.2.2.2.2.2⟩
theorem RX_rnT {T : List mv_T} {r r' : Nat → Value} {la lb : Nat} (R : RX T r la lb) (h : rn r r') : RX TL2 r' la lb := RX_rn (RX_T2 R) h
/-- the places of what is made then -/
def WX (a _i : Nat) : Bool := Nat.ble 169 a
theorem WX_lt {a i : Nat} (h : WX a i = false) : a < 169 := by
  unfold WX at h
  cases hb : Nat.ble 169 a with
  | true => rw [hb] at h; cases h
  | false =>
    have := Nat.not_le_of_not_ble_eq_true (by rw [hb]; decide)
    omega
theorem WX_wl {l : List (Nat × Nat × Option Nat)} (h : l.all (fun q => Nat.ble 169 q.1) = true) : ∀ a i, WX a i = false → wl l a i = false := by
  intro a i e
  have ha := WX_lt e
  cases hc : wl l a i with
  | false => rfl
  | true =>
    obtain ⟨q, hq, h1⟩ := wl_mem.mp hc
    have h2 := List.all_eq_true.mp h q hq
    obtain ⟨q1, q2, q3⟩ := q
    simp only [wl1, Bool.and_eq_true, Nat.ble_eq] at h1
    simp only [Nat.ble_eq] at h2
    omega
