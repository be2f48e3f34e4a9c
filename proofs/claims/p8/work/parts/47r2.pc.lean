/-! the class's reader: what it reads, what it leaves as it was -/
def tC (m : Nat → Nat → Int32) (p : Int) : Int := if p < (m 86 2).toInt then (m 87 p.toNat).toInt else -1
theorem tC_eq {m m2 : Nat → Nat → Int32} (e2 : m2 86 2 = m 86 2) (e7 : ∀ j, m2 87 j = m 87 j) : tC m2 = tC m := by
  funext p
  unfold tC
  rw [e2, e7]
theorem TXT_C {m : Nat → Nat → Int32} (I : IV BB m) : TXT (tC m) (m 86 2).toInt := ⟨(I 86 2).2, fun q hq => by unfold tC; rw [if_neg (by omega)]⟩
/-- the String's bytes, the copy of an array: exactly -/
def sby (j : Nat) : Int32 := ([108, 105, 119, 109, 111, 107, 100, 98, 102, 103] : List Int32).getD j 0
theorem pv_strldx {sc : pv_S} {g : pv_G} {M : pv_M} {Q : Option Value → List pv_C → Prop} {dp kc ks pc : Nat} {lo st : List Value} {h : List pv_C} {i : Int32} {X : Int} (hd : decode M.2.2.1 pc = .ok (.baload, 1)) (hx : i.toInt = X) (h1 : 0 ≤ X) (h2 : X < 10) (n0 : Nat) (hp : pc + 1 = n0) (k : ∀ v : Int32, v = sby X.toNat → PV sc g M Q dp kc ks n0 lo (.int v :: st) h) : PV sc g M Q dp kc ks pc lo (.int i :: .retAddr (g.2.2.1 7 + 1) :: st) h := by
  intro p e R s m args below meth c Xx f1 f2 f3 f4 H locs cells slots ls hH hS g1 g2 hL
  subst hp
  have hZ := (Xx.2.2.2.2.2.2.2.2.2.2.2.2.2.1.1 0 (by decide)).2.2.2
  have hi : vp_in i 10 := iv_in (X := X) hx h1 (by omega)
  exact va_tb Xx.1 Xx.2.1 hZ hS hi rfl hd (k (sby i.toNatClampNeg) (by rw [iv_cl hx]) p e R s m args below meth c Xx f1 f2 f3 f4 H locs cells slots ls hH hS g1 g2 hL)
theorem sby_nix : ∀ j : Fin 10, nix (sby j.val).toInt = j.val := by decide
theorem nix_b {x : Int} (h : nix x ≠ -1) : 0 ≤ nix x ∧ nix x ≤ 9 ∧ 98 ≤ x ∧ x ≤ 119 := by unfold nix at h ⊢; omega
/-- a byte that stands at place j of the names -/
theorem nix_at {x : Int} {j : Nat} (hj : j < 10) (h : (sby j).toInt = x) : nix x = j := by rw [← h]; exact sby_nix ⟨j, hj⟩
theorem nix_none {x : Int} (h : ∀ j : Nat, j < 10 → (sby j).toInt ≠ x) : nix x = -1 := by
  have e : ∀ j : Nat, j < 10 → (sby j).toInt = (sby j).toInt := fun _ _ => rfl
  have h0 : (108 : Int) ≠ x := h 0 (by omega)
  have h1 : (105 : Int) ≠ x := h 1 (by omega)
  have h2 : (119 : Int) ≠ x := h 2 (by omega)
  have h3 : (109 : Int) ≠ x := h 3 (by omega)
  have h4 : (111 : Int) ≠ x := h 4 (by omega)
  have h5 : (107 : Int) ≠ x := h 5 (by omega)
  have h6 : (100 : Int) ≠ x := h 6 (by omega)
  have h7 : (98 : Int) ≠ x := h 7 (by omega)
  have h8 : (102 : Int) ≠ x := h 8 (by omega)
  have h9 : (103 : Int) ≠ x := h 9 (by omega)
  unfold nix
  omega
theorem i2b_eq {x v : Int32} {j : Nat} (k : v = x.toInt8.toInt32) (h0 : 0 ≤ x.toInt) (h1 : x.toInt ≤ 255) (hj : j < 10) : ((sby j).toInt = v.toInt) ↔ ((sby j).toInt = x.toInt) := by
  have hd : ∀ a : Fin 256, ∀ j : Fin 10, ((sby j.val).toInt = ((nI a.val).toInt8.toInt32).toInt) ↔ ((sby j.val).toInt = (nI a.val).toInt) := by decide +kernel
  obtain ⟨a, ha, rfl⟩ := nI_of (x := x) (by rw [Int32.lt_iff_toInt_lt, Int32.toInt_zero]; omega)
  rw [nI_toInt ha] at h1
  rw [k]
  exact hd ⟨a, by omega⟩ ⟨j, hj⟩
theorem i2c_eq {x v : Int32} (k : v = (x.toUInt32 % 65536).toInt32) (h0 : 0 ≤ x.toInt) (h1 : x.toInt ≤ 255) : v.toInt = x.toInt := by
  have hd : ∀ a : Fin 256, (((nI a.val).toUInt32 % 65536).toInt32).toInt = (nI a.val).toInt := by decide +kernel
  obtain ⟨a, ha, rfl⟩ := nI_of (x := x) (by rw [Int32.lt_iff_toInt_lt, Int32.toInt_zero]; omega)
  rw [nI_toInt ha] at h1
  rw [k]
  exact hd ⟨a, by omega⟩
theorem nd_y {t : Int → Int} {k : Nat} {q : Int} (h : dig (t q) = true) : nd t (k + 1) q = nd t k (q + 1) := by simp only [nd]; rw [if_pos h]
theorem nd_2 {t : Int → Int} {q : Int} (h : dig (t q) = true) : nd t 0 q = (2, q) := by simp only [nd]; rw [if_pos h]
theorem nd_no {t : Int → Int} {k : Nat} {q : Int} (h : dig (t q) = false) : nd t k q = (0, q) := by
  cases k with
  | zero => simp only [nd]; rw [h, if_neg (by decide)]
  | succ k => simp only [nd]; rw [h, if_neg (by decide)]
def TBC (m : Nat → Nat → Int32) : Prop := ∀ q, -1 ≤ tC m q ∧ tC m q ≤ 255
theorem TBC_eq {m M : Nat → Nat → Int32} (h : TBC m) (e : tC M = tC m) : TBC M := by unfold TBC; rw [e]; exact h
