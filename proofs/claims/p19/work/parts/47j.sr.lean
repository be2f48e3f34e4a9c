/-! THE SHORTEST of the reference: no more than any -/
def MIN1 (m : Nat → Nat → Int32) (p : Nat → Int) (v : Int) : Prop := (∀ l : Int, 0 ≤ l → l ≤ 25 → TKs m p l → v ≤ SE m (stp m p l) + 1) ∧ (v = 0 → ∀ q : Nat, q < 4 → (q : Int) < (m 123 50).toInt → p q = LOq m q)
def SHm (m : Nat → Nat → Int32) (A B C D : Int) : Prop := ∀ p, OKp m p → lg4 p A B C D → MIN1 m p (SE m p)
theorem MIN1_eq {m m2 : Nat → Nat → Int32} (h : HSAME m m2) (e : ∀ j, m2 163 j = m 163 j) {p : Nat → Int} {v : Int} (k : MIN1 m p v) : MIN1 m2 p v :=
  ⟨fun l a b c => by rw [SE_eq e, stp_eq h]; exact k.1 l a b (TKs_eq h.symm c), fun z q hq hc => by rw [LOq_eq h]; rw [h.1] at hc; exact k.2 z q hq hc⟩
theorem SHm_eq {m m2 : Nat → Nat → Int32} (h : HSAME m m2) (e : ∀ j, m2 163 j = m 163 j) {A B C D : Int} (k : SHm m A B C D) : SHm m2 A B C D := fun p hp hg => by
  rw [SE_eq e]
  exact MIN1_eq h e (k p (OKp_eq h.symm hp) hg)
theorem SHm_st {m m2 : Nat → Nat → Int32} {b j : Nat} {v : Int32} {A B C D : Int} (k : SHm m A B C D) (e : m2 = up2 m b j v) (hb : 158 ≤ b) (hb2 : b ≤ 162) : SHm m2 A B C D :=
  SHm_eq (HSAME.set e hb) (fun q => by rw [e, up2_ne (by omega)]) k
theorem TKs_4 {m : Nat → Nat → Int32} {p p' : Nat → Int} {l : Int} (h : ∀ q, q < 4 → p q = p' q) : TKs m p l ↔ TKs m p' l := by
  have et : ∀ q, q < 4 → tk1 m p l q = tk1 m p' l q := fun q hq => by unfold tk1; rw [h q hq]
  unfold TKs
  rw [tkF4, tkF4, et 0 (by omega), et 1 (by omega), et 2 (by omega), et 3 (by omega)]
theorem SE_4 {m : Nat → Nat → Int32} {p p' : Nat → Int} {l : Int} (h : ∀ q, q < 4 → p q = p' q) : SE m (stp m p l) = SE m (stp m p' l) := by
  unfold SE
  rw [sx_of (p := stp m p l) (p' := stp m p' l) (fun q hq => by unfold stp tk1; rw [h q hq])]
theorem SHm_set {m m2 : Nat → Nat → Int32} {p' : Nat → Int} {v : Int32} (k : SHm m (p' 0) (p' 1) (p' 2) (p' 3)) (e : m2 = up2 m 163 (sx p') v) (h' : OKp m p') (hl : LO12 m) (hv : MIN1 m p' v.toInt) : SHm m2 (p' 0) (p' 1) (p' 2) (p' 3 - 1) := by
  have hs := HSAME.set e (by omega)
  have far : ∀ (p : Nat → Int) (l : Int), OKp m p → 0 ≤ l → TKs m p l → (lg4 p (p' 0) (p' 1) (p' 2) (p' 3) ∨ (p 0 = p' 0 ∧ p 1 = p' 1 ∧ p 2 = p' 2 ∧ p 3 = p' 3)) → SE m2 (stp m p l) = SE m (stp m p l) := fun p l hp h0 ht hg => by
    refine SE_ne e (OKp_stp hp h0) h' hl ?_
    have q := lg_tr hg (lg4_stp ht)
    unfold lg4 at q
    omega
  intro p hp hg
  have hp := OKp_eq hs.symm hp
  by_cases z : p 0 = p' 0 ∧ p 1 = p' 1 ∧ p 2 = p' 2 ∧ p 3 = p' 3
  · have hz : ∀ q, q < 4 → p q = p' q := by
      intro q hq
      have : q = 0 ∨ q = 1 ∨ q = 2 ∨ q = 3 := by omega
      rcases this with y | y | y | y
      · rw [y]; exact z.1
      · rw [y]; exact z.2.1
      · rw [y]; exact z.2.2.1
      · rw [y]; exact z.2.2.2
    have e1 : SE m2 p = v.toInt := by unfold SE; rw [sx_of hz, e, up2_eq]
    rw [e1]
    refine ⟨fun l a b c => ?_, fun y q hq hc => ?_⟩
    · have c1 := TKs_eq hs.symm c
      rw [stp_eq hs, far p l hp a c1 (Or.inr z), SE_4 hz]
      exact hv.1 l a b ((TKs_4 hz).mp c1)
    · rw [LOq_eq hs, hz q hq]
      rw [hs.1] at hc
      exact hv.2 y q hq hc
  · have hg2 : lg4 p (p' 0) (p' 1) (p' 2) (p' 3) := by unfold lg4 at *; omega
    rw [SE_ne e hp h' hl z]
    have q := k p hp hg2
    refine ⟨fun l a b c => ?_, fun y u hu hc => ?_⟩
    · have c1 := TKs_eq hs.symm c
      rw [stp_eq hs, far p l hp a c1 (Or.inl hg2)]
      exact q.1 l a b c1
    · rw [LOq_eq hs]
      rw [hs.1] at hc
      exact q.2 y u hu hc
theorem SHm_a {m : Nat → Nat → Int32} {A : Int} (hl : LO12 m) (h : A = LOq m 0) : SHm m A 16 16 16 := by
  intro p hp hg
  have a := OK4 hp; have b := LO4 hl
  exfalso
  unfold lg4 at hg
  omega
theorem SHm_dn {m : Nat → Nat → Int32} {A B C D B2 C2 D2 : Int} (hl : LO12 m) (h : SHm m A B C D) (hw : ∀ a b c d : Int, 0 ≤ a → a ≤ LOq m 0 → 0 ≤ b → b ≤ LOq m 1 → 0 ≤ c → c ≤ LOq m 2 → 0 ≤ d → d ≤ LOq m 3 → (A < a ∨ (A = a ∧ (B2 < b ∨ (B2 = b ∧ (C2 < c ∨ (C2 = c ∧ D2 < d)))))) → (A < a ∨ (A = a ∧ (B < b ∨ (B = b ∧ (C < c ∨ (C = c ∧ D < d))))))) : SHm m A B2 C2 D2 := by
  intro p hp hg
  have a := OK4 hp
  exact h p hp (hw _ _ _ _ a.1.1 a.1.2 a.2.1.1 a.2.1.2 a.2.2.1.1 a.2.2.1.2 a.2.2.2.1 a.2.2.2.2 hg)
theorem SHm_d {m : Nat → Nat → Int32} {A B C : Int} (hl : LO12 m) (h : SHm m A B C (-1)) : SHm m A B (C - 1) 16 :=
  SHm_dn hl h (fun a b c d h1 h2 h3 h4 h5 h6 h7 h8 h9 => by have := LO4 hl; omega)
theorem SHm_c {m : Nat → Nat → Int32} {A B : Int} (hl : LO12 m) (h : SHm m A B (-1) 16) : SHm m A (B - 1) 16 16 :=
  SHm_dn hl h (fun a b c d h1 h2 h3 h4 h5 h6 h7 h8 h9 => by have := LO4 hl; omega)
theorem SHm_b {m : Nat → Nat → Int32} {A : Int} (hl : LO12 m) (h : SHm m A (-1) 16 16) : SHm m (A - 1) 16 16 16 := by
  intro p hp hg
  have a := OK4 hp; have b := LO4 hl
  exact h p hp (by unfold lg4 at *; omega)
def SBm (m : Nat → Nat → Int32) (p : Nat → Int) (v k : Int) : Prop := ∀ l : Int, 0 ≤ l → l < k → TKs m p l → v ≤ SE m (stp m p l) + 1
theorem SBm_z {m : Nat → Nat → Int32} {p : Nat → Int} {v : Int} : SBm m p v 0 := fun l a b => by omega
theorem SBm_skip {m : Nat → Nat → Int32} {p : Nat → Int} {v k : Int} (h : SBm m p v k) (hk : tkF m p k 4 = 0) : SBm m p v (k + 1) := fun l a b c => by
  by_cases z : l = k
  · rw [z] at c; unfold TKs at c; omega
  · exact h l a (by omega) c
theorem SBm_take {m : Nat → Nat → Int32} {p : Nat → Int} {v k n w : Int} (h : SBm m p v k) (hn : n = 1 + SE m (stp m p k)) (hw : w ≤ v ∧ w ≤ n ∧ (w = v ∨ w = n)) : SBm m p w (k + 1) := fun l a b c => by
  by_cases z : l = k
  · rw [z]; omega
  · have := h l a (by omega) c; omega
theorem MIN1_z {m : Nat → Nat → Int32} {p : Nat → Int} (hc4 : (m 123 50).toInt ≤ 4) (h : ∀ q : Nat, (q : Int) < (m 123 50).toInt → p q = LOq m q) : MIN1 m p 0 := by
  refine ⟨fun l a b c => ?_, fun _ q _ hc => h q hc⟩
  exfalso
  have z : ∀ q : Nat, tk1 m p l q = 0 := fun q => by
    unfold tk1
    rw [if_neg]
    intro ⟨y1, y2⟩
    have e := h q y1
    unfold LAq at y2
    unfold LOq at e
    rw [if_pos y1] at e
    rw [if_neg (by omega)] at y2
    omega
  unfold TKs at c
  rw [tkF4, z, z, z, z] at c
  omega
theorem MIN1_e {m : Nat → Nat → Int32} {p : Nat → Int} {v : Int} (h : SBm m p v 26) (hv : SB m p v 26) : MIN1 m p v := by
  refine ⟨fun l a b c => h l a (by omega) c, fun z => ?_⟩
  exfalso
  rcases hv.1 with y | y <;> omega
