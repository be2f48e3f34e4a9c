/-! the shortest that all of some DEEDS are hidden in: the table and where it comes from -/
def sx (p : Nat → Int) : Nat := (((13 * p 0 + p 1) * 13 + p 2) * 13 + p 3).toNat
def tk1 (m : Nat → Nat → Int32) (p : Nat → Int) (l : Int) (q : Nat) : Int := if (q : Int) < (m 123 50).toInt ∧ LAq m q (p q) = l then 1 else 0
theorem tk1_b (m : Nat → Nat → Int32) (p : Nat → Int) (l : Int) (q : Nat) : 0 ≤ tk1 m p l q ∧ tk1 m p l q ≤ 1 := by unfold tk1; split <;> omega
theorem tk1_at {m : Nat → Nat → Int32} {p : Nat → Int} {l k : Int} (h : 0 ≤ k) : tk1 m p l k.toNat = if k < (m 123 50).toInt ∧ LAq m k (p k.toNat) = l then 1 else 0 := by
  unfold tk1
  rw [show ((k.toNat : Nat) : Int) = k by omega]
def tkF (m : Nat → Nat → Int32) (p : Nat → Int) (l : Int) : Nat → Int
  | 0 => 0
  | k + 1 => tkF m p l k + tk1 m p l k
theorem tkF_s {m : Nat → Nat → Int32} {p : Nat → Int} {l j k : Int} (h : 0 ≤ j) (hk : k = j + 1) : tkF m p l k.toNat = tkF m p l j.toNat + tk1 m p l j.toNat := by
  rw [show k.toNat = j.toNat + 1 by omega]
  rfl
def TKs (m : Nat → Nat → Int32) (p : Nat → Int) (l : Int) : Prop := 0 < tkF m p l 4
theorem tkF4 (m : Nat → Nat → Int32) (p : Nat → Int) (l : Int) : tkF m p l 4 = 0 + tk1 m p l 0 + tk1 m p l 1 + tk1 m p l 2 + tk1 m p l 3 := rfl
def stp (m : Nat → Nat → Int32) (p : Nat → Int) (l : Int) : Nat → Int := fun q => p q + tk1 m p l q
def pa (m : Nat → Nat → Int32) : Nat → Int := fun q => (m 158 q).toInt
def pn (m : Nat → Nat → Int32) : Nat → Int := fun q => (m 159 q).toInt
def OKp (m : Nat → Nat → Int32) (p : Nat → Int) : Prop := ∀ q : Nat, q < 4 → 0 ≤ p q ∧ p q ≤ LOq m q
def LO12 (m : Nat → Nat → Int32) : Prop := ∀ q : Int, 0 ≤ q → 0 ≤ LOq m q ∧ LOq m q ≤ 12
def rm4 (m : Nat → Nat → Int32) (p : Nat → Int) : Int := LOq m 0 - p 0 + (LOq m 1 - p 1) + (LOq m 2 - p 2) + (LOq m 3 - p 3)
def SE (m : Nat → Nat → Int32) (p : Nat → Int) : Int := (m 163 (sx p)).toInt
def lg4 (p : Nat → Int) (A B C D : Int) : Prop := A < p 0 ∨ (A = p 0 ∧ (B < p 1 ∨ (B = p 1 ∧ (C < p 2 ∨ (C = p 2 ∧ D < p 3)))))
def SAT (m : Nat → Nat → Int32) (p : Nat → Int) (v : Int) : Prop := ∃ l : Int, 0 ≤ l ∧ l ≤ 25 ∧ TKs m p l ∧ SE m (stp m p l) = v - 1
def SR1 (m : Nat → Nat → Int32) (p : Nat → Int) (v : Int) : Prop := 0 ≤ v ∧ v ≤ rm4 m p ∧ (0 < v → SAT m p v)
/-- the table is filled behind A, B, C, D -/
def SHp (m : Nat → Nat → Int32) (A B C D : Int) : Prop := ∀ p, OKp m p → lg4 p A B C D → SR1 m p (SE m p)
theorem OK4 {m : Nat → Nat → Int32} {p : Nat → Int} (h : OKp m p) : (0 ≤ p 0 ∧ p 0 ≤ LOq m 0) ∧ (0 ≤ p 1 ∧ p 1 ≤ LOq m 1) ∧ (0 ≤ p 2 ∧ p 2 ≤ LOq m 2) ∧ (0 ≤ p 3 ∧ p 3 ≤ LOq m 3) := ⟨h 0 (by omega), h 1 (by omega), h 2 (by omega), h 3 (by omega)⟩
theorem LO4 {m : Nat → Nat → Int32} (h : LO12 m) : (0 ≤ LOq m 0 ∧ LOq m 0 ≤ 12) ∧ (0 ≤ LOq m 1 ∧ LOq m 1 ≤ 12) ∧ (0 ≤ LOq m 2 ∧ LOq m 2 ≤ 12) ∧ (0 ≤ LOq m 3 ∧ LOq m 3 ≤ 12) := ⟨h 0 (by omega), h 1 (by omega), h 2 (by omega), h 3 (by omega)⟩
theorem OKp_stp {m : Nat → Nat → Int32} {p : Nat → Int} {l : Int} (h : OKp m p) (hl : 0 ≤ l) : OKp m (stp m p l) := by
  intro q hq
  have a := h q hq
  unfold stp tk1
  split
  · rename_i c
    have c2 := c.2
    have e : LOq m q = (m 126 (m 157 ((q : Nat) : Int).toNat).toInt.toNat).toInt := by unfold LOq; rw [if_pos c.1]
    unfold LAq at c2
    rw [← e] at c2
    by_cases z : p q < LOq m q
    · omega
    · rw [if_neg z] at c2; omega
  · omega
theorem rm_stp {m : Nat → Nat → Int32} {p : Nat → Int} {l : Int} (h : TKs m p l) : rm4 m (stp m p l) ≤ rm4 m p - 1 := by
  unfold TKs at h
  rw [tkF4] at h
  unfold rm4 stp
  omega
theorem lg4_stp {m : Nat → Nat → Int32} {p : Nat → Int} {l : Int} (h : TKs m p l) : lg4 (stp m p l) (p 0) (p 1) (p 2) (p 3) := by
  unfold TKs at h
  rw [tkF4] at h
  have := tk1_b m p l 0; have := tk1_b m p l 1; have := tk1_b m p l 2; have := tk1_b m p l 3
  unfold lg4 stp
  omega
theorem lg_tr {p p' : Nat → Int} {A B C D : Int} (h : lg4 p A B C D ∨ (p 0 = A ∧ p 1 = B ∧ p 2 = C ∧ p 3 = D)) (k : lg4 p' (p 0) (p 1) (p 2) (p 3)) : lg4 p' A B C D := by
  unfold lg4 at *
  omega
/-- where one is not at its end, a LETTER is taken -/
theorem TK_some {m : Nat → Nat → Int32} {p : Nat → Int} {q : Nat} (h : OKp m p) (hq : q < 4) (hc : (q : Int) < (m 123 50).toInt) (hne : p q ≠ LOq m q) (hb : ∀ j, 0 ≤ (m 127 j).toInt ∧ (m 127 j).toInt ≤ 25) : ∃ l : Int, 0 ≤ l ∧ l ≤ 25 ∧ TKs m p l := by
  have a := h q hq
  refine ⟨LAq m q (p q), ?_, ?_, ?_⟩
  · unfold LAq
    rw [if_pos (by have e : LOq m q = (m 126 (m 157 ((q : Nat) : Int).toNat).toInt.toNat).toInt := by unfold LOq; rw [if_pos hc]
                   omega)]
    exact (hb _).1
  · unfold LAq
    rw [if_pos (by have e : LOq m q = (m 126 (m 157 ((q : Nat) : Int).toNat).toInt.toNat).toInt := by unfold LOq; rw [if_pos hc]
                   omega)]
    exact (hb _).2
  · unfold TKs
    rw [tkF4]
    have b0 := tk1_b m p (LAq m q (p q)) 0; have b1 := tk1_b m p (LAq m q (p q)) 1; have b2 := tk1_b m p (LAq m q (p q)) 2; have b3 := tk1_b m p (LAq m q (p q)) 3
    have e : tk1 m p (LAq m q (p q)) q = 1 := by unfold tk1; rw [if_pos ⟨hc, rfl⟩]
    have : q = 0 ∨ q = 1 ∨ q = 2 ∨ q = 3 := by omega
    rcases this with z | z | z | z
    · rw [z] at e b0 b1 b2 b3 ⊢; omega
    · rw [z] at e b0 b1 b2 b3 ⊢; omega
    · rw [z] at e b0 b1 b2 b3 ⊢; omega
    · rw [z] at e b0 b1 b2 b3 ⊢; omega
theorem sx_of {p p' : Nat → Int} (h : ∀ q, q < 4 → p q = p' q) : sx p = sx p' := by
  unfold sx
  rw [h 0 (by omega), h 1 (by omega), h 2 (by omega), h 3 (by omega)]
theorem sx_inj {p p' : Nat → Int} (h : ∀ q, q < 4 → 0 ≤ p q ∧ p q ≤ 12) (k : ∀ q, q < 4 → 0 ≤ p' q ∧ p' q ≤ 12) (e : sx p = sx p') : p 0 = p' 0 ∧ p 1 = p' 1 ∧ p 2 = p' 2 ∧ p 3 = p' 3 := by
  have := h 0 (by omega); have := h 1 (by omega); have := h 2 (by omega); have := h 3 (by omega)
  have := k 0 (by omega); have := k 1 (by omega); have := k 2 (by omega); have := k 3 (by omega)
  unfold sx at e
  omega
theorem OK12 {m : Nat → Nat → Int32} {p : Nat → Int} (h : OKp m p) (hl : LO12 m) : ∀ q, q < 4 → 0 ≤ p q ∧ p q ≤ 12 := fun q hq => by
  have := h q hq
  have := hl q (by omega)
  omega
/-- what is read stays -/
theorem tk1_eq {m m2 : Nat → Nat → Int32} (h : HSAME m m2) (p : Nat → Int) (l : Int) (q : Nat) : tk1 m2 p l q = tk1 m p l q := by unfold tk1; rw [h.1, LAq_eq h]
theorem tkF_eq {m m2 : Nat → Nat → Int32} (h : HSAME m m2) (p : Nat → Int) (l : Int) : ∀ k, tkF m2 p l k = tkF m p l k
  | 0 => rfl
  | k + 1 => by
    show tkF m2 p l k + tk1 m2 p l k = tkF m p l k + tk1 m p l k
    rw [tkF_eq h p l k, tk1_eq h]
theorem TKs_eq {m m2 : Nat → Nat → Int32} (h : HSAME m m2) {p : Nat → Int} {l : Int} (k : TKs m p l) : TKs m2 p l := by unfold TKs at *; rw [tkF_eq h]; exact k
theorem stp_eq {m m2 : Nat → Nat → Int32} (h : HSAME m m2) (p : Nat → Int) (l : Int) : stp m2 p l = stp m p l := funext fun q => by unfold stp; rw [tk1_eq h]
theorem HSAME.symm {m m2 : Nat → Nat → Int32} (h : HSAME m m2) : HSAME m2 m := ⟨h.1.symm, fun j => (h.2.1 j).symm, fun j => (h.2.2.1 j).symm, fun j => (h.2.2.2 j).symm⟩
theorem OKp_eq {m m2 : Nat → Nat → Int32} (h : HSAME m m2) {p : Nat → Int} (k : OKp m p) : OKp m2 p := fun q hq => by rw [LOq_eq h]; exact k q hq
theorem LO12_eq {m m2 : Nat → Nat → Int32} (h : HSAME m m2) (k : LO12 m) : LO12 m2 := fun q hq => by rw [LOq_eq h]; exact k q hq
theorem rm4_eq {m m2 : Nat → Nat → Int32} (h : HSAME m m2) (p : Nat → Int) : rm4 m2 p = rm4 m p := by unfold rm4; rw [LOq_eq h, LOq_eq h, LOq_eq h, LOq_eq h]
theorem SE_eq {m m2 : Nat → Nat → Int32} (e : ∀ j, m2 163 j = m 163 j) (p : Nat → Int) : SE m2 p = SE m p := by unfold SE; rw [e]
theorem SAT_eq {m m2 : Nat → Nat → Int32} (h : HSAME m m2) (e : ∀ j, m2 163 j = m 163 j) {p : Nat → Int} {v : Int} (k : SAT m p v) : SAT m2 p v := by
  obtain ⟨l, l1, l2, l3, l4⟩ := k
  exact ⟨l, l1, l2, TKs_eq h l3, by rw [SE_eq e, stp_eq h]; exact l4⟩
theorem SHp_eq {m m2 : Nat → Nat → Int32} (h : HSAME m m2) (e : ∀ j, m2 163 j = m 163 j) {A B C D : Int} (k : SHp m A B C D) : SHp m2 A B C D := fun p hp hg => by
  have q := k p (OKp_eq h.symm hp) hg
  rw [SE_eq e]
  exact ⟨q.1, by rw [rm4_eq h]; exact q.2.1, fun z => SAT_eq h e (q.2.2 z)⟩
theorem SHp_st {m m2 : Nat → Nat → Int32} {b j : Nat} {v : Int32} {A B C D : Int} (k : SHp m A B C D) (e : m2 = up2 m b j v) (hb : 158 ≤ b) (hb2 : b ≤ 162) : SHp m2 A B C D :=
  SHp_eq (HSAME.set e hb) (fun q => by rw [e, up2_ne (by omega)]) k
theorem SE_ne {m m2 : Nat → Nat → Int32} {p p' : Nat → Int} {v : Int32} (e : m2 = up2 m 163 (sx p') v) (h : OKp m p) (h' : OKp m p') (hl : LO12 m) (hne : ¬ (p 0 = p' 0 ∧ p 1 = p' 1 ∧ p 2 = p' 2 ∧ p 3 = p' 3)) : SE m2 p = SE m p := by
  unfold SE
  rw [e, up2_ne]
  intro z
  exact hne (sx_inj (OK12 h hl) (OK12 h' hl) z.2)
theorem SAT_set {m m2 : Nat → Nat → Int32} {p p' : Nat → Int} {v : Int32} {w : Int} (k : SAT m p w) (e : m2 = up2 m 163 (sx p') v) (h : OKp m p) (h' : OKp m p') (hl : LO12 m) (hg : lg4 p (p' 0) (p' 1) (p' 2) (p' 3) ∨ (p 0 = p' 0 ∧ p 1 = p' 1 ∧ p 2 = p' 2 ∧ p 3 = p' 3)) : SAT m2 p w := by
  have hs := HSAME.set e (by omega)
  obtain ⟨l, l1, l2, l3, l4⟩ := k
  refine ⟨l, l1, l2, TKs_eq hs l3, ?_⟩
  rw [stp_eq hs, SE_ne e (OKp_stp h l1) h' hl ?_]
  · exact l4
  · have q := lg_tr hg (lg4_stp l3)
    unfold lg4 at q
    omega
theorem SHp_set {m m2 : Nat → Nat → Int32} {p' : Nat → Int} {v : Int32} (k : SHp m (p' 0) (p' 1) (p' 2) (p' 3)) (e : m2 = up2 m 163 (sx p') v) (h' : OKp m p') (hl : LO12 m) (hv : SR1 m p' v.toInt) : SHp m2 (p' 0) (p' 1) (p' 2) (p' 3 - 1) := by
  have hs := HSAME.set e (by omega)
  intro p hp hg
  have hp := OKp_eq hs.symm hp
  by_cases z : p 0 = p' 0 ∧ p 1 = p' 1 ∧ p 2 = p' 2 ∧ p 3 = p' 3
  · have hz : ∀ q, q < 4 → p q = p' q := by
      intro q hq
      have : q = 0 ∨ q = 1 ∨ q = 2 ∨ q = 3 := by omega
      rcases this with y | y | y | y
      · rw [y]; exact z.1
      · rw [y]; exact z.2.1
      · rw [y]; exact z.2.2.1
      · rw [y]; exact z.2.2.2
    have e1 : SE m2 p = v.toInt := by unfold SE; rw [sx_of hz, e, up2_eq]
    rw [e1]
    have er : rm4 m p = rm4 m p' := by unfold rm4; rw [z.1, z.2.1, z.2.2.1, z.2.2.2]
    refine ⟨hv.1, by rw [rm4_eq hs, er]; exact hv.2.1, fun y => ?_⟩
    obtain ⟨l, l1, l2, l3, l4⟩ := SAT_set (hv.2.2 y) e h' h' hl (Or.inr ⟨rfl, rfl, rfl, rfl⟩)
    have et : ∀ q, q < 4 → tk1 m2 p l q = tk1 m2 p' l q := fun q hq => by unfold tk1; rw [hz q hq]
    refine ⟨l, l1, l2, ?_, ?_⟩
    · unfold TKs at *
      rw [tkF4, et 0 (by omega), et 1 (by omega), et 2 (by omega), et 3 (by omega), ← tkF4]
      exact l3
    · rw [← l4]
      unfold SE
      rw [sx_of (p := stp m2 p l) (p' := stp m2 p' l) (fun q hq => by unfold stp; rw [et q hq, hz q hq])]
  · have hg2 : lg4 p (p' 0) (p' 1) (p' 2) (p' 3) := by unfold lg4 at *; omega
    rw [SE_ne e hp h' hl z]
    have q := k p hp hg2
    exact ⟨q.1, by rw [rm4_eq hs]; exact q.2.1, fun y => SAT_set (q.2.2 y) e hp h' hl (Or.inl hg2)⟩
theorem SHp_a {m : Nat → Nat → Int32} {A : Int} (hl : LO12 m) (h : A = LOq m 0) : SHp m A 16 16 16 := by
  intro p hp hg
  have a := OK4 hp; have b := LO4 hl
  exfalso
  unfold lg4 at hg
  omega
theorem SHp_dn {m : Nat → Nat → Int32} {A B C D B2 C2 D2 : Int} (hl : LO12 m) (h : SHp m A B C D) (hw : ∀ a b c d : Int, 0 ≤ a → a ≤ LOq m 0 → 0 ≤ b → b ≤ LOq m 1 → 0 ≤ c → c ≤ LOq m 2 → 0 ≤ d → d ≤ LOq m 3 → (A < a ∨ (A = a ∧ (B2 < b ∨ (B2 = b ∧ (C2 < c ∨ (C2 = c ∧ D2 < d)))))) → (A < a ∨ (A = a ∧ (B < b ∨ (B = b ∧ (C < c ∨ (C = c ∧ D < d))))))) : SHp m A B2 C2 D2 := by
  intro p hp hg
  have a := OK4 hp
  exact h p hp (hw _ _ _ _ a.1.1 a.1.2 a.2.1.1 a.2.1.2 a.2.2.1.1 a.2.2.1.2 a.2.2.2.1 a.2.2.2.2 hg)
theorem SHp_d {m : Nat → Nat → Int32} {A B C : Int} (hl : LO12 m) (h : SHp m A B C (-1)) : SHp m A B (C - 1) 16 :=
  SHp_dn hl h (fun a b c d h1 h2 h3 h4 h5 h6 h7 h8 h9 => by have := LO4 hl; omega)
theorem SHp_c {m : Nat → Nat → Int32} {A B : Int} (hl : LO12 m) (h : SHp m A B (-1) 16) : SHp m A (B - 1) 16 16 :=
  SHp_dn hl h (fun a b c d h1 h2 h3 h4 h5 h6 h7 h8 h9 => by have := LO4 hl; omega)
theorem SHp_b {m : Nat → Nat → Int32} {A : Int} (hl : LO12 m) (h : SHp m A (-1) 16 16) : SHp m (A - 1) 16 16 16 := by
  intro p hp hg
  have a := OK4 hp; have b := LO4 hl
  exact h p hp (by unfold lg4 at *; omega)
theorem at4 {m m1 m2 m3 m4 : Nat → Nat → Int32} {a b c d : Int32} (e1 : m1 = up2 m 158 0 a) (e2 : m2 = up2 m1 158 1 b) (e3 : m3 = up2 m2 158 2 c) (e4 : m4 = up2 m3 158 3 d) : pa m4 0 = a.toInt ∧ pa m4 1 = b.toInt ∧ pa m4 2 = c.toInt ∧ pa m4 3 = d.toInt := by
  unfold pa
  refine ⟨?_, ?_, ?_, ?_⟩
  · rw [e4, up2_ne (by omega), e3, up2_ne (by omega), e2, up2_ne (by omega), e1, up2_eq]
  · rw [e4, up2_ne (by omega), e3, up2_ne (by omega), e2, up2_eq]
  · rw [e4, up2_ne (by omega), e3, up2_eq]
  · rw [e4, up2_eq]
theorem OKp_of4 {m : Nat → Nat → Int32} {p : Nat → Int} {a b c d : Int} (h : p 0 = a ∧ p 1 = b ∧ p 2 = c ∧ p 3 = d) (ha : 0 ≤ a ∧ a ≤ LOq m 0) (hb : 0 ≤ b ∧ b ≤ LOq m 1) (hc : 0 ≤ c ∧ c ≤ LOq m 2) (hd : 0 ≤ d ∧ d ≤ LOq m 3) : OKp m p := by
  intro q hq
  have : q = 0 ∨ q = 1 ∨ q = 2 ∨ q = 3 := by omega
  rcases this with y | y | y | y
  · rw [y, h.1]; exact ha
  · rw [y, h.2.1]; exact hb
  · rw [y, h.2.2.1]; exact hc
  · rw [y, h.2.2.2]; exact hd
/-- are all at their ends -/
def END (m : Nat → Nat → Int32) (p : Nat → Int) (e k : Int) : Prop := (e ≠ 0 → ∀ q : Nat, (q : Int) < k → p q = LOq m q) ∧ (e = 0 → ∃ q : Nat, q < 4 ∧ (q : Int) < (m 123 50).toInt ∧ p q ≠ LOq m q)
theorem END_z {m : Nat → Nat → Int32} {p : Nat → Int} : END m p 1 0 := ⟨fun _ q hq => by omega, fun h => by omega⟩
theorem END_keep {m : Nat → Nat → Int32} {p : Nat → Int} {e k : Int} (h : END m p e k) (he : e ≠ 0) (h0 : 0 ≤ k) (hk : p k.toNat = LOq m k) : END m p 1 (k + 1) := by
  refine ⟨fun _ q hq => ?_, fun z => by omega⟩
  by_cases y : (q : Int) = k
  · rw [y, show q = k.toNat by omega]; exact hk
  · exact h.1 he q (by omega)
theorem END_no {m : Nat → Nat → Int32} {p : Nat → Int} {k j : Int} (h0 : 0 ≤ k) (h4 : k < 4) (hc : k < (m 123 50).toInt) (hk : p k.toNat ≠ LOq m k) : END m p 0 j := by
  refine ⟨fun z => by omega, fun _ => ⟨k.toNat, by omega, by omega, ?_⟩⟩
  rw [show ((k.toNat : Nat) : Int) = k by omega]
  exact hk
theorem END_on {m : Nat → Nat → Int32} {p : Nat → Int} {k j : Int} (h : END m p 0 k) : END m p 0 j := ⟨fun z => by omega, h.2⟩
/-- the best so far -/
def SB (m : Nat → Nat → Int32) (p : Nat → Int) (v k : Int) : Prop := (v = 1000000000 ∨ (0 < v ∧ SAT m p v)) ∧ (∀ l : Int, 0 ≤ l → l < k → TKs m p l → v ≤ rm4 m p)
theorem SB_z {m : Nat → Nat → Int32} {p : Nat → Int} : SB m p 1000000000 0 := ⟨Or.inl rfl, fun l a b => by omega⟩
theorem SB_skip {m : Nat → Nat → Int32} {p : Nat → Int} {v k : Int} (h : SB m p v k) (hk : tkF m p k 4 = 0) : SB m p v (k + 1) := by
  refine ⟨h.1, fun l a b c => ?_⟩
  by_cases z : l = k
  · rw [z] at c; unfold TKs at c; omega
  · exact h.2 l a (by omega) c
theorem SB_take {m : Nat → Nat → Int32} {p : Nat → Int} {v k n w : Int} (h : SB m p v k) (h0 : 0 ≤ k) (h1 : k ≤ 25) (hk : 0 < tkF m p k 4) (hp : OKp m p) (hs : SHp m (p 0) (p 1) (p 2) (p 3)) (hn : n = 1 + SE m (stp m p k)) (hw : w ≤ v ∧ w ≤ n ∧ (w = v ∨ w = n)) : SB m p w (k + 1) := by
  have q := hs _ (OKp_stp hp h0) (lg4_stp hk)
  have q2 := rm_stp (m := m) (p := p) (l := k) hk
  have q3 := q.1
  have q4 := q.2.1
  refine ⟨?_, fun l a b c => by omega⟩
  rcases hw.2.2 with z | z
  · rcases h.1 with y | y
    · exact Or.inl (by omega)
    · rw [z]; exact Or.inr y
  · exact Or.inr ⟨by omega, k, h0, h1, hk, by omega⟩
theorem SB_end {m : Nat → Nat → Int32} {p : Nat → Int} {v : Int} (h : SB m p v 26) (he : ∃ q : Nat, q < 4 ∧ (q : Int) < (m 123 50).toInt ∧ p q ≠ LOq m q) (hp : OKp m p) (hl : LO12 m) (hb : ∀ j, 0 ≤ (m 127 j).toInt ∧ (m 127 j).toInt ≤ 25) : SR1 m p v := by
  obtain ⟨q, q1, q2, q3⟩ := he
  obtain ⟨l, l1, l2, l3⟩ := TK_some hp q1 q2 q3 hb
  have a := h.2 l l1 (by omega) l3
  have b := OK4 hp; have c := LO4 hl
  have d : rm4 m p ≤ 48 := by unfold rm4; omega
  rcases h.1 with y | y
  · omega
  · exact ⟨by omega, a, fun _ => y.2⟩
theorem SR1_z {m : Nat → Nat → Int32} {p : Nat → Int} (hp : OKp m p) : SR1 m p 0 := ⟨by omega, by have b := OK4 hp; unfold rm4; omega, fun z => by omega⟩
/-- next0 is what a LETTER leads to -/
def NX (m : Nat → Nat → Int32) (p : Nat → Int) (l k : Int) (m2 : Nat → Nat → Int32) : Prop := ∀ q : Nat, (q : Int) < k → (m2 159 q).toInt = stp m p l q
theorem NX_set {m m1 m2 : Nat → Nat → Int32} {p : Nat → Int} {l k : Int} {v : Int32} (h : NX m p l k m1) (h0 : 0 ≤ k) (e : m2 = up2 m1 159 k.toNat v) (hv : v.toInt = p k.toNat + tk1 m p l k.toNat) : NX m p l (k + 1) m2 := by
  intro q hq
  by_cases z : (q : Int) = k
  · rw [e, show q = k.toNat by omega, up2_eq, hv]; rfl
  · rw [e, up2_ne (by omega)]; exact h q (by omega)
theorem NX_sx {m m2 : Nat → Nat → Int32} {p : Nat → Int} {l : Int} (h : NX m p l 4 m2) : sx (pn m2) = sx (stp m p l) := sx_of (fun q hq => h q (by omega))
theorem NX_12 {m m2 : Nat → Nat → Int32} {p : Nat → Int} {l : Int} (h : NX m p l 4 m2) (hp : OKp m p) (hl : LO12 m) (h0 : 0 ≤ l) : ∀ q, q < 4 → (m2 159 q).toInt ≤ 12 := fun q hq => by
  rw [h q (by omega)]
  exact (OK12 (OKp_stp hp h0) hl q hq).2
/-- on the way through the shortest -/
def SL (m : Nat → Nat → Int32) (p : Nat → Int) (v : Int) : Prop := LO12 m ∧ SHp m (-1) 16 16 16 ∧ OKp m p ∧ SE m p = v
theorem SL_eq {m m2 : Nat → Nat → Int32} (h : HSAME m m2) (e : ∀ j, m2 163 j = m 163 j) {p : Nat → Int} {v : Int} (k : SL m p v) : SL m2 p v := ⟨LO12_eq h k.1, SHp_eq h e k.2.1, OKp_eq h k.2.2.1, by rw [SE_eq e]; exact k.2.2.2⟩
theorem SL_p {m : Nat → Nat → Int32} {p p' : Nat → Int} {v : Int} (k : SL m p v) (e : ∀ q, q < 4 → p' q = p q) : SL m p' v := ⟨k.1, k.2.1, fun q hq => by rw [e q hq]; exact k.2.2.1 q hq, by unfold SE; rw [sx_of e]; exact k.2.2.2⟩
def SW1 (m : Nat → Nat → Int32) (p : Nat → Int) (l v : Int) : Prop := ∃ k : Int, l ≤ k ∧ k ≤ 25 ∧ TKs m p k ∧ SE m (stp m p k) = v - 1
theorem SW1.start {m : Nat → Nat → Int32} {p : Nat → Int} {v : Int} (h : SL m p v) (hv : 0 < v) : SW1 m p 0 v := by
  have b := OK4 h.2.2.1
  have q := h.2.1 p h.2.2.1 (by unfold lg4; omega)
  rw [h.2.2.2] at q
  obtain ⟨l, l1, l2, l3, l4⟩ := q.2.2 hv
  exact ⟨l, l1, l2, l3, l4⟩
theorem SW1.le {m : Nat → Nat → Int32} {p : Nat → Int} {l v : Int} (h : SW1 m p l v) : l ≤ 25 := by
  obtain ⟨k, k1, k2, _⟩ := h
  omega
theorem SW1_eq {m m2 : Nat → Nat → Int32} (h : HSAME m m2) (e : ∀ j, m2 163 j = m 163 j) {p : Nat → Int} {l v : Int} (k : SW1 m p l v) : SW1 m2 p l v := by
  obtain ⟨q, q1, q2, q3, q4⟩ := k
  exact ⟨q, q1, q2, TKs_eq h q3, by rw [SE_eq e, stp_eq h]; exact q4⟩
theorem SW1.step {m : Nat → Nat → Int32} {p : Nat → Int} {l v : Int} (h : SW1 m p l v) (hn : tkF m p l 4 = 0 ∨ SE m (stp m p l) ≠ v - 1) : SW1 m p (l + 1) v := by
  obtain ⟨q, q1, q2, q3, q4⟩ := h
  refine ⟨q, ?_, q2, q3, q4⟩
  by_cases z : q = l
  · rw [z] at q3 q4
    unfold TKs at q3
    rcases hn with y | y
    · omega
    · exact absurd q4 y
  · omega
theorem SL_next {m m2 : Nat → Nat → Int32} {p : Nat → Int} {l v : Int} (h : SL m p v) (h0 : 0 ≤ l) (hn : NX m p l 4 m2) (hs : HSAME m m2) (e : ∀ j, m2 163 j = m 163 j) (hv : SE m (stp m p l) = v - 1) : SL m2 (pn m2) (v - 1) :=
  SL_p (SL_eq hs e ⟨h.1, h.2.1, OKp_stp h.2.2.1 h0, hv⟩) (fun q hq => hn q (by omega))
theorem SL_st {m m2 : Nat → Nat → Int32} {b j : Nat} {x : Int32} {p : Nat → Int} {v : Int} (k : SL m p v) (e : m2 = up2 m b j x) (hb : 158 ≤ b) (hb2 : b ≤ 162) : SL m2 p v := SL_eq (HSAME.set e hb) (fun q => by rw [e, up2_ne (by omega)]) k
/-- a pair out of some -/
theorem bt_pair : ∀ i j k : Fin 8, bt (((1 : Int32) <<< (Int32.ofInt (i : Nat) &&& 31)) ||| ((1 : Int32) <<< (Int32.ofInt (j : Nat) &&& 31))) ((k : Nat) : Int) = 1 → k = i ∨ k = j := by decide +kernel
theorem CHI_pair {m : Nat → Nat → Int32} {d i j a b e : Int32} (ha : a = (1 : Int32) <<< (i &&& 31)) (hb : b = (1 : Int32) <<< (j &&& 31)) (he : e = a ||| b) (h : CHI m e 8) (h1 : 0 ≤ i.toInt ∧ i.toInt < 8) (h2 : 0 ≤ j.toInt ∧ j.toInt < 8) (d1 : bt d i.toInt = 1) (d2 : bt d j.toInt = 1) : CHI m d 8 := by
  intro q hq
  have k := h q hq
  have z := bt_pair ⟨i.toInt.toNat, by omega⟩ ⟨j.toInt.toNat, by omega⟩ ⟨(m 157 q).toInt.toNat, by omega⟩
  simp only at z
  rw [show ((i.toInt.toNat : Nat) : Int) = i.toInt by omega, show ((j.toInt.toNat : Nat) : Int) = j.toInt by omega, show (((m 157 q).toInt.toNat : Nat) : Int) = (m 157 q).toInt by omega, Int32.ofInt_toInt, Int32.ofInt_toInt, ← ha, ← hb, ← he] at z
  refine ⟨?_, k.2⟩
  rcases z k.1 with y | y
  · rw [show (m 157 q).toInt = i.toInt by have := congrArg Fin.val y; simp only at this; omega]; exact d1
  · rw [show (m 157 q).toInt = j.toInt by have := congrArg Fin.val y; simp only at this; omega]; exact d2
def D12 (m : Nat → Nat → Int32) (d : Int32) : Prop := ∀ k : Int, 0 ≤ k → k < 8 → bt d k = 1 → (m 126 k.toNat).toInt ≤ 12
theorem D12_of {m : Nat → Nat → Int32} {d : Int32} (h : CHA m d 8) (hl : LO12 m) : D12 m d := by
  intro k h1 h2 h3
  obtain ⟨q, q1, q2⟩ := h k h1 h2 h3
  have a := (hl q (by omega)).2
  unfold LOq at a
  rw [if_pos q1, show ((q : Nat) : Int).toNat = q by omega, q2] at a
  exact a
theorem LO12_of {m m0 : Nat → Nat → Int32} {d : Int32} (h : CHI m d 8) (hd : D12 m0 d) (e : ∀ j, m 126 j = m0 126 j) (hb : ∀ j, 0 ≤ (m 126 j).toInt) : LO12 m := by
  intro q hq
  unfold LOq
  split
  · rename_i c
    refine ⟨hb _, ?_⟩
    have k := h q.toNat (by omega)
    rw [e]
    exact hd _ k.2.1 k.2.2 k.1
  · omega
theorem CHI_eq {m m2 : Nat → Nat → Int32} {d : Int32} {b : Int} (h : CHI m d b) (e : m2 123 50 = m 123 50) (e2 : ∀ j, m2 157 j = m 157 j) : CHI m2 d b := by
  intro q hq
  rw [e] at hq
  rw [e2]
  exact h q hq
theorem SR1_eq {m m2 : Nat → Nat → Int32} (h : HSAME m m2) (e : ∀ j, m2 163 j = m 163 j) {p : Nat → Int} {v : Int} (k : SR1 m p v) : SR1 m2 p v := ⟨k.1, by rw [rm4_eq h]; exact k.2.1, fun z => SAT_eq h e (k.2.2 z)⟩
theorem Z_set {m m2 : Nat → Nat → Int32} {k : Int} {v : Int32} (h : ∀ q : Nat, (q : Int) < k → (m 158 q).toInt = 0) (e : m2 = up2 m 158 k.toNat v) (hv : v.toInt = 0) (h0 : 0 ≤ k) : ∀ q : Nat, (q : Int) < k + 1 → (m2 158 q).toInt = 0 := by
  intro q hq
  by_cases z : (q : Int) = k
  · rw [e, show q = k.toNat by omega, up2_eq]; exact hv
  · rw [e, up2_ne (by omega)]; exact h q (by omega)
theorem P_set {m m2 : Nat → Nat → Int32} {k : Int} {v : Int32} (h : ∀ q : Nat, (q : Int) < k → (m 158 q).toInt = (m 159 q).toInt) (e : m2 = up2 m 158 k.toNat v) (hv : v.toInt = pn m k.toNat) (h0 : 0 ≤ k) : ∀ q : Nat, (q : Int) < k + 1 → (m2 158 q).toInt = (m2 159 q).toInt := by
  intro q hq
  by_cases z : (q : Int) = k
  · rw [e, show q = k.toNat by omega, up2_eq, up2_ne (by omega)]; exact hv
  · rw [e, up2_ne (by omega), up2_ne (by omega)]; exact h q (by omega)
theorem SL_start {m : Nat → Nat → Int32} {v : Int} (hl : LO12 m) (hs : SHp m (-1) 16 16 16) (h : ∀ q : Nat, q < 4 → (m 158 q).toInt = 0) (e : (m 163 0).toInt = v) : SL m (pa m) v := by
  refine ⟨hl, hs, fun q hq => ?_, ?_⟩
  · have := hl q (by omega)
    have e2 : pa m q = 0 := h q hq
    omega
  · unfold SE
    rw [show sx (pa m) = 0 by unfold sx pa; rw [h 0 (by omega), h 1 (by omega), h 2 (by omega), h 3 (by omega)]; rfl]
    exact e
