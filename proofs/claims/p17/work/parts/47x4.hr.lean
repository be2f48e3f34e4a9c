/-! HIDDEN in the reference -/
def nQ (m : Nat → Nat → Int32) (x : Int32) : Nat → Int := fun d => (m 126 (kk3 x d)).toInt
def sQ (m : Nat → Nat → Int32) (x : Int32) : Nat → Nat → Int := fun d j => if (j : Int) < (m 126 (kk3 x d)).toInt then (m 127 (16 * kk3 x d + j)).toInt else 0
theorem nQ_R {m : Nat → Nat → Int32} (hD : DDE m) (x : Int32) : nQ m x = nR m (pdk x) ∧ sQ m x = sR m (pdk x) := by
  refine ⟨funext fun d => ?_, funext fun d => funext fun j => ?_⟩
  · exact ((hD (kk3 x d) (kk3_lt x d)).1).symm
  · obtain ⟨a1, a2, _⟩ := hD (kk3 x d) (kk3_lt x d)
    show (if (j : Int) < (m 126 (kk3 x d)).toInt then (m 127 (16 * kk3 x d + j)).toInt else 0) = (if (j : Int) < (m (61 + 2 * kk3 x d) 1).toInt then (m (61 + 2 * kk3 x d + 1) j).toInt else 0)
    rw [a1]
    by_cases z : (j : Int) < (m 126 (kk3 x d)).toInt
    · rw [if_pos z, if_pos z, ← a2 j z, show 61 + 2 * kk3 x d + 1 = 62 + 2 * kk3 x d by omega]
    · rw [if_neg z, if_neg z]
theorem nQ_e {m m2 : Nat → Nat → Int32} {x : Int32} (e6 : ∀ j, m2 126 j = m 126 j) (e7 : ∀ j, m2 127 j = m 127 j) : nQ m2 x = nQ m x ∧ sQ m2 x = sQ m x := by
  refine ⟨funext fun d => ?_, funext fun d => funext fun j => ?_⟩
  · show (m2 126 (kk3 x d)).toInt = (m 126 (kk3 x d)).toInt
    rw [e6]
  · show (if (j : Int) < (m2 126 (kk3 x d)).toInt then (m2 127 (16 * kk3 x d + j)).toInt else 0) = (if (j : Int) < (m 126 (kk3 x d)).toInt then (m 127 (16 * kk3 x d + j)).toInt else 0)
    rw [e6, e7]
theorem L25Q {m : Nat → Nat → Int32} {x : Int32} (I : IV BB m) : L25h (nQ m x) (sQ m x) := by
  intro d _ k hk
  have e : sQ m x d k = (m 127 (16 * kk3 x d + k)).toInt := if_pos hk
  rw [e]
  exact ⟨(I 127 _).1, (I 127 _).2⟩
theorem CHL_h {m m2 : Nat → Nat → Int32} {x : Int32} (k : CHLi m x 8) (e0 : m2 123 50 = m 123 50) (e1 : ∀ j, m2 157 j = m 157 j) : CHLi m2 x 8 := ⟨by rw [e0]; exact k.1, fun q i z => by rw [e1 q]; exact k.2 q i z⟩
theorem CHL_n {m M : Nat → Nat → Int32} {x : Int32} {f t : Int} (k : CHLi M x 8) (h : SPR m x f t) : f ≤ (M 123 50).toInt ∧ (M 123 50).toInt ≤ t := by
  have a := k.1
  have b := mbs_bF x 8
  obtain ⟨_, _, _, h4, h5⟩ := h
  omega
theorem kk3_of {m : Nat → Nat → Int32} {x : Int32} (h : CHLi m x 8) {q : Nat} (hq : (q : Int) < (m 123 50).toInt) (h3 : q < 3) : (m 157 q).toInt = (kk3 x q : Int) := by
  have hl : q < (mbs x 8).length := by have := h.1; omega
  have h2 := List.getElem?_eq_getElem hl
  rw [h.2 q _ h2]
  have : q = 0 ∨ q = 1 ∨ q = 2 := by omega
  rcases this with rfl | rfl | rfl
  · show _ = ((gk x 0 : Nat) : Int)
    rw [gk_of h2]
  · show _ = ((gk x 1 : Nat) : Int)
    rw [gk_of h2]
  · show _ = ((g2k x : Nat) : Int)
    unfold g2k
    rw [h2]
    rfl
theorem two_eq {m : Nat → Nat → Int32} {x : Int32} (h : CHLi m x 8) (h2 : ¬ 2 < (m 123 50).toInt) : nQ m x 2 = nQ m x 0 ∧ sQ m x 2 = sQ m x 0 := by
  have e : kk3 x 2 = kk3 x 0 := by
    show g2k x = gk x 0
    unfold g2k
    rw [List.getElem?_eq_none (by have := h.1; omega)]
    rfl
  unfold nQ sQ
  rw [e]
  exact ⟨rfl, rfl⟩
theorem LOQ {m : Nat → Nat → Int32} {x : Int32} (h : CHLi m x 8) {q : Nat} (hq : (q : Int) < (m 123 50).toInt) (h3 : q < 3) {qi : Int} (e : qi = q) : LOq m qi = nQ m x q := by
  have k := kk3_of h hq h3
  unfold LOq
  rw [e, if_pos hq, show ((q : Nat) : Int).toNat = q by omega, show (m 157 q).toInt.toNat = kk3 x q by omega]
  rfl
theorem LAQ {m : Nat → Nat → Int32} {x : Int32} (h : CHLi m x 8) {q : Nat} (hq : (q : Int) < (m 123 50).toInt) (h3 : q < 3) {qi k : Int} (e : qi = q) (hk : 0 ≤ k) (hn : k < nQ m x q) : LAq m qi k = sQ m x q k.toNat := by
  have z := kk3_of h hq h3
  have hn2 : k < (m 126 (kk3 x q)).toInt := hn
  have e2 : sQ m x q k.toNat = (m 127 (16 * kk3 x q + k.toNat)).toInt := if_pos (by omega)
  rw [e2]
  unfold LAq
  rw [e, show ((q : Nat) : Int).toNat = q by omega, show (m 157 q).toInt.toNat = kk3 x q by omega, if_pos hn2, z, show (16 * (kk3 x q : Int) + k).toNat = 16 * kk3 x q + k.toNat by omega]
theorem NXR_1 {m : Nat → Nat → Int32} {x : Int32} (h : CHLi m x 8) {q : Nat} (hq : (q : Int) < (m 123 50).toInt) (h3 : q < 3) {qi f l v : Int} (e : qi = q) (hf : 0 ≤ f) : NXR m qi f l v ↔ NX1 (nQ m x q) (sQ m x q) f l v := by
  have eL := LOQ h hq h3 e
  have eA : ∀ k : Int, 0 ≤ k → k < nQ m x q → LAq m qi k = sQ m x q k.toNat := fun k a b => LAQ h hq h3 e a b
  unfold NXR NX1
  rw [eL]
  constructor
  · intro z
    rcases z with ⟨z1, _⟩ | ⟨_, ⟨z1, z2⟩ | ⟨z1, z2, z3, z4⟩⟩
    · omega
    · exact Or.inl ⟨z1, fun k a b => by rw [← eA k (by omega) b]; exact z2 k a b⟩
    · exact Or.inr ⟨z1, z2, by rw [← eA v (by omega) z2]; exact z3, fun k a b => by rw [← eA k (by omega) (by omega)]; exact z4 k a b⟩
  · intro z
    refine Or.inr ⟨by omega, ?_⟩
    rcases z with ⟨z1, z2⟩ | ⟨z1, z2, z3, z4⟩
    · exact Or.inl ⟨z1, fun k a b => by rw [eA k (by omega) b]; exact z2 k a b⟩
    · exact Or.inr ⟨z1, z2, by rw [eA v (by omega) z2]; exact z3, fun k a b => by rw [eA k (by omega) (by omega)]; exact z4 k a b⟩
def cc3 (m : Nat → Nat → Int32) (a c : Int) : Int := if 2 < (m 123 50).toInt then c else a
/-- the table is filled behind A, B, C, and tells the most -/
def RT3 (m : Nat → Nat → Int32) (x : Int32) (A B C : Int) : Prop := ∀ a b c : Int, in3 m a b c → lg3 a b c A B C → MX1 (nQ m x) (sQ m x) a b (cc3 m a c) (HE m a b c)
section RT
variable {m : Nat → Nat → Int32} {x : Int32} {A B C : Int}
theorem RT3_a (hl : LO16 m) (h : A = LOq m 0) : RT3 m x A 16 16 := by
  intro a b c hi hg
  have h1 := hl 1
  have h2 := hl 2
  obtain ⟨i1, i2, i3, i4, i5, i6⟩ := hi
  unfold lg3 at hg
  exfalso
  omega
theorem RT3_b {B2 : Int} (hl : LO16 m) (h : RT3 m x A 16 16) (hB : B2 = LOq m 1) : RT3 m x A B2 16 := by
  intro a b c hi hg
  have h1 := hl 1
  have h2 := hl 2
  refine h a b c hi ?_
  obtain ⟨i1, i2, i3, i4, i5, i6⟩ := hi
  unfold lg3 at *
  omega
theorem RT3_c {C2 : Int} (hl : LO16 m) (h : RT3 m x A B 16) (hC : C2 = LOq m 2) : RT3 m x A B C2 := by
  intro a b c hi hg
  have h2 := hl 2
  refine h a b c hi ?_
  obtain ⟨i1, i2, i3, i4, i5, i6⟩ := hi
  unfold lg3 at *
  omega
theorem RT3_bb {B2 : Int} (hl : LO16 m) (h : RT3 m x A B C) (hC : C = -1) (hB : B2 = B - 1) : RT3 m x A B2 16 := by
  intro a b c hi hg
  have h2 := hl 2
  refine h a b c hi ?_
  obtain ⟨i1, i2, i3, i4, i5, i6⟩ := hi
  unfold lg3 at *
  omega
theorem RT3_aa {A2 : Int} (hl : LO16 m) (h : RT3 m x A B 16) (hB : B = -1) (hA : A2 = A - 1) : RT3 m x A2 16 16 := by
  intro a b c hi hg
  have h1 := hl 1
  have h2 := hl 2
  refine h a b c hi ?_
  obtain ⟨i1, i2, i3, i4, i5, i6⟩ := hi
  unfold lg3 at *
  omega
theorem RT3_up (hl : LO16 m) (h : RT3 m x A B C) : RT3 m x A 16 16 := by
  intro a b c hi hg
  have h1 := hl 1
  have h2 := hl 2
  refine h a b c hi ?_
  obtain ⟨i1, i2, i3, i4, i5, i6⟩ := hi
  unfold lg3 at *
  omega
end RT
theorem RT3_set {m m2 : Nat → Nat → Int32} {x : Int32} {A B C C2 : Int} {v : Int32} (hl : LO16 m) (h : RT3 m x A B C) (e : m2 = up2 m 161 (hidx A B C) v) (hA : in3 m A B C) (hv : MX1 (nQ m x) (sQ m x) A B (cc3 m A C) v.toInt) (hC : C2 = C - 1) : RT3 m2 x A B C2 := by
  have hs := HSAME.set e (by omega)
  have en := nQ_e (m := m) (m2 := m2) (x := x) hs.2.2.1 hs.2.2.2
  intro a b c hi hg
  have hi := in3_eq hs hi
  rw [en.1, en.2]
  have ec : cc3 m2 a c = cc3 m a c := by unfold cc3; rw [hs.1]
  rw [ec]
  by_cases q : a = A ∧ b = B ∧ c = C
  · have e1 : HE m2 a b c = v.toInt := by unfold HE; rw [e, q.1, q.2.1, q.2.2, up2_eq]
    rw [e1, q.1, q.2.1, q.2.2]
    exact hv
  · rw [HE_ne e hi hA hl q]
    refine h a b c hi ?_
    unfold lg3 at *
    omega
/-- the best of the LETTERS below l -/
def HAX (m : Nat → Nat → Int32) (a b c v : Int) : Prop := ∃ l : Int, HBR m a b c l v
def BSQ (m : Nat → Nat → Int32) (a b c l best : Int) : Prop := 0 ≤ best ∧ (best = 0 ∨ HAX m a b c best) ∧ ∀ q : Int, 0 ≤ q → q < l → ∀ v : Int, HBR m a b c q v → v ≤ best
theorem BSQ_0 {m : Nat → Nat → Int32} {a b c : Int} : BSQ m a b c 0 0 := ⟨Int.le_refl _, Or.inl rfl, fun q a b => by exfalso; omega⟩
theorem BSQ_step {m : Nat → Nat → Int32} {a b c l v best best2 : Int} (h : BSQ m a b c l best) (hb : HBR m a b c l v) (hi : in3 m a b c) (e : (v ≤ best ∧ best2 = best) ∨ (best < v ∧ best2 = v)) : BSQ m a b c (l + 1) best2 := by
  obtain ⟨h1, h2, h3⟩ := h
  refine ⟨by omega, ?_, fun q q0 q1 w hw => ?_⟩
  · rcases e with e | e
    · rw [e.2]; exact h2
    · rw [e.2]; exact Or.inr ⟨l, hb⟩
  · by_cases z : q = l
    · rw [z] at hw
      have := HBR_fn hb hw hi.1 hi.2.2.1 hi.2.2.2.2.1
      omega
    · have := h3 q q0 (by omega) w hw
      omega
theorem RT_new {m : Nat → Nat → Int32} {x : Int32} {a b c best : Int} (hc : CHLi m x 8) (h2 : 2 ≤ (m 123 50).toInt) (h3 : (m 123 50).toInt ≤ 3) (hl : LO16 m) (hL : L25h (nQ m x) (sQ m x)) (hi : in3 m a b c) (hr : RT3 m x a 16 16) (bq : BSQ m a b c 26 best) : MX1 (nQ m x) (sQ m x) a b (cc3 m a c) best := by
  have n0 : ∀ {f l v : Int}, 0 ≤ f → (NXR m 0 f l v ↔ NX1 (nQ m x 0) (sQ m x 0) f l v) := fun hf => NXR_1 hc (q := 0) (by omega) (by omega) rfl hf
  have n1 : ∀ {f l v : Int}, 0 ≤ f → (NXR m 1 f l v ↔ NX1 (nQ m x 1) (sQ m x 1) f l v) := fun hf => NXR_1 hc (q := 1) (by omega) (by omega) rfl hf
  have l0 : LOq m 0 = nQ m x 0 := LOQ hc (q := 0) (by omega) (by omega) rfl
  have l1 : LOq m 1 = nQ m x 1 := LOQ hc (q := 1) (by omega) (by omega) rfl
  obtain ⟨b1, b2, b3⟩ := bq
  refine ⟨b1, fun k => ?_⟩
  match k with
  | 0 => exact ⟨fun _ => b1, fun _ => trivial⟩
  | k + 1 =>
    constructor
    · intro ⟨X, Y, Z, a1, a2, a3, a4, a5, a6, a7, a8, a9⟩
      have i0 := hi.1
      have i1 := hi.2.2.1
      have lr := hL 0 (by omega) X.toNat (by omega)
      obtain ⟨X', hx⟩ := NX1_an (n := nQ m x 0) (s := sQ m x 0) (l := sQ m x 0 X.toNat) i0
      obtain ⟨Y', hy⟩ := NX1_an (n := nQ m x 1) (s := sQ m x 1) (l := sQ m x 0 X.toNat) i1
      have lx := NX1_le i0 hx a1 a2 rfl
      have ly := NX1_le i1 hy a3 a4 a7.symm
      have tx := NX1_to hx lx.1
      have ty := NX1_to hy ly.1
      by_cases ch : 2 < (m 123 50).toInt
      · have n2 : ∀ {f l v : Int}, 0 ≤ f → (NXR m 2 f l v ↔ NX1 (nQ m x 2) (sQ m x 2) f l v) := fun hf => NXR_1 hc (q := 2) (by omega) (by omega) rfl hf
        have l2 : LOq m 2 = nQ m x 2 := LOQ hc (q := 2) (by omega) (by omega) rfl
        have i2 := hi.2.2.2.2.1
        have ec : cc3 m a c = c := if_pos ch
        rw [ec] at a5
        obtain ⟨Z', hz⟩ := NX1_an (n := nQ m x 2) (s := sQ m x 2) (l := sQ m x 0 X.toNat) i2
        have lz := NX1_le i2 hz a5 a6 (by rw [← a8, ← a7])
        have tz := NX1_to hz lz.1
        have hb : HBR m a b c (sQ m x 0 X.toNat) (1 + HE m (X' + 1) (Y' + 1) (Z' + 1)) := by
          refine ⟨X', Y', Z', (n0 i0).mpr hx, (n1 i1).mpr hy, (n2 i2).mpr hz, Or.inr ⟨lx.1, ly.1, lz.1, ?_⟩⟩
          unfold HE hix hidx
          rw [if_pos ch]
        have v1 := b3 _ lr.1 (by omega) _ hb
        have mx := hr (X' + 1) (Y' + 1) (Z' + 1) ⟨by omega, by omega, by omega, by omega, by omega, by omega⟩ (Or.inl (by omega))
        have ec2 : cc3 m (X' + 1) (Z' + 1) = Z' + 1 := if_pos ch
        rw [ec2] at mx
        have v2 := (mx.2 k).mp (CS_mono (by omega) (by omega) (by omega) a9)
        omega
      · have te := two_eq hc ch
        have l2 : LOq m 2 = 0 := by unfold LOq; rw [if_neg (by omega)]
        have hb : HBR m a b c (sQ m x 0 X.toNat) (1 + HE m (X' + 1) (Y' + 1) 0) := by
          refine ⟨X', Y', 0, (n0 i0).mpr hx, (n1 i1).mpr hy, Or.inl ⟨by omega, rfl⟩, Or.inr ⟨lx.1, ly.1, by omega, ?_⟩⟩
          unfold HE hix hidx
          rw [if_neg ch]
        have v1 := b3 _ lr.1 (by omega) _ hb
        have mx := hr (X' + 1) (Y' + 1) 0 ⟨by omega, by omega, by omega, by omega, by omega, by omega⟩ (Or.inl (by omega))
        have ec2 : cc3 m (X' + 1) 0 = X' + 1 := if_neg ch
        rw [ec2] at mx
        have v2 := (mx.2 k).mp (CS_mono (by omega) (by omega) (by omega) (CS_two te.1 te.2 a9))
        omega
    · intro hk
      rcases b2 with b2 | ⟨l, b2⟩
      · omega
      · obtain ⟨X, Y, Z, h4, h5, h6, p1, p2, p3, p4, p5, p6⟩ := HBR_to b2 (by omega) h2 hi hl
        have i0 := hi.1
        have i1 := hi.2.2.1
        have g0 := (n0 i0).mp h4
        have g1 := (n1 i1).mp h5
        have t0 := NX1_to g0 p1
        have t1 := NX1_to g1 p2
        have s0 : sQ m x 0 X.toNat = l := by
          rcases g0 with g0 | g0
          · exact absurd g0.1 p1
          · exact g0.2.2.1
        have s1 : sQ m x 1 Y.toNat = l := by
          rcases g1 with g1 | g1
          · exact absurd g1.1 p2
          · exact g1.2.2.1
        have mx := hr _ _ _ p5 (Or.inl (by omega))
        by_cases ch : 2 < (m 123 50).toInt
        · have i2 := hi.2.2.2.2.1
          have g2 := (NXR_1 hc (q := 2) (by omega) (by omega) rfl i2).mp h6
          have t2 := NX1_to g2 p3
          have s2 : sQ m x 2 Z.toNat = l := by
            rcases g2 with g2 | g2
            · exact absurd g2.1 p3
            · exact g2.2.2.1
          rw [if_pos ch] at mx p6
          have ec : cc3 m a c = c := if_pos ch
          have ec2 : cc3 m (X + 1) (Z + 1) = Z + 1 := if_pos ch
          rw [ec2] at mx
          rw [ec]
          exact ⟨X, Y, Z, t0.1, t0.2, t1.1, t1.2, t2.1, t2.2, by rw [s0, s1], by rw [s1, s2], (mx.2 k).mpr (by omega)⟩
        · have te := two_eq hc ch
          rw [if_neg ch] at mx p6
          have ec : cc3 m a c = a := if_neg ch
          have ec2 : cc3 m (X + 1) 0 = X + 1 := if_neg ch
          rw [ec2] at mx
          rw [ec]
          exact ⟨X, Y, X, t0.1, t0.2, t1.1, t1.2, t0.1, by rw [te.1]; exact t0.2, by rw [s0, s1], by rw [te.2, s1, s0], (mx.2 k).mpr (by omega)⟩
/-- as a table over three rows -/
def FQ (m : Nat → Nat → Int32) (a b c : Int) : Int := HE m a b (if 2 < (m 123 50).toInt then c else 0)
def PQ (m : Nat → Nat → Int32) (a _b c : Int) : Prop := 2 < (m 123 50).toInt ∨ c = a
theorem FQ_0 (m : Nat → Nat → Int32) : FQ m 0 0 0 = (m 161 0).toInt := by
  unfold FQ
  rw [show (if 2 < (m 123 50).toInt then (0 : Int) else 0) = 0 by split <;> rfl]
  unfold HE
  rw [show hidx 0 0 0 = 0 by decide]
theorem TMQ {m : Nat → Nat → Int32} {x : Int32} (hc : CHLi m x 8) (h2 : 2 ≤ (m 123 50).toInt) (h3 : (m 123 50).toInt ≤ 3) (hr : RT3 m x (-1) 16 16) : TMX (nQ m x) (sQ m x) (PQ m) (FQ m) := by
  have l0 : LOq m 0 = nQ m x 0 := LOQ hc (q := 0) (by omega) (by omega) rfl
  have l1 : LOq m 1 = nQ m x 1 := LOQ hc (q := 1) (by omega) (by omega) rfl
  intro a b c hp hi
  obtain ⟨i1, i2, i3, i4, i5, i6⟩ := hi
  by_cases ch : 2 < (m 123 50).toInt
  · have l2 : LOq m 2 = nQ m x 2 := LOQ hc (q := 2) (by omega) (by omega) rfl
    have q := hr a b c ⟨i1, by omega, i3, by omega, i5, by omega⟩ (Or.inl (by omega))
    have ec : cc3 m a c = c := if_pos ch
    have ef : FQ m a b c = HE m a b c := by unfold FQ; rw [if_pos ch]
    rw [ec] at q
    rw [ef]
    exact q
  · have hca : c = a := hp.resolve_left ch
    have l2 : LOq m 2 = 0 := by unfold LOq; rw [if_neg (by omega)]
    have q := hr a b 0 ⟨i1, by omega, i3, by omega, Int.le_refl _, by omega⟩ (Or.inl (by omega))
    have ec : cc3 m a 0 = a := if_neg ch
    have ef : FQ m a b c = HE m a b 0 := by unfold FQ; rw [if_neg ch]
    rw [ec] at q
    rw [ef, hca]
    exact q
theorem PCQ {m : Nat → Nat → Int32} {x : Int32} (hc : CHLi m x 8) : PCL (nQ m x) (sQ m x) (PQ m) := by
  refine ⟨Or.inr rfl, fun a b c l X Y Z ha hb hcc hp hx hy hz => ?_⟩
  by_cases ch : 2 < (m 123 50).toInt
  · exact Or.inl ch
  · have te := two_eq hc ch
    rw [te.1, te.2, hp.resolve_left ch] at hz
    have := NX1_fn ha hx hz
    exact Or.inr (by omega)
/-- LETTER by LETTER -/
def NLQ (m : Nat → Nat → Int32) (a b c l : Int) : Prop := ∀ q : Int, 0 ≤ q → q < l → ∀ v : Int, HBR m a b c q v → v ≠ HE m a b c
theorem NLQ_0 {m : Nat → Nat → Int32} {a b c : Int} : NLQ m a b c 0 := fun q a b => by exfalso; omega
theorem NLQ_step {m : Nat → Nat → Int32} {a b c l v : Int} (h : NLQ m a b c l) (hb : HBR m a b c l v) (hi : in3 m a b c) (hn : v ≠ HE m a b c) : NLQ m a b c (l + 1) := by
  intro q q0 q1 w hw
  by_cases z : q = l
  · rw [z] at hw
    rw [← HBR_fn hb hw hi.1 hi.2.2.1 hi.2.2.2.2.1]
    exact hn
  · exact h q q0 (by omega) w hw
def HLX (m : Nat → Nat → Int32) (x : Int32) (a b c l : Int) : Prop := ∃ X Y Z : Int, HLS (nQ m x) (sQ m x) (FQ m) a b (cc3 m a c) l X Y Z ∧ NXR m 0 a l X ∧ NXR m 1 b l Y ∧ ((2 < (m 123 50).toInt ∧ NXR m 2 c l Z) ∨ (¬ 2 < (m 123 50).toInt ∧ Z = X))
theorem HLQ {m : Nat → Nat → Int32} {x : Int32} {a b c l v : Int} (hc : CHLi m x 8) (h2 : 2 ≤ (m 123 50).toInt) (h3 : (m 123 50).toInt ≤ 3) (hl : LO16 m) (hi : in3 m a b c) (hb : HBR m a b c l v) (hv : v = HE m a b c) (hp : 0 < v) (nl : NLQ m a b c l) (l0 : 0 ≤ l) (l1 : l ≤ 25) : HLX m x a b c l := by
  have n0 : ∀ {f l v : Int}, 0 ≤ f → (NXR m 0 f l v ↔ NX1 (nQ m x 0) (sQ m x 0) f l v) := fun hf => NXR_1 hc (q := 0) (by omega) (by omega) rfl hf
  have n1 : ∀ {f l v : Int}, 0 ≤ f → (NXR m 1 f l v ↔ NX1 (nQ m x 1) (sQ m x 1) f l v) := fun hf => NXR_1 hc (q := 1) (by omega) (by omega) rfl hf
  obtain ⟨X, Y, Z, h4, h5, h6, p1, p2, p3, p4, p5, p6⟩ := HBR_to hb (by omega) h2 hi hl
  have i0 := hi.1
  have i1 := hi.2.2.1
  by_cases ch : 2 < (m 123 50).toInt
  · have n2 : ∀ {f l v : Int}, 0 ≤ f → (NXR m 2 f l v ↔ NX1 (nQ m x 2) (sQ m x 2) f l v) := fun hf => NXR_1 hc (q := 2) (by omega) (by omega) rfl hf
    have i2 := hi.2.2.2.2.1
    have ec : cc3 m a c = c := if_pos ch
    have ef : ∀ a b c : Int, FQ m a b c = HE m a b c := fun a b c => by unfold FQ; rw [if_pos ch]
    rw [if_pos ch] at p6
    refine ⟨X, Y, Z, ⟨l0, l1, ⟨(n0 i0).mp h4, (n1 i1).mp h5, ?_, p1, p2, p3, ?_⟩, ?_⟩, h4, h5, Or.inl ⟨ch, h6⟩⟩
    · rw [ec]; exact (n2 i2).mp h6
    · rw [ef, ef, ec]; omega
    · intro q q0 q1 X' Y' Z' g
      rw [ec] at g
      obtain ⟨g1, g2, g3, g4, g5, g6, g7⟩ := g
      rw [ef, ef] at g7
      refine nl q q0 q1 (1 + HE m (X' + 1) (Y' + 1) (Z' + 1)) ⟨X', Y', Z', (n0 i0).mpr g1, (n1 i1).mpr g2, (n2 i2).mpr g3, Or.inr ⟨g4, g5, g6, ?_⟩⟩ (by omega)
      unfold HE hix hidx
      rw [if_pos ch]
  · have te := two_eq hc ch
    have l2 : LOq m 2 = 0 := by unfold LOq; rw [if_neg (by omega)]
    have hc0 : c = 0 := by have := hi.2.2.2.2.1; have := hi.2.2.2.2.2; omega
    have ec : cc3 m a c = a := if_neg ch
    have ef : ∀ a b c : Int, FQ m a b c = HE m a b 0 := fun a b c => by unfold FQ; rw [if_neg ch]
    rw [if_neg ch] at p6
    refine ⟨X, Y, X, ⟨l0, l1, ⟨(n0 i0).mp h4, (n1 i1).mp h5, ?_, p1, p2, p1, ?_⟩, ?_⟩, h4, h5, Or.inr ⟨ch, rfl⟩⟩
    · rw [ec, te.1, te.2]; exact (n0 i0).mp h4
    · rw [ef, ef]; rw [hc0] at hv; omega
    · intro q q0 q1 X' Y' Z' g
      obtain ⟨g1, g2, g3, g4, g5, g6, g7⟩ := g
      rw [ef, ef] at g7
      refine nl q q0 q1 (1 + HE m (X' + 1) (Y' + 1) 0) ⟨X', Y', 0, (n0 i0).mpr g1, (n1 i1).mpr g2, Or.inl ⟨by omega, rfl⟩, Or.inr ⟨g4, g5, by omega, ?_⟩⟩ (by rw [hc0]; omega)
      unfold HE hix hidx
      rw [if_neg ch]
def PHQ (m : Nat → Nat → Int32) (x : Int32) (a b c k : Int) : Prop := ∃ f, HPT (nQ m x) (sQ m x) (FQ m) f k.toNat a b (cc3 m a c)
theorem PHQ_0 {m : Nat → Nat → Int32} {x : Int32} : PHQ m x 0 0 0 0 := ⟨fun _ => 0, rfl, rfl, by unfold cc3; split <;> rfl⟩
theorem PHQ_x {m : Nat → Nat → Int32} {x : Int32} {a b c k l X Y Z : Int} (h : PHQ m x a b c k) (hl : HLS (nQ m x) (sQ m x) (FQ m) a b (cc3 m a c) l X Y Z) : ∃ f, HPT (nQ m x) (sQ m x) (FQ m) f (k.toNat + 1) (X + 1) (Y + 1) (Z + 1) ∧ f k.toNat = l := by
  obtain ⟨f, hf⟩ := h
  refine ⟨fun i => if i = k.toNat then l else f i, ⟨a, b, cc3 m a c, X, Y, Z, HPT_f (fun i hi => if_neg (by omega)) hf, ?_, rfl, rfl, rfl⟩, if_pos rfl⟩
  have e : (fun i => if i = k.toNat then l else f i) k.toNat = l := if_pos rfl
  rw [e]
  exact hl
theorem PHQ_next {m : Nat → Nat → Int32} {x : Int32} {a b c k l X Y Z a2 b2 c2 k2 : Int} (h : PHQ m x a b c k) (hl : HLX m x a b c l) (k0 : 0 ≤ k) (hi : in3 m a b c) (n1 : NXR m 0 a l X) (n2 : NXR m 1 b l Y) (n3 : NXR m 2 c l Z) (e1 : a2 = X + 1) (e2 : b2 = Y + 1) (e3 : c2 = if 2 < (m 123 50).toInt then Z + 1 else 0) (e4 : k2 = k + 1) : PHQ m x a2 b2 c2 k2 := by
  obtain ⟨X', Y', Z', h1, h2, h3, h4⟩ := hl
  have ex := NXR_fn h2 n1 hi.1
  have ey := NXR_fn h3 n2 hi.2.2.1
  obtain ⟨f, hf, _⟩ := PHQ_x h h1
  refine ⟨f, ?_⟩
  rw [e4, show (k + 1).toNat = k.toNat + 1 by omega, e1, e2, ← ex, ← ey]
  have ec : cc3 m (X' + 1) c2 = Z' + 1 := by
    unfold cc3
    rcases h4 with ⟨h4, h5⟩ | ⟨h4, h5⟩
    · rw [if_pos h4, e3, if_pos h4, NXR_fn h5 n3 hi.2.2.2.2.1]
    · rw [if_neg h4, h5]
  rw [ec]
  exact hf
/-- what hidden() of the reference answers -/
def HDR (g : Prop) (n : Nat → Int) (s : Nat → Nat → Int) (i v : Int) : Prop := ((i < -1 ∨ ¬ g) ∧ v = -1) ∨ (-1 ≤ i ∧ g ∧ ∃ P F, PCL n s P ∧ TMX n s P F ∧ ((i = -1 ∧ v = F 0 0 0) ∨ (0 ≤ i ∧ F 0 0 0 ≤ i ∧ v = -1) ∨ (0 ≤ i ∧ i < F 0 0 0 ∧ ∃ f a b c, HPT n s F f (i.toNat + 1) a b c ∧ v = f i.toNat)))
theorem HDR_s {m M : Nat → Nat → Int32} {x : Int32} {i v : Int} (g : SPR m x 2 3) (hi : -1 ≤ i) (e6 : ∀ j, M 126 j = m 126 j) (e7 : ∀ j, M 127 j = m 127 j) (hP : PCL (nQ M x) (sQ M x) (PQ M)) (hT : TMX (nQ M x) (sQ M x) (PQ M) (FQ M)) (hv : (i = -1 ∧ v = (M 161 0).toInt) ∨ (0 ≤ i ∧ (M 161 0).toInt ≤ i ∧ v = -1) ∨ (0 ≤ i ∧ i < (M 161 0).toInt ∧ ∃ f a b c, HPT (nQ M x) (sQ M x) (FQ M) f (i.toNat + 1) a b c ∧ v = f i.toNat)) : HDR (SPR m x 2 3) (nQ m x) (sQ m x) i v := by
  have e := nQ_e (m := m) (m2 := M) (x := x) e6 e7
  rw [e.1, e.2] at hP hT hv
  rw [← FQ_0 M] at hv
  exact Or.inr ⟨hi, g, PQ M, FQ M, hP, hT, hv⟩
theorem HDR_hit {m M : Nat → Nat → Int32} {x : Int32} {i v a b c k l : Int} (g : SPR m x 2 3) (e6 : ∀ j, M 126 j = m 126 j) (e7 : ∀ j, M 127 j = m 127 j) (hP : PCL (nQ M x) (sQ M x) (PQ M)) (hT : TMX (nQ M x) (sQ M x) (PQ M) (FQ M)) (h : PHQ M x a b c k) (hl : HLX M x a b c l) (hi : 0 ≤ i) (h1 : i < (M 161 0).toInt) (hk : k = i) (hv : v = l) : HDR (SPR m x 2 3) (nQ m x) (sQ m x) i v := by
  obtain ⟨X, Y, Z, h2, _⟩ := hl
  obtain ⟨f, hf, hfl⟩ := PHQ_x h h2
  rw [hk] at hf hfl
  exact HDR_s g (by omega) e6 e7 hP hT (Or.inr (Or.inr ⟨hi, h1, f, _, _, _, hf, by rw [hfl]; exact hv⟩))
theorem H1_SPR {m : Nat → Nat → Int32} {x : Int32} (I : IV BB m) (hD : DDE m) : H1 m x ↔ SPR m x 2 3 := by
  have b0 : (0 : Int) ≤ (m 123 4).toInt := (I 123 4).1
  have b1 : (m 123 4).toInt ≤ 255 := (I 123 4).2
  have ea : (adv m x).toInt ≠ 0 ↔ (x &&& (m 123 4 ^^^ -1)).toInt = 0 := by
    unfold adv
    rw [told_eq I hD]
    split
    · rename_i h; exact ⟨fun _ => h, fun _ => by decide⟩
    · rename_i h; exact ⟨fun z => absurd (show (0 : Int32).toInt = 0 by decide) z, fun z => absurd z h⟩
  constructor
  · intro ⟨h1, h2, h3⟩
    have z := ea.mp h1
    obtain ⟨x0, x1⟩ := sub255 b0 b1 z
    rw [bcn_x x0 x1] at h2 h3
    exact ⟨x0, x1, z, h2, h3⟩
  · intro ⟨x0, x1, z, h2, h3⟩
    exact ⟨ea.mpr z, by rw [bcn_x x0 x1]; exact h2, by rw [bcn_x x0 x1]; exact h3⟩
theorem HDV_det {g1 g2 : Prop} {n : Nat → Int} {s : Nat → Nat → Int} {i v w : Int} (hg : g1 ↔ g2) (hL : L25h n s) (hn : HI3 n 0 0 0) (a : HDV g1 n s i v) (b : HDR g2 n s i w) : v = w := by
  rcases a with ⟨a1, a2⟩ | ⟨a1, a2, u, f, hf, a3⟩ <;> rcases b with ⟨b1, b2⟩ | ⟨b1, b2, P, F, hP, hF, b3⟩
  · omega
  · rcases a1 with a1 | a1
    · omega
    · exact absurd (hg.mpr b2) a1
  · rcases b1 with b1 | b1
    · omega
    · exact absurd (hg.mp a2) b1
  · obtain ⟨G, p, q, r, hG, hu, hpt⟩ := hf hL
    have e := TMX_eq (TM3_X hG) hF hP.1 hn
    rcases a3 with a3 | a3 | a3 <;> rcases b3 with b3 | b3 | b3
    · omega
    · omega
    · obtain ⟨b4, b5, _⟩ := b3; omega
    · omega
    · omega
    · obtain ⟨b4, b5, _⟩ := b3; omega
    · omega
    · omega
    · obtain ⟨b4, b5, f2, a', b', c', hf2, hw⟩ := b3
      obtain ⟨p2, q2, r2, hcut⟩ := HPT_cut (i := i.toNat + 1) hpt (by omega)
      have d := HPT_det hP (TM3_X hG) hF hn hcut hf2
      rw [hw, ← d.1 i.toNat (by omega)]
      exact a3.2.2
theorem hid_EW {m : Nat → Nat → Int32} {x : Int32} {i v w : Int} (I : IV BB m) (hD : DDE m) (a : HDV (H1 m x) (nR m (pdk x)) (sR m (pdk x)) i v) (b : HDR (SPR m x 2 3) (nQ m x) (sQ m x) i w) : v = w := by
  have hL := L25Q (x := x) I
  have e := nQ_R hD x
  have hn : HI3 (nQ m x) 0 0 0 := ⟨Int.le_refl _, (I 126 _).1, Int.le_refl _, (I 126 _).1, Int.le_refl _, (I 126 _).1⟩
  rw [← e.1, ← e.2] at a
  exact HDV_det (H1_SPR I hD) hL hn a b
