/-! THE SHORTEST on both sides: members, pairs -/
theorem amv_bt (x : Int32) (i : Nat) : (amv x (Int32.ofInt i)).toInt = bt x i := by
  have b := bt_b x i
  unfold amv
  unfold bt at b ⊢
  split
  · rename_i h; rw [h]; decide
  · rename_i h
    have : ((x >>> (Int32.ofInt i &&& 31)) &&& 1).toInt = 0 := by omega
    rw [this]; decide
def CHLi (m : Nat → Nat → Int32) (x : Int32) (i : Nat) : Prop := (m 123 50).toInt = ((mbs x i).length : Int) ∧ ∀ (q k : Nat), (mbs x i)[q]? = some k → (m 157 q).toInt = k
theorem CHL_0 {m : Nat → Nat → Int32} {x : Int32} (h : (m 123 50).toInt = 0) : CHLi m x 0 := ⟨by simp [mbs, h], fun q k z => by simp [mbs] at z⟩
theorem CHL_no {m : Nat → Nat → Int32} {x : Int32} {i j : Int} (h0 : 0 ≤ i) (h : CHLi m x i.toNat) (hb : bt x i = 0) (hj : j = i + 1) : CHLi m x j.toNat := by
  have e : j.toNat = i.toNat + 1 := by omega
  have a : (amv x (Int32.ofInt (i.toNat : Nat))).toInt = 0 := by rw [amv_bt, show ((i.toNat : Nat) : Int) = i by omega]; exact hb
  unfold CHLi
  rw [e, mbs_no a]
  exact h
theorem CHL_yes {m m1 m2 : Nat → Nat → Int32} {x : Int32} {i j : Int} {v u : Int32} (h0 : 0 ≤ i) (h : CHLi m x i.toNat) (hb : bt x i = 1) (hj : j = i + 1) (e1 : m1 = up2 m 157 (m 123 50).toInt.toNat v) (hv : v.toInt = i) (e2 : m2 = up2 m1 123 50 u) (hu : u.toInt = (m 123 50).toInt + 1) : CHLi m2 x j.toNat := by
  have e : j.toNat = i.toNat + 1 := by omega
  have a : (amv x (Int32.ofInt (i.toNat : Nat))).toInt ≠ 0 := by rw [amv_bt, show ((i.toNat : Nat) : Int) = i by omega, hb]; decide
  unfold CHLi
  rw [e]
  refine ⟨by rw [(mbs_yes a).1, e2, up2_eq, hu, h.1]; omega, fun q k hq => ?_⟩
  simp only [mbs] at hq
  rw [if_pos a] at hq
  have hl : (m 123 50).toInt.toNat = (mbs x i.toNat).length := by have := h.1; omega
  by_cases z : q < (mbs x i.toNat).length
  · rw [List.getElem?_append_left z] at hq
    rw [e2, up2_ne (by omega), e1, up2_ne (by omega)]
    exact h.2 q k hq
  · rw [List.getElem?_append_right (by omega)] at hq
    have eq1 : q = (mbs x i.toNat).length := by
      have := (List.getElem?_eq_some_iff.mp hq).1
      simp at this
      omega
    rw [eq1, Nat.sub_self] at hq
    simp at hq
    rw [e2, up2_ne (by omega), e1, eq1, ← hl, up2_eq, hv]
    omega
theorem mbs_bF (x : Int32) : ∀ i : Nat, ((mbs x i).length : Int) = bF x i
  | 0 => rfl
  | i + 1 => by
    have a := mbs_bF x i
    have b := bt_b x i
    simp only [mbs, bF]
    rw [amv_bt]
    split
    · rename_i h; rw [List.length_append]; simp; omega
    · rename_i h; omega
def nmr (m : Nat → Nat → Int32) (x : Int32) : Nat → Int := fun d => match (mbs x 8)[d]? with
  | some k => (m 126 k).toInt
  | none => 0
def smr (m : Nat → Nat → Int32) (x : Int32) : Nat → Nat → Int := fun d j => match (mbs x 8)[d]? with
  | some k => (m 127 (16 * k + j)).toInt
  | none => 0
theorem CHL_LO {m : Nat → Nat → Int32} {x : Int32} (h : CHLi m x 8) (d : Nat) : LOq m d = nmr m x d := by
  unfold LOq nmr
  cases h2 : (mbs x 8)[d]? with
  | none =>
    rw [if_neg]
    have := List.getElem?_eq_none_iff.mp h2
    have := h.1
    omega
  | some k =>
    have l := (List.getElem?_eq_some_iff.mp h2).1
    have e := h.2 d k h2
    rw [if_pos (by have := h.1; omega), show (d : Int).toNat = d by omega, e]
    rfl
theorem CHL_hd {m : Nat → Nat → Int32} {x : Int32} (h : CHLi m x 8) (a : Nat → Int) (d : Nat) (h0 : 0 ≤ a d) : hda (nmr m x) (smr m x) a d = if (d : Int) < (m 123 50).toInt then LAq m d (a d) else -1 := by
  have hn := CHL_LO h d
  unfold hda
  rw [← hn]
  by_cases z : (d : Int) < (m 123 50).toInt
  · rw [if_pos z]
    unfold LOq LAq smr
    rw [if_pos z, show ((d : Nat) : Int).toNat = d by omega]
    have hl : d < (mbs x 8).length := by have := h.1; omega
    have h2 : (mbs x 8)[d]? = some ((mbs x 8)[d]) := List.getElem?_eq_getElem hl
    have e := h.2 d _ h2
    rw [h2]
    by_cases y : a d < (m 126 (m 157 d).toInt.toNat).toInt
    · rw [if_pos y, if_pos y, e]
      show (m 127 (16 * (mbs x 8)[d] + (a d).toNat)).toInt = (m 127 (16 * (((mbs x 8)[d] : Nat) : Int) + a d).toNat).toInt
      congr 2
      omega
    · rw [if_neg y, if_neg y]
  · rw [if_neg z]
    have : LOq m d = 0 := by unfold LOq; rw [if_neg z]
    rw [this, if_neg (by omega)]
def SHR (m : Nat → Nat → Int32) (x : Int32) (v : Int) : Prop := ∃ F, F4 F ∧ OBY (nmr m x) (smr m x) F ∧ v = F (fun _ => 0)
theorem SHR_tb {m : Nat → Nat → Int32} {x : Int32} {v : Int} (I : IV BB m) (hc : CHLi m x 8) (hp : SHp m (-1) 16 16 16) (hm : SHm m (-1) 16 16 16) (hv : v = (m 163 0).toInt) : SHR m x v := by
  have h4 : F4 (SE m) := fun a b h => by unfold SE; rw [sx_of h]
  refine ⟨SE m, h4, fun a ha => ?_, ?_⟩
  · have ok : OKp m a := fun q hq => by rw [CHL_LO hc q]; exact ha q hq
    have lg : lg4 a (-1) 16 16 16 := Or.inl (by have := (ha 0 (by omega)).1; omega)
    have r1 := hp a ok lg
    have r2 := hm a ok lg
    have hd : ∀ d, d < 4 → hda (nmr m x) (smr m x) a d = if (d : Int) < (m 123 50).toInt then LAq m d (a d) else -1 := fun d h => CHL_hd hc a d (ha d h).1
    have adv : ∀ l, l ≠ -1 → SE m (adv4 (nmr m x) (smr m x) a l) = SE m (stp m a l) := fun l hl => h4 _ _ (fun d h => by
      unfold adv4 stp tk1
      rw [hd d h]
      by_cases z : (d : Int) < (m 123 50).toInt
      · rw [if_pos z]
        by_cases y : LAq m d (a d) = l
        · rw [if_pos y, if_pos ⟨z, y⟩]
        · rw [if_neg y, if_neg (fun q => y q.2)]
      · rw [if_neg z, if_neg (fun q => hl q.symm), if_neg (fun q => z q.1)])
    have tks : ∀ d, d < 4 → hda (nmr m x) (smr m x) a d ≠ -1 → 0 ≤ hda (nmr m x) (smr m x) a d ∧ hda (nmr m x) (smr m x) a d ≤ 25 ∧ TKs m a (hda (nmr m x) (smr m x) a d) := fun d h hne => by
      have e := hd d h
      by_cases z : (d : Int) < (m 123 50).toInt
      · rw [if_pos z] at e
        have rng : 0 ≤ LAq m d (a d) ∧ LAq m d (a d) ≤ 25 := by
          rw [e] at hne
          unfold LAq at hne ⊢
          split
          · exact ⟨(I 127 _).1, (I 127 _).2⟩
          · rename_i y; rw [if_neg y] at hne; exact absurd rfl hne
        refine ⟨by omega, by omega, ?_⟩
        have t1 : tk1 m a (hda (nmr m x) (smr m x) a d) d = 1 := by unfold tk1; rw [if_pos ⟨z, e.symm⟩]
        have b0 := tk1_b m a (hda (nmr m x) (smr m x) a d) 0
        have b1 := tk1_b m a (hda (nmr m x) (smr m x) a d) 1
        have b2 := tk1_b m a (hda (nmr m x) (smr m x) a d) 2
        have b3 := tk1_b m a (hda (nmr m x) (smr m x) a d) 3
        unfold TKs
        rw [tkF4]
        have : d = 0 ∨ d = 1 ∨ d = 2 ∨ d = 3 := by omega
        rcases this with w | w | w | w
        · rw [w] at t1 b0 b1 b2 b3 ⊢; omega
        · rw [w] at t1 b0 b1 b2 b3 ⊢; omega
        · rw [w] at t1 b0 b1 b2 b3 ⊢; omega
        · rw [w] at t1 b0 b1 b2 b3 ⊢; omega
      · rw [if_neg z] at e; exact absurd e hne
    by_cases z : SE m a = 0
    · refine Or.inl ⟨fun d h => ?_, z⟩
      rw [hd d h]
      split
      · rename_i y
        have e := r2.2 z d h y
        unfold LAq
        unfold LOq at e
        rw [if_pos y] at e
        rw [if_neg (by omega)]
      · rfl
    · obtain ⟨l, l1, l2, l3, l4⟩ := r1.2.2 (by have := r1.1; omega)
      have ex : ∃ d, d < 4 ∧ hda (nmr m x) (smr m x) a d = l := by
        have f : ∀ d, d < 4 → tk1 m a l d = 1 → hda (nmr m x) (smr m x) a d = l := fun d h t => by
          rw [hd d h]
          unfold tk1 at t
          by_cases y : (d : Int) < (m 123 50).toInt ∧ LAq m d (a d) = l
          · rw [if_pos y.1]; exact y.2
          · rw [if_neg y] at t; omega
        unfold TKs at l3
        rw [tkF4] at l3
        have b0 := tk1_b m a l 0; have b1 := tk1_b m a l 1; have b2 := tk1_b m a l 2; have b3 := tk1_b m a l 3
        by_cases y0 : tk1 m a l 0 = 1
        · exact ⟨0, by omega, f 0 (by omega) y0⟩
        · by_cases y1 : tk1 m a l 1 = 1
          · exact ⟨1, by omega, f 1 (by omega) y1⟩
          · by_cases y2 : tk1 m a l 2 = 1
            · exact ⟨2, by omega, f 2 (by omega) y2⟩
            · exact ⟨3, by omega, f 3 (by omega) (by omega)⟩
      obtain ⟨d, hd4, e⟩ := ex
      refine Or.inr ⟨⟨d, hd4, by omega, by rw [adv _ (by omega), e]; omega⟩, fun d2 h2 hne => ?_⟩
      obtain ⟨t1, t2, t3⟩ := tks d2 h2 hne
      have := r2.1 _ t1 t2 t3
      rw [adv _ hne]
      omega
  · rw [hv]
    unfold SE
    rw [show sx (fun _ => 0) = 0 from by decide]
/-- both sides: the same rows -/
theorem SHR_C {m : Nat → Nat → Int32} {x : Int32} {v : Int} (hD : DDE m) (h : SHR m x v) : SHC m x v := by
  obtain ⟨F, h4, hF, hv⟩ := h
  refine ⟨F, h4, OBY_of h4 hF (fun d hd => ?_), hv⟩
  unfold nmr nmb smr smb
  cases h2 : (mbs x 8)[d]? with
  | none => exact ⟨rfl, fun _ _ => rfl⟩
  | some k =>
    obtain ⟨a1, a2, _⟩ := hD k (mbs_lt (List.mem_of_getElem? h2))
    exact ⟨a1.symm, fun j hj => (a2 j hj).symm⟩
/-- the greatest of the shortest for two -/
def pxy (i j : Nat) : Int32 := ((1 : Int32) <<< (Int32.ofInt i &&& 31)) ||| ((1 : Int32) <<< (Int32.ofInt j &&& 31))
def BMX (S : Int32 → Int → Prop) (x : Int32) (v : Int) : Prop := 0 ≤ v ∧ (∀ i j : Nat, i < j → j < 8 → bt x i = 1 → bt x j = 1 → ∃ u, S (pxy i j) u ∧ u ≤ v) ∧ (v = 0 ∨ ∃ i j : Nat, i < j ∧ j < 8 ∧ bt x i = 1 ∧ bt x j = 1 ∧ S (pxy i j) v)
theorem BMX_det {S R : Int32 → Int → Prop} {x : Int32} {v w : Int} (h : ∀ y u, R y u → S y u) (hd : ∀ y u u2, S y u → S y u2 → u = u2) (a : BMX S x v) (b : BMX R x w) : v = w := by
  have l1 : w ≤ v := by
    rcases b.2.2 with z | ⟨i, j, h1, h2, h3, h4, h5⟩
    · have := a.1; omega
    · obtain ⟨u, hu, hl⟩ := a.2.1 i j h1 h2 h3 h4
      have e := hd _ _ _ hu (h _ _ h5)
      omega
  have l2 : v ≤ w := by
    rcases a.2.2 with z | ⟨i, j, h1, h2, h3, h4, h5⟩
    · have := b.1; omega
    · obtain ⟨u, hu, hl⟩ := b.2.1 i j h1 h2 h3 h4
      have e := hd _ _ _ h5 (h _ _ hu)
      omega
  omega
/-- so far: all pairs before (I, J) -/
def BMP (S : Int32 → Int → Prop) (x : Int32) (v A B : Int) : Prop := 0 ≤ v ∧ (∀ i j : Nat, i < j → j < 8 → ((i : Int) < A ∨ ((i : Int) = A ∧ (j : Int) < B)) → bt x i = 1 → bt x j = 1 → ∃ u, S (pxy i j) u ∧ u ≤ v) ∧ (v = 0 ∨ ∃ i j : Nat, i < j ∧ j < 8 ∧ bt x i = 1 ∧ bt x j = 1 ∧ S (pxy i j) v)
theorem BMP_0 {S : Int32 → Int → Prop} {x : Int32} : BMP S x 0 0 0 := ⟨Int.le_refl _, fun i j _ _ h => by omega, Or.inl rfl⟩
theorem BMP_S {S S2 : Int32 → Int → Prop} {x : Int32} {v A B : Int} (h : ∀ y u, S y u → S2 y u) (k : BMP S x v A B) : BMP S2 x v A B :=
  ⟨k.1, fun i j a b c d e => by obtain ⟨u, hu, hl⟩ := k.2.1 i j a b c d e; exact ⟨u, h _ _ hu, hl⟩, k.2.2.imp id (fun ⟨i, j, a, b, c, d, e⟩ => ⟨i, j, a, b, c, d, h _ _ e⟩)⟩
theorem BMP_in {S : Int32 → Int → Prop} {x : Int32} {v A B : Int} (k : BMP S x v A 0) (hB : B = A + 1) : BMP S x v A B := ⟨k.1, fun i j a b c d e => k.2.1 i j a b (by omega) d e, k.2.2⟩
theorem BMP_row {S : Int32 → Int → Prop} {x : Int32} {v A A2 B : Int} (k : BMP S x v A B) (hB : 8 ≤ B) (hA : A2 = A + 1) : BMP S x v A2 0 := ⟨k.1, fun i j a b c d e => k.2.1 i j a b (by omega) d e, k.2.2⟩
theorem BMP_skip {S : Int32 → Int → Prop} {x : Int32} {v A B B2 : Int} (k : BMP S x v A B) (hn : bt x A = 0 ∨ bt x B = 0) (hB : B2 = B + 1) : BMP S x v A B2 := by
  refine ⟨k.1, fun i j a b c d e => ?_, k.2.2⟩
  by_cases z : (i : Int) = A ∧ (j : Int) = B
  · exfalso
    rw [z.1] at d
    rw [z.2] at e
    omega
  · exact k.2.1 i j a b (by omega) d e
theorem BMP_hit {S : Int32 → Int → Prop} {x : Int32} {v w u A B B2 : Int} (k : BMP S x v A B) (hA : 0 ≤ A) (hAB : A < B) (h8 : B < 8) (h1 : bt x A = 1) (h2 : bt x B = 1) (hS : S (pxy A.toNat B.toNat) u) (hw : v ≤ w ∧ u ≤ w ∧ (w = v ∨ w = u)) (hB : B2 = B + 1) : BMP S x w A B2 := by
  refine ⟨by have := k.1; omega, fun i j a b c d e => ?_, ?_⟩
  · by_cases z : (i : Int) = A ∧ (j : Int) = B
    · have e1 : i = A.toNat := by omega
      have e2 : j = B.toNat := by omega
      rw [e1, e2]
      exact ⟨u, hS, hw.2.1⟩
    · obtain ⟨y, hy, hl⟩ := k.2.1 i j a b (by omega) d e
      exact ⟨y, hy, by omega⟩
  · rcases hw.2.2 with z | z
    · rw [z]; exact k.2.2
    · right
      refine ⟨A.toNat, B.toNat, by omega, by omega, ?_, ?_, ?_⟩
      · rw [show ((A.toNat : Nat) : Int) = A by omega]; exact h1
      · rw [show ((B.toNat : Nat) : Int) = B by omega]; exact h2
      · rw [z]; exact hS
theorem BMP_end {S : Int32 → Int → Prop} {x : Int32} {v A : Int} (k : BMP S x v A 0) (hA : 8 ≤ A) : BMX S x v := ⟨k.1, fun i j a b d e => k.2.1 i j a b (by omega) d e, k.2.2⟩
theorem mbs_pxy : ∀ i j : Fin 8, i.val < j.val → mbs (pxy i.val j.val) 8 = [i.val, j.val] := by decide +kernel
