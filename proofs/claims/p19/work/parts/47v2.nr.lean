/-! how many of THE SHORTEST: the reference's table -/
def SWn (n : Nat → Nat → Int64) (p : Nat → Int) : Int64 := n 164 (sx p)
def tmr (m : Nat → Nat → Int32) (n : Nat → Nat → Int64) (p : Nat → Int) (b : Int) (l : Nat) : Int64 := if 0 < tkF m p (l : Int) 4 ∧ 1 + SE m (stp m p (l : Int)) = b then SWn n (stp m p (l : Int)) else 0
def CN1 (m : Nat → Nat → Int32) (n : Nat → Nat → Int64) (p : Nat → Int) (fv : Int) (v : Int64) : Prop := ((∀ q : Nat, q < 4 → (q : Int) < (m 123 50).toInt → p q = LOq m q) ∧ v = 1) ∨ ((∃ q : Nat, q < 4 ∧ (q : Int) < (m 123 50).toInt ∧ p q ≠ LOq m q) ∧ v = sgm (tmr m n p fv) 26)
def SHn (m : Nat → Nat → Int32) (n : Nat → Nat → Int64) (A B C D : Int) : Prop := ∀ p, OKp m p → lg4 p A B C D → CN1 m n p (SE m p) (SWn n p)
theorem CN1_g {m m2 : Nat → Nat → Int32} {n n2 : Nat → Nat → Int64} {p p' : Nat → Int} {fv : Int} {v : Int64} (hs : HSAME m m2) (hz : ∀ q, q < 4 → p q = p' q) (hE : ∀ l : Int, 0 ≤ l → TKs m p' l → SE m2 (stp m2 p l) = SE m (stp m p' l) ∧ SWn n2 (stp m2 p l) = SWn n (stp m p' l)) (k : CN1 m n p' fv v) : CN1 m2 n2 p fv v := by
  rcases k with ⟨k1, k2⟩ | ⟨⟨q, q1, q2, q3⟩, k2⟩
  · exact Or.inl ⟨fun q hq hc => by rw [LOq_eq hs, hz q hq]; rw [hs.1] at hc; exact k1 q hq hc, k2⟩
  · refine Or.inr ⟨⟨q, q1, by rw [hs.1]; exact q2, by rw [LOq_eq hs, hz q q1]; exact q3⟩, k2.trans (sgm_eq 26 (fun l _ => ?_))⟩
    have iff : TKs m2 p (l : Int) ↔ TKs m p' (l : Int) := ⟨fun q => (TKs_4 hz).mp (TKs_eq hs.symm q), fun q => TKs_eq hs ((TKs_4 hz).mpr q)⟩
    unfold tmr
    by_cases z : 0 < tkF m p' (l : Int) 4
    · have z2 : 0 < tkF m2 p (l : Int) 4 := iff.mpr z
      obtain ⟨e1, e2⟩ := hE (l : Int) (by omega) z
      rw [e1, e2]
      by_cases y : 1 + SE m (stp m p' (l : Int)) = fv
      · rw [if_pos ⟨z, y⟩, if_pos ⟨z2, y⟩]
      · rw [if_neg (fun q => y q.2), if_neg (fun q => y q.2)]
    · rw [if_neg (fun q => z q.1), if_neg (fun q => z (iff.mp q.1))]
theorem SHn_eq {m m2 : Nat → Nat → Int32} {n n2 : Nat → Nat → Int64} (h : HSAME m m2) (e : ∀ j, m2 163 j = m 163 j) (en : ∀ j, n2 164 j = n 164 j) {A B C D : Int} (k : SHn m n A B C D) : SHn m2 n2 A B C D := fun p hp hg => by
  have ew : SWn n2 p = SWn n p := en _
  rw [SE_eq e, ew]
  exact CN1_g h (fun _ _ => rfl) (fun l _ _ => ⟨by rw [stp_eq h, SE_eq e], by rw [stp_eq h]; exact en _⟩) (k p (OKp_eq h.symm hp) hg)
theorem SHn_st {m m2 : Nat → Nat → Int32} {n : Nat → Nat → Int64} {b j : Nat} {v : Int32} {A B C D : Int} (k : SHn m n A B C D) (e : m2 = up2 m b j v) (hb : 158 ≤ b) (hb2 : b ≤ 162) : SHn m2 n A B C D :=
  SHn_eq (HSAME.set e hb) (fun q => by rw [e, up2_ne (by omega)]) (fun _ => rfl) k
theorem SW_4 {m : Nat → Nat → Int32} {n : Nat → Nat → Int64} {p p' : Nat → Int} {l : Int} (h : ∀ q, q < 4 → p q = p' q) : SWn n (stp m p l) = SWn n (stp m p' l) := by
  unfold SWn
  rw [sx_of (p := stp m p l) (p' := stp m p' l) (fun q hq => by unfold stp tk1; rw [h q hq])]
theorem SW_ne {m : Nat → Nat → Int32} {n n2 : Nat → Nat → Int64} {p p' : Nat → Int} {w : Int64} (e : n2 = up2 n 164 (sx p') w) (h : OKp m p) (h' : OKp m p') (hl : LO12 m) (hne : ¬ (p 0 = p' 0 ∧ p 1 = p' 1 ∧ p 2 = p' 2 ∧ p 3 = p' 3)) : SWn n2 p = SWn n p := by
  unfold SWn
  rw [e, up2_ne]
  intro z
  exact hne (sx_inj (OK12 h hl) (OK12 h' hl) z.2)
theorem SHn_set {m m2 : Nat → Nat → Int32} {n n2 : Nat → Nat → Int64} {p' : Nat → Int} {v : Int32} {w : Int64} (k : SHn m n (p' 0) (p' 1) (p' 2) (p' 3)) (e : m2 = up2 m 163 (sx p') v) (en : n2 = up2 n 164 (sx p') w) (h' : OKp m p') (hl : LO12 m) (hv : CN1 m n p' v.toInt w) : SHn m2 n2 (p' 0) (p' 1) (p' 2) (p' 3 - 1) := by
  have hs := HSAME.set e (by omega)
  have off : ∀ (p : Nat → Int) (l : Int), TKs m p l → (lg4 p (p' 0) (p' 1) (p' 2) (p' 3) ∨ (p 0 = p' 0 ∧ p 1 = p' 1 ∧ p 2 = p' 2 ∧ p 3 = p' 3)) → ¬ (stp m p l 0 = p' 0 ∧ stp m p l 1 = p' 1 ∧ stp m p l 2 = p' 2 ∧ stp m p l 3 = p' 3) := fun p l ht hg => by
    have q := lg_tr hg (lg4_stp ht)
    unfold lg4 at q
    omega
  have far : ∀ (p : Nat → Int) (l : Int), OKp m p → 0 ≤ l → TKs m p l → (lg4 p (p' 0) (p' 1) (p' 2) (p' 3) ∨ (p 0 = p' 0 ∧ p 1 = p' 1 ∧ p 2 = p' 2 ∧ p 3 = p' 3)) → SE m2 (stp m p l) = SE m (stp m p l) ∧ SWn n2 (stp m p l) = SWn n (stp m p l) := fun p l hp h0 ht hg =>
    ⟨SE_ne e (OKp_stp hp h0) h' hl (off p l ht hg), SW_ne en (OKp_stp hp h0) h' hl (off p l ht hg)⟩
  intro p hp hg
  have hp := OKp_eq hs.symm hp
  by_cases z : p 0 = p' 0 ∧ p 1 = p' 1 ∧ p 2 = p' 2 ∧ p 3 = p' 3
  · have hz : ∀ q, q < 4 → p q = p' q := by
      intro q hq
      have : q = 0 ∨ q = 1 ∨ q = 2 ∨ q = 3 := by omega
      rcases this with y | y | y | y
      · rw [y]; exact z.1
      · rw [y]; exact z.2.1
      · rw [y]; exact z.2.2.1
      · rw [y]; exact z.2.2.2
    have e1 : SE m2 p = v.toInt := by unfold SE; rw [sx_of hz, e, up2_eq]
    have e2 : SWn n2 p = w := by unfold SWn; rw [sx_of hz, en, up2_eq]
    rw [e1, e2]
    refine CN1_g hs hz (fun l l0 t => ?_) hv
    have f := far p l hp l0 ((TKs_4 hz).mpr t) (Or.inr z)
    rw [stp_eq hs, f.1, f.2]
    exact ⟨SE_4 hz, SW_4 hz⟩
  · have hg2 : lg4 p (p' 0) (p' 1) (p' 2) (p' 3) := by unfold lg4 at *; omega
    rw [SE_ne e hp h' hl z, SW_ne en hp h' hl z]
    refine CN1_g hs (fun _ _ => rfl) (fun l l0 t => ?_) (k p hp hg2)
    have f := far p l hp l0 t (Or.inl hg2)
    rw [stp_eq hs, f.1, f.2]
    exact ⟨rfl, rfl⟩
theorem SHn_a {m : Nat → Nat → Int32} {n : Nat → Nat → Int64} {A : Int} (hl : LO12 m) (h : A = LOq m 0) : SHn m n A 16 16 16 := by
  intro p hp hg
  have a := OK4 hp; have b := LO4 hl
  exfalso
  unfold lg4 at hg
  omega
theorem SHn_dn {m : Nat → Nat → Int32} {n : Nat → Nat → Int64} {A B C D B2 C2 D2 : Int} (hl : LO12 m) (h : SHn m n A B C D) (hw : ∀ a b c d : Int, 0 ≤ a → a ≤ LOq m 0 → 0 ≤ b → b ≤ LOq m 1 → 0 ≤ c → c ≤ LOq m 2 → 0 ≤ d → d ≤ LOq m 3 → (A < a ∨ (A = a ∧ (B2 < b ∨ (B2 = b ∧ (C2 < c ∨ (C2 = c ∧ D2 < d)))))) → (A < a ∨ (A = a ∧ (B < b ∨ (B = b ∧ (C < c ∨ (C = c ∧ D < d))))))) : SHn m n A B2 C2 D2 := by
  intro p hp hg
  have a := OK4 hp
  exact h p hp (hw _ _ _ _ a.1.1 a.1.2 a.2.1.1 a.2.1.2 a.2.2.1.1 a.2.2.1.2 a.2.2.2.1 a.2.2.2.2 hg)
theorem SHn_d {m : Nat → Nat → Int32} {n : Nat → Nat → Int64} {A B C : Int} (hl : LO12 m) (h : SHn m n A B C (-1)) : SHn m n A B (C - 1) 16 :=
  SHn_dn hl h (fun a b c d h1 h2 h3 h4 h5 h6 h7 h8 h9 => by have := LO4 hl; omega)
theorem SHn_c {m : Nat → Nat → Int32} {n : Nat → Nat → Int64} {A B : Int} (hl : LO12 m) (h : SHn m n A B (-1) 16) : SHn m n A (B - 1) 16 16 :=
  SHn_dn hl h (fun a b c d h1 h2 h3 h4 h5 h6 h7 h8 h9 => by have := LO4 hl; omega)
theorem SHn_b {m : Nat → Nat → Int32} {n : Nat → Nat → Int64} {A : Int} (hl : LO12 m) (h : SHn m n A (-1) 16 16) : SHn m n (A - 1) 16 16 16 := by
  intro p hp hg
  have a := OK4 hp; have b := LO4 hl
  exact h p hp (by unfold lg4 at *; omega)
def SBn (m : Nat → Nat → Int32) (n : Nat → Nat → Int64) (p : Nat → Int) (v : Int) (w : Int64) (k : Int) : Prop := w = sgm (tmr m n p v) k.toNat
theorem SBn_z {m : Nat → Nat → Int32} {n : Nat → Nat → Int64} {p : Nat → Int} {v : Int} : SBn m n p v 0 0 := rfl
theorem SBn_s {m : Nat → Nat → Int32} {n : Nat → Nat → Int64} {p : Nat → Int} {v k : Int} (h0 : 0 ≤ k) : sgm (tmr m n p v) (k + 1).toNat = sgm (tmr m n p v) k.toNat + tmr m n p v k.toNat := by
  rw [show (k + 1).toNat = k.toNat + 1 by omega]
  rfl
theorem SBn_skip {m : Nat → Nat → Int32} {n : Nat → Nat → Int64} {p : Nat → Int} {v k : Int} {w : Int64} (h : SBn m n p v w k) (h0 : 0 ≤ k) (hk : tkF m p k 4 = 0) : SBn m n p v w (k + 1) := by
  unfold SBn at h ⊢
  have e : tmr m n p v k.toNat = 0 := by
    unfold tmr
    rw [show ((k.toNat : Nat) : Int) = k by omega]
    exact if_neg (fun q => by have := q.1; omega)
  rw [SBn_s h0, e, Int64.add_zero]
  exact h
theorem SBn_take {m : Nat → Nat → Int32} {n : Nat → Nat → Int64} {p : Nat → Int} {v v2 nn k : Int} {w w2 u : Int64} (h : SBn m n p v w k) (hm : SBm m p v k) (h0 : 0 ≤ k) (ht : 0 < tkF m p k 4) (hn : nn = 1 + SE m (stp m p k)) (hu : u = SWn n (stp m p k)) (hc : (nn < v ∧ v2 = nn ∧ w2 = u) ∨ (nn = v ∧ v2 = v ∧ w2 = w + u) ∨ (v < nn ∧ v2 = v ∧ w2 = w)) : SBn m n p v2 w2 (k + 1) := by
  unfold SBn at h ⊢
  have e : ∀ b : Int, tmr m n p b k.toNat = if nn = b then u else 0 := fun b => by
    unfold tmr
    rw [show ((k.toNat : Nat) : Int) = k by omega, ← hn, ← hu]
    by_cases z : nn = b
    · rw [if_pos ⟨ht, z⟩, if_pos z]
    · rw [if_neg (fun q => z q.2), if_neg z]
  rw [SBn_s h0, e]
  rcases hc with ⟨c1, c2, c3⟩ | ⟨c1, c2, c3⟩ | ⟨c1, c2, c3⟩
  · have z0 : sgm (tmr m n p v2) k.toNat = 0 := sgm_0 _ (fun l hl => by
      unfold tmr
      refine if_neg (fun q => ?_)
      have a := hm (l : Int) (by omega) (by omega) q.1
      have b := q.2
      omega)
    rw [z0, if_pos (by omega), Int64.zero_add]
    exact c3
  · rw [if_pos (by omega), c3, c2, h]
  · rw [if_neg (by omega), Int64.add_zero, c3, c2]
    exact h
theorem CN1_e {m : Nat → Nat → Int32} {n : Nat → Nat → Int64} {p : Nat → Int} {v : Int} {w : Int64} (h : SBn m n p v w 26) (he : ∃ q : Nat, q < 4 ∧ (q : Int) < (m 123 50).toInt ∧ p q ≠ LOq m q) : CN1 m n p v w := Or.inr ⟨he, h⟩
theorem CN1_z {m : Nat → Nat → Int32} {n : Nat → Nat → Int64} {p : Nat → Int} {v : Int} (h : ∀ q : Nat, q < 4 → (q : Int) < (m 123 50).toInt → p q = LOq m q) : CN1 m n p v 1 := Or.inl ⟨h, rfl⟩
theorem CN1_m {m m2 : Nat → Nat → Int32} {n n2 : Nat → Nat → Int64} {p : Nat → Int} {fv : Int} {v : Int64} (h : HSAME m m2) (e : ∀ j, m2 163 j = m 163 j) (en : ∀ j, n2 164 j = n 164 j) (k : CN1 m n p fv v) : CN1 m2 n2 p fv v :=
  CN1_g h (fun _ _ => rfl) (fun l _ _ => ⟨by rw [stp_eq h, SE_eq e], by rw [stp_eq h]; exact en _⟩) k
/-- the whole table -/
def SHM (m : Nat → Nat → Int32) (x : Int32) (c : Int64) : Prop := ∃ F G, F4 F ∧ OBY (nmr m x) (smr m x) F ∧ G4 G ∧ OCY (nmr m x) (smr m x) F G ∧ c = G (fun _ => 0)
theorem SHM_C {m : Nat → Nat → Int32} {x : Int32} {v : Int64} (hD : DDE m) (h : SHM m x v) : SHN m x v := by
  obtain ⟨F, G, h4, hF, hg, hG, hv⟩ := h
  have hq : RQ4 (nmr m x) (nmb m x) (smr m x) (smb m x) := fun d hd => by
    unfold nmr nmb smr smb
    cases h2 : (mbs x 8)[d]? with
    | none => exact ⟨rfl, fun _ _ => rfl⟩
    | some k =>
      obtain ⟨a1, a2, _⟩ := hD k (mbs_lt (List.mem_of_getElem? h2))
      exact ⟨a1.symm, fun j hj => (a2 j hj).symm⟩
  exact fun _ => ⟨F, G, h4, OBY_of h4 hF hq, hg, OCY_of h4 hg hG hq, hv⟩
theorem SHM_eq {m m2 : Nat → Nat → Int32} {x : Int32} {v : Int64} (e6 : ∀ j, m2 126 j = m 126 j) (e7 : ∀ j, m2 127 j = m 127 j) (h : SHM m x v) : SHM m2 x v := by
  obtain ⟨F, G, h4, hF, hg, hG, hv⟩ := h
  have hq : RQ4 (nmr m x) (nmr m2 x) (smr m x) (smr m2 x) := fun d hd => by
    unfold nmr smr
    cases h : (mbs x 8)[d]? with
    | none => exact ⟨rfl, fun _ _ => rfl⟩
    | some k => exact ⟨by show (m 126 k).toInt = (m2 126 k).toInt; rw [e6], fun j _ => by show (m 127 (16 * k + j)).toInt = (m2 127 (16 * k + j)).toInt; rw [e7]⟩
  exact ⟨F, G, h4, OBY_of h4 hF hq, hg, OCY_of h4 hg hG hq, hv⟩
theorem SE_oby {m : Nat → Nat → Int32} {x : Int32} (I : IV BB m) (hc : CHLi m x 8) (hp : SHp m (-1) 16 16 16) (hm : SHm m (-1) 16 16 16) : OBY (nmr m x) (smr m x) (SE m) := by
  have h4 : F4 (SE m) := fun a b h => by unfold SE; rw [sx_of h]
  intro a ha
  have ok : OKp m a := fun q hq => by rw [CHL_LO hc q]; exact ha q hq
  have lg : lg4 a (-1) 16 16 16 := Or.inl (by have := (ha 0 (by omega)).1; omega)
  have r1 := hp a ok lg
  have r2 := hm a ok lg
  have hd : ∀ d, d < 4 → hda (nmr m x) (smr m x) a d = if (d : Int) < (m 123 50).toInt then LAq m d (a d) else -1 := fun d h => CHL_hd hc a d (ha d h).1
  have adv : ∀ l, l ≠ -1 → SE m (adv4 (nmr m x) (smr m x) a l) = SE m (stp m a l) := fun l hl => h4 _ _ (fun d h => by
    unfold adv4 stp tk1
    rw [hd d h]
    by_cases z : (d : Int) < (m 123 50).toInt
    · rw [if_pos z]
      by_cases y : LAq m d (a d) = l
      · rw [if_pos y, if_pos ⟨z, y⟩]
      · rw [if_neg y, if_neg (fun q => y q.2)]
    · rw [if_neg z, if_neg (fun q => hl q.symm), if_neg (fun q => z q.1)])
  have tks : ∀ d, d < 4 → hda (nmr m x) (smr m x) a d ≠ -1 → 0 ≤ hda (nmr m x) (smr m x) a d ∧ hda (nmr m x) (smr m x) a d ≤ 25 ∧ TKs m a (hda (nmr m x) (smr m x) a d) := fun d h hne => by
    have e := hd d h
    by_cases z : (d : Int) < (m 123 50).toInt
    · rw [if_pos z] at e
      have rng : 0 ≤ LAq m d (a d) ∧ LAq m d (a d) ≤ 25 := by
        rw [e] at hne
        unfold LAq at hne ⊢
        split
        · exact ⟨(I 127 _).1, (I 127 _).2⟩
        · rename_i y; rw [if_neg y] at hne; exact absurd rfl hne
      refine ⟨by omega, by omega, ?_⟩
      have t1 : tk1 m a (hda (nmr m x) (smr m x) a d) d = 1 := by unfold tk1; rw [if_pos ⟨z, e.symm⟩]
      have b0 := tk1_b m a (hda (nmr m x) (smr m x) a d) 0
      have b1 := tk1_b m a (hda (nmr m x) (smr m x) a d) 1
      have b2 := tk1_b m a (hda (nmr m x) (smr m x) a d) 2
      have b3 := tk1_b m a (hda (nmr m x) (smr m x) a d) 3
      unfold TKs
      rw [tkF4]
      have : d = 0 ∨ d = 1 ∨ d = 2 ∨ d = 3 := by omega
      rcases this with w | w | w | w
      · rw [w] at t1 b0 b1 b2 b3 ⊢; omega
      · rw [w] at t1 b0 b1 b2 b3 ⊢; omega
      · rw [w] at t1 b0 b1 b2 b3 ⊢; omega
      · rw [w] at t1 b0 b1 b2 b3 ⊢; omega
    · rw [if_neg z] at e; exact absurd e hne
  by_cases z : SE m a = 0
  · refine Or.inl ⟨fun d h => ?_, z⟩
    rw [hd d h]
    split
    · rename_i y
      have e := r2.2 z d h y
      unfold LAq
      unfold LOq at e
      rw [if_pos y] at e
      rw [if_neg (by omega)]
    · rfl
  · obtain ⟨l, l1, l2, l3, l4⟩ := r1.2.2 (by have := r1.1; omega)
    have ex : ∃ d, d < 4 ∧ hda (nmr m x) (smr m x) a d = l := by
      have f : ∀ d, d < 4 → tk1 m a l d = 1 → hda (nmr m x) (smr m x) a d = l := fun d h t => by
        rw [hd d h]
        unfold tk1 at t
        by_cases y : (d : Int) < (m 123 50).toInt ∧ LAq m d (a d) = l
        · rw [if_pos y.1]; exact y.2
        · rw [if_neg y] at t; omega
      unfold TKs at l3
      rw [tkF4] at l3
      have b0 := tk1_b m a l 0; have b1 := tk1_b m a l 1; have b2 := tk1_b m a l 2; have b3 := tk1_b m a l 3
      by_cases y0 : tk1 m a l 0 = 1
      · exact ⟨0, by omega, f 0 (by omega) y0⟩
      · by_cases y1 : tk1 m a l 1 = 1
        · exact ⟨1, by omega, f 1 (by omega) y1⟩
        · by_cases y2 : tk1 m a l 2 = 1
          · exact ⟨2, by omega, f 2 (by omega) y2⟩
          · exact ⟨3, by omega, f 3 (by omega) (by omega)⟩
    obtain ⟨d, hd4, e⟩ := ex
    refine Or.inr ⟨⟨d, hd4, by omega, by rw [adv _ (by omega), e]; omega⟩, fun d2 h2 hne => ?_⟩
    obtain ⟨t1, t2, t3⟩ := tks d2 h2 hne
    have := r2.1 _ t1 t2 t3
    rw [adv _ hne]
    omega
theorem SW_ocy {m : Nat → Nat → Int32} {n : Nat → Nat → Int64} {x : Int32} (I : IV BB m) (hc : CHLi m x 8) (hn : SHn m n (-1) 16 16 16) : OCY (nmr m x) (smr m x) (SE m) (SWn n) := by
  have h4 : F4 (SE m) := fun a b h => by unfold SE; rw [sx_of h]
  have hg : G4 (SWn n) := fun a b h => by unfold SWn; rw [sx_of h]
  intro a ha
  have ok : OKp m a := fun q hq => by rw [CHL_LO hc q]; exact ha q hq
  have lg : lg4 a (-1) 16 16 16 := Or.inl (by have := (ha 0 (by omega)).1; omega)
  have r3 := hn a ok lg
  have hd : ∀ d, d < 4 → hda (nmr m x) (smr m x) a d = if (d : Int) < (m 123 50).toInt then LAq m d (a d) else -1 := fun d h => CHL_hd hc a d (ha d h).1
  have advs : ∀ l, l ≠ -1 → ∀ d, d < 4 → adv4 (nmr m x) (smr m x) a l d = stp m a l d := fun l hl d h => by
    unfold adv4 stp tk1
    rw [hd d h]
    by_cases z : (d : Int) < (m 123 50).toInt
    · rw [if_pos z]
      by_cases y : LAq m d (a d) = l
      · rw [if_pos y, if_pos ⟨z, y⟩]
      · rw [if_neg y, if_neg (fun q => y q.2)]
    · rw [if_neg z, if_neg (fun q => hl q.symm), if_neg (fun q => z q.1)]
  have tks : ∀ d, d < 4 → hda (nmr m x) (smr m x) a d ≠ -1 → 0 ≤ hda (nmr m x) (smr m x) a d ∧ hda (nmr m x) (smr m x) a d ≤ 25 ∧ TKs m a (hda (nmr m x) (smr m x) a d) := fun d h hne => by
    have e := hd d h
    by_cases z : (d : Int) < (m 123 50).toInt
    · rw [if_pos z] at e
      have rng : 0 ≤ LAq m d (a d) ∧ LAq m d (a d) ≤ 25 := by
        rw [e] at hne
        unfold LAq at hne ⊢
        split
        · exact ⟨(I 127 _).1, (I 127 _).2⟩
        · rename_i y; rw [if_neg y] at hne; exact absurd rfl hne
      refine ⟨by omega, by omega, ?_⟩
      have t1 : tk1 m a (hda (nmr m x) (smr m x) a d) d = 1 := by unfold tk1; rw [if_pos ⟨z, e.symm⟩]
      have b0 := tk1_b m a (hda (nmr m x) (smr m x) a d) 0
      have b1 := tk1_b m a (hda (nmr m x) (smr m x) a d) 1
      have b2 := tk1_b m a (hda (nmr m x) (smr m x) a d) 2
      have b3 := tk1_b m a (hda (nmr m x) (smr m x) a d) 3
      unfold TKs
      rw [tkF4]
      have : d = 0 ∨ d = 1 ∨ d = 2 ∨ d = 3 := by omega
      rcases this with w | w | w | w
      · rw [w] at t1 b0 b1 b2 b3 ⊢; omega
      · rw [w] at t1 b0 b1 b2 b3 ⊢; omega
      · rw [w] at t1 b0 b1 b2 b3 ⊢; omega
      · rw [w] at t1 b0 b1 b2 b3 ⊢; omega
    · rw [if_neg z] at e; exact absurd e hne
  have fwd : ∀ (d : Nat) (l : Int), d < 4 → tk1 m a l d = 1 → hda (nmr m x) (smr m x) a d = l := fun d l h t => by
    rw [hd d h]
    unfold tk1 at t
    by_cases y : (d : Int) < (m 123 50).toInt ∧ LAq m d (a d) = l
    · rw [if_pos y.1]; exact y.2
    · rw [if_neg y] at t; omega
  have iff : ∀ l : Nat, lhd (nmr m x) (smr m x) a 4 (l : Int) = true ↔ 0 < tkF m a (l : Int) 4 := fun l => by
    rw [lhd_iff]
    constructor
    · rintro ⟨d, h, e⟩
      have q := (tks d h (by omega)).2.2
      rw [e] at q
      exact q
    · intro q
      rw [tkF4] at q
      have b0 := tk1_b m a l 0; have b1 := tk1_b m a l 1; have b2 := tk1_b m a l 2; have b3 := tk1_b m a l 3
      by_cases y0 : tk1 m a l 0 = 1
      · exact ⟨0, by omega, fwd 0 _ (by omega) y0⟩
      · by_cases y1 : tk1 m a l 1 = 1
        · exact ⟨1, by omega, fwd 1 _ (by omega) y1⟩
        · by_cases y2 : tk1 m a l 2 = 1
          · exact ⟨2, by omega, fwd 2 _ (by omega) y2⟩
          · exact ⟨3, by omega, fwd 3 _ (by omega) (by omega)⟩
  rcases r3 with ⟨r4, r5⟩ | ⟨⟨q, q1, q2, q3⟩, r5⟩
  · refine Or.inl ⟨fun d h => ?_, r5⟩
    rw [hd d h]
    split
    · rename_i y
      have e := r4 d h y
      unfold LAq
      unfold LOq at e
      rw [if_pos y] at e
      rw [if_neg (by omega)]
    · rfl
  · refine Or.inr ⟨⟨q, q1, ?_⟩, r5.trans (sgm_eq 26 (fun l _ => ?_))⟩
    · rw [hd q q1, if_pos q2]
      have o := ok q q1
      unfold LAq
      have e : LOq m q = (m 126 (m 157 ((q : Nat) : Int).toNat).toInt.toNat).toInt := by unfold LOq; rw [if_pos q2]
      rw [if_pos (by omega)]
      have b : (0 : Int) ≤ (m 127 (16 * (m 157 ((q : Nat) : Int).toNat).toInt + a q).toNat).toInt := (I 127 _).1
      omega
    · have e1 : SE m (adv4 (nmr m x) (smr m x) a (l : Int)) = SE m (stp m a (l : Int)) := h4 _ _ (advs _ (by omega))
      have e2 : SWn n (adv4 (nmr m x) (smr m x) a (l : Int)) = SWn n (stp m a (l : Int)) := hg _ _ (advs _ (by omega))
      unfold tmr tmc
      rw [e1, e2]
      by_cases z : 0 < tkF m a (l : Int) 4
      · have z2 := (iff l).mpr z
        by_cases y : 1 + SE m (stp m a (l : Int)) = SE m a
        · rw [if_pos ⟨z, y⟩, if_pos ⟨z2, y⟩]
        · rw [if_neg (fun q => y q.2), if_neg (fun q => y q.2)]
      · rw [if_neg (fun q => z q.1), if_neg (fun q => z ((iff l).mp q.1))]
theorem SHM_tb {m : Nat → Nat → Int32} {n : Nat → Nat → Int64} {x : Int32} (I : IV BB m) (hc : CHLi m x 8) (hp : SHp m (-1) 16 16 16) (hm : SHm m (-1) 16 16 16) (hn : SHn m n (-1) 16 16 16) : SHM m x (n 164 0) := by
  refine ⟨SE m, SWn n, fun a b h => by unfold SE; rw [sx_of h], SE_oby I hc hp hm, fun a b h => by unfold SWn; rw [sx_of h], SW_ocy I hc hn, ?_⟩
  unfold SWn
  rw [show sx (fun _ => 0) = 0 from by decide]
/-- what shortestMany() answers -/
def MNV (g1 g2 : Prop) (S : Int64 → Prop) (v : Int64) : Prop := (¬ g1 ∧ v = -1) ∨ (g1 ∧ ¬ g2 ∧ v = -2) ∨ (g1 ∧ g2 ∧ S v)
theorem many_EW {m : Nat → Nat → Int32} {x : Int32} {v w : Int64} (I : IV BB m) (hD : DDE m) (a : MNV (G1 m x) (G2 m x) (SHN m x) v) (b : MNV (SPR m x 2 4) (¬ TOO m x) (SHM m x) w) : v = w := by
  have h1 := G1_SPR (x := x) I hD
  have h2 := G2_TOO (x := x) hD
  rcases a with ⟨p1, p2⟩ | ⟨p1, p2, p3⟩ | ⟨p1, p2, p3⟩ <;> rcases b with ⟨q1, q2⟩ | ⟨q1, q2, q3⟩ | ⟨q1, q2, q3⟩
  · rw [p2, q2]
  · exact absurd (h1.mpr q1) p1
  · exact absurd (h1.mpr q1) p1
  · exact absurd (h1.mp p1) q1
  · rw [p3, q3]
  · exact absurd (h2.mpr q2) p2
  · exact absurd (h1.mp p1) q1
  · exact absurd (h2.mp p2) q2
  · have hl : L25 (nmb m x) (smb m x) := fun d hd k hk => by
      unfold nmb at hk
      unfold smb
      cases h3 : (mbs x 8)[d]? with
      | none => exact ⟨Int.le_refl _, show (0 : Int) ≤ 25 by decide⟩
      | some q =>
        rw [h3] at hk
        have hk : (k : Int) < (m (61 + 2 * q) 1).toInt := hk
        obtain ⟨a1, a2, _⟩ := hD q (mbs_lt (List.mem_of_getElem? h3))
        show 0 ≤ (m (62 + 2 * q) k).toInt ∧ (m (62 + 2 * q) k).toInt ≤ 25
        rw [a2 k (by omega)]
        exact ⟨(I 127 _).1, (I 127 _).2⟩
    refine SHN_det (m := m) (x := x) (fun k => ?_) hl p3 (SHM_C hD q3)
    by_cases z : k < 8
    · have e := (hD k z).1
      have n : (0 : Int) ≤ (m 126 k).toInt := (I 126 k).1
      exact Or.inl (by omega)
    · exact Or.inr (by omega)
theorem MNV_fr {m m2 : Nat → Nat → Int32} {x : Int32} {v : Int64} (w : ∀ a j, isW a = true → m2 a j = m a j) (h : MNV (G1 m x) (G2 m x) (SHN m x) v) : MNV (G1 m2 x) (G2 m2 x) (SHN m2 x) v := by
  unfold MNV at h ⊢
  rw [G1_fr w, G2_fr w]
  rcases h with h | h | ⟨h1, h2, h3⟩
  · exact Or.inl h
  · exact Or.inr (Or.inl h)
  · exact Or.inr (Or.inr ⟨h1, h2, SHN_eq (fun a j h1 h2 => w a j (isW_i (Or.inl ⟨h1, h2⟩))) h3⟩)
theorem RFV_J {m : Nat → Nat → Int32} {x r : Int32} {v : Int64} {S : Int64 → Prop} (h : RFV m x r.toInt) (h0 : r.toInt ≠ 0) (e : v = r.toInt64) : MNV (G1 m x) (G2 m x) S v := by
  rcases h with ⟨a, b⟩ | ⟨a, b, c⟩ | ⟨a, b, c⟩
  · have : r = -1 := Int32.toInt_inj.mp (by rw [b]; decide)
    exact Or.inl ⟨a, by rw [e, this]; decide⟩
  · have : r = -2 := Int32.toInt_inj.mp (by rw [c]; decide)
    exact Or.inr (Or.inl ⟨a, b, by rw [e, this]; decide⟩)
  · exact absurd c h0
/-- between two calls -/
def EQN (T : List mv_T) (m : Nat → Nat → Int32) (n : Nat → Nat → Int64) : Prop := EQW m ∧ (T = TL → m 169 1 = 0) ∧ CCN m n
theorem EQN_k {T : List mv_T} {m m2 : Nat → Nat → Int32} {n n2 : Nat → Nat → Int64} (h : EQN T m n) (hW : EQW m2) (e9 : m2 169 1 = m 169 1) (en : n2 179 0 = n 179 0) (w : ∀ a j, isW a = true → m2 a j = m a j) : EQN T m2 n2 :=
  ⟨hW, fun q => by rw [e9]; exact h.2.1 q, CCN_eq h.2.2 e9 en (fun a j h1 h2 => w a j (isW_i (Or.inl ⟨h1, h2⟩)))⟩
theorem EQN_c {T : List mv_T} {m : Nat → Nat → Int32} {n : Nat → Nat → Int64} (hC : TC T) (hW : EQW m) (h : CCN m n) : EQN T m n := ⟨hW, fun q => absurd (hC.symm.trans q) TL2_ne, h⟩
theorem blank_EN {T : List mv_T} {m m1 m2 : Nat → Nat → Int32} {nn n2 : Nat → Nat → Int64} {n v : Int} (I : IV BB m) (h : EQN T m nn) (hW : EQW m2) (hb : BLK n (m 0 2).toInt (m 1 1).toInt (LET 2 m n) v (m1 0 2).toInt (m1 1 1).toInt) (p : BLWc m m1 n) (dw : ∀ a j, isW a = true → m2 a j = m1 a j) (e9 : m2 169 1 = m 169 1) (en : n2 179 0 = nn 179 0) : EQN T m2 n2 := by
  have b0 : 0 ≤ (m 0 2).toInt := (I 0 2).1
  have b8 : (m 0 2).toInt ≤ 8 := (I 0 2).2
  refine ⟨hW, fun q => by rw [e9]; exact h.2.1 q, CCN_eq h.2.2 e9 en (fun a j h1 h2 => ?_)⟩
  have z := isW_i (a := a) (Or.inl ⟨h1, h2⟩)
  refine (dw a j z).trans (p.1 a j z ?_)
  rcases hb with ⟨_, _, a3, _⟩ | ⟨_, _, a3, _⟩
  · exact Or.inr ⟨by unfold cnc; omega, by unfold cnc; omega⟩
  · exact Or.inl a3
theorem deed_EN {T : List mv_T} {m m1 m2 : Nat → Nat → Int32} {nn n2 : Nat → Nat → Int64} {i n v : Int} (h : EQN T m nn) (hW : EQW m2) (p : DDWc m m1 i n v) (d : DFS T m m1 v) (dw : ∀ a j, isW a = true → m2 a j = m1 a j) (e9 : m2 169 1 = m1 169 1) (en : n2 179 0 = nn 179 0) : EQN T m2 n2 := by
  rcases d with ⟨d1, d2⟩ | ⟨d1, d2⟩
  · have z : m2 169 1 = 0 := by rw [e9, d2]; exact h.2.1 d1
    exact ⟨hW, fun _ => z, CCN_0 (by rw [z]; exact Int32.toInt_zero)⟩
  · rcases d2 with d2 | ⟨d2, d3, _, _⟩
    · exact EQN_c d1 hW (CCN_0 (by rw [e9]; exact d2))
    · exact EQN_c d1 hW (CCN_eq h.2.2 (e9.trans d3) en (fun a j h1 h2 => (dw a j (isW_i (Or.inl ⟨h1, h2⟩))).trans (p.1 a j (isW_i (Or.inl ⟨h1, h2⟩)) (Or.inl d2))))
theorem pv_lcmp0 {sc : pv_S} {g : pv_G} {M : pv_M} {Q : Option Value → List pv_C → Prop} {dp kc ks pc : Nat} {lo st : List Value} {h : List pv_C} {x y : Int64} (hd : decode M.2.2.1 pc = .ok (.lcmp, 1)) (n0 : Nat) (hp : pc + 1 = n0) (e : x = y) (k : PV sc g M Q dp kc ks n0 lo (.int 0 :: st) h) : PV sc g M Q dp kc ks pc lo (.long y :: .long x :: st) h := pv_lcmp (v := 0) hd n0 hp (by subst e; simp [lg_cmp]) k
