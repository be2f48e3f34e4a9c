/-! THE SHORTEST of the class: the whole table -/
def ftb (m : Nat → Nat → Int32) (pp : Nat → Nat) : (Nat → Int) → Int := fun b => (m 178 (ix4 (szp m pp) b).toNat).toInt
def TBL (m : Nat → Nat → Int32) (pp : Nat → Nat) (st : Int) : Prop := ∀ a, VL4 (szp m pp) a → st ≤ ix4 (szp m pp) a → OB1 (szp m pp) (srp m pp) (ftb m pp) a (ftb m pp a)
theorem ftb_4 (m : Nat → Nat → Int32) (pp : Nat → Nat) : F4 (ftb m pp) := fun a b h => by unfold ftb; rw [ix4_of (fun _ _ => rfl) h]
theorem hda_4 {n : Nat → Int} {s : Nat → Nat → Int} {a b : Nat → Int} {d : Nat} (h : a d = b d) : hda n s a d = hda n s b d := by unfold hda; rw [h]
theorem OB1_4 {n : Nat → Int} {s : Nat → Nat → Int} {F : (Nat → Int) → Int} {a b : Nat → Int} {v : Int} (hF : F4 F) (h : ∀ d, d < 4 → a d = b d) (q : OB1 n s F a v) : OB1 n s F b v := by
  have e : ∀ d, d < 4 → hda n s a d = hda n s b d := fun d hd => hda_4 (h d hd)
  have e2 : ∀ l, F (adv4 n s a l) = F (adv4 n s b l) := fun l => hF _ _ (fun d hd => by unfold adv4; rw [e d hd, h d hd])
  rcases q with ⟨z1, e1⟩ | ⟨⟨d, hd, hne, e1⟩, m1⟩
  · exact Or.inl ⟨fun d hd => by rw [← e d hd]; exact z1 d hd, e1⟩
  · refine Or.inr ⟨⟨d, hd, by rw [← e d hd]; exact hne, by rw [← e d hd, ← e2]; exact e1⟩, fun d2 hd2 hne2 => ?_⟩
    rw [← e d2 hd2] at hne2 ⊢
    rw [← e2]
    exact m1 d2 hd2 hne2
/-- the same at other tables that agree behind -/
theorem OB1_F {n : Nat → Int} {s : Nat → Nat → Int} {F G : (Nat → Int) → Int} {a : Nat → Int} {v : Int} (h : ∀ d, d < 4 → hda n s a d ≠ -1 → F (adv4 n s a (hda n s a d)) = G (adv4 n s a (hda n s a d))) (q : OB1 n s F a v) : OB1 n s G a v := by
  rcases q with ⟨z1, e1⟩ | ⟨⟨d, hd, hne, e1⟩, m1⟩
  · exact Or.inl ⟨z1, e1⟩
  · exact Or.inr ⟨⟨d, hd, hne, by rw [← h d hd hne]; exact e1⟩, fun d2 hd2 hne2 => by rw [← h d2 hd2 hne2]; exact m1 d2 hd2 hne2⟩
theorem adv_ix {m : Nat → Nat → Int32} {pp : Nat → Nat} {a : Nat → Int} {d : Nat} (hS : S12 (szp m pp)) (hd : d < 4) : ix4 (szp m pp) a + 1 ≤ ix4 (szp m pp) (adv4 (szp m pp) (srp m pp) a (hda (szp m pp) (srp m pp) a d)) := by
  have e : ix4 (szp m pp) a + wn (szp m pp) (fun x => if hda (szp m pp) (srp m pp) a x = hda (szp m pp) (srp m pp) a d then 1 else 0) 4 = ix4 (szp m pp) (adv4 (szp m pp) (srp m pp) a (hda (szp m pp) (srp m pp) a d)) := wn_4
  have w0 : ∀ x, 0 ≤ (fun x => if hda (szp m pp) (srp m pp) a x = hda (szp m pp) (srp m pp) a d then (1 : Int) else 0) x := fun x => by
    show 0 ≤ (if hda (szp m pp) (srp m pp) a x = hda (szp m pp) (srp m pp) a d then (1 : Int) else 0)
    split <;> omega
  generalize hw : (fun x => if hda (szp m pp) (srp m pp) a x = hda (szp m pp) (srp m pp) a d then (1 : Int) else 0) = w at e w0
  have wd : w d = 1 := by rw [← hw]; show (if hda (szp m pp) (srp m pp) a d = hda (szp m pp) (srp m pp) a d then (1 : Int) else 0) = 1; rw [if_pos rfl]
  have u := wn_up hS w0 4 (d + 1) (by omega) (by omega)
  have b := wn_b hS w0 d (by omega)
  have c : wn (szp m pp) w (d + 1) = wn (szp m pp) w d + w d * cA (szp m pp) (3 - d) := rfl
  have p := (cA_b hS (3 - d) (by omega)).1
  rw [wd, Int.one_mul] at c
  omega
theorem TBL_b {m : Nat → Nat → Int32} {pp : Nat → Nat} {st : Int} (hS : S12 (szp m pp)) (h : TBL m pp st) : ∀ (k : Nat) (a : Nat → Int), VL4 (szp m pp) a → st ≤ ix4 (szp m pp) a → rst (szp m pp) a ≤ k → 0 ≤ ftb m pp a ∧ ftb m pp a ≤ rst (szp m pp) a
  | k, a, hv, hs, hk => by
    have r0 := rst_0 hv
    rcases h a hv hs with ⟨_, e⟩ | ⟨⟨d, hd, hne, e⟩, _⟩
    · omega
    · have c := adv_rst (n := szp m pp) (s := srp m pp) (a := a) hd
      have v2 := adv_VL (s := srp m pp) hv hne
      have r2 := rst_0 v2
      have i2 := adv_ix (a := a) hS hd
      match k, hk with
      | 0, hk => omega
      | k + 1, hk =>
        have q := TBL_b hS h k _ v2 (by omega) (by omega)
        omega
theorem rst_48 {n a : Nat → Int} (h : S12 n) (hv : VL4 n a) : rst n a ≤ 48 := by
  have := h 0 (by omega); have := h 1 (by omega); have := h 2 (by omega); have := h 3 (by omega)
  have := hv 0 (by omega); have := hv 1 (by omega); have := hv 2 (by omega); have := hv 3 (by omega)
  unfold rst
  omega
theorem TBL_Tn {m : Nat → Nat → Int32} {pp : Nat → Nat} {st : Int} (hS : S12 (szp m pp)) (hA : ATx m pp) (h : TBL m pp st) (hst : st - 1 = ix4 (szp m pp) (atp m)) : ∀ e, e < 4 → lap m pp e ≠ -1 → 0 ≤ Tn m pp e ∧ Tn m pp e ≤ 1000 := by
  intro e he hne
  have hv : VL4 (szp m pp) (atp m) := hA
  have v2 := adv_VL (s := srp m pp) hv (l := lap m pp e) hne
  have i2 : ix4 (szp m pp) (atp m) + 1 ≤ ix4 (szp m pp) (adv4 (szp m pp) (srp m pp) (atp m) (lap m pp e)) := adv_ix (a := atp m) hS he
  have b := TBL_b hS h (rst (szp m pp) (adv4 (szp m pp) (srp m pp) (atp m) (lap m pp e))).toNat _ v2 (by omega) (by omega)
  have r := rst_48 hS v2
  have e2 : Tn m pp e = ftb m pp (adv4 (szp m pp) (srp m pp) (atp m) (lap m pp e)) := rfl
  omega
/-- the rows are the same -/
theorem row_eq {m m2 : Nat → Nat → Int32} {pp : Nat → Nat} (hD : Dj pp) (e : ∀ b j, b ≤ 76 ∨ b = 173 ∨ b = 174 → m2 b j = m b j) : (∀ d, d < 4 → szp m pp d = szp m2 pp d) ∧ RQ4 (szp m pp) (szp m2 pp) (srp m pp) (srp m2 pp) := by
  have h1 : ∀ d, d < 4 → szp m pp d = szp m2 pp d := fun d hd => by
    have q := hD d hd
    unfold szp
    rw [e _ _ (by omega)]
  exact ⟨h1, fun d hd => ⟨h1 d hd, fun k _ => by
    have q := hD d hd
    unfold srp
    rw [e _ _ (by omega)]⟩⟩
theorem OB1_of {n n2 : Nat → Int} {s s2 : Nat → Nat → Int} {F : (Nat → Int) → Int} {a : Nat → Int} {v : Int} (h4 : F4 F) (hv : VL4 n2 a) (hq : RQ4 n n2 s s2) (h : OB1 n s F a v) : OB1 n2 s2 F a v := by
  have e : ∀ d, d < 4 → hda n s a d = hda n2 s2 a d := fun d hd => hda_of (hq d hd).1 (hv d hd).1 (hq d hd).2
  have e2 : ∀ l, F (adv4 n s a l) = F (adv4 n2 s2 a l) := fun l => h4 _ _ (fun d hd => by unfold adv4; rw [e d hd])
  rcases h with ⟨z1, e1⟩ | ⟨⟨d, hd, hne, e1⟩, m1⟩
  · exact Or.inl ⟨fun d hd => by rw [← e d hd]; exact z1 d hd, e1⟩
  · refine Or.inr ⟨⟨d, hd, by rw [← e d hd]; exact hne, by rw [← e d hd, ← e2]; exact e1⟩, fun d2 hd2 hne2 => ?_⟩
    rw [← e d2 hd2] at hne2 ⊢
    rw [← e2]
    exact m1 d2 hd2 hne2
theorem TBL_eq {m m2 : Nat → Nat → Int32} {pp : Nat → Nat} {st : Int} (hD : Dj pp) (h : TBL m pp st) (e : ∀ b j, b ≤ 76 ∨ b = 173 ∨ b = 174 ∨ b = 178 → m2 b j = m b j) : TBL m2 pp st := by
  obtain ⟨h1, h2⟩ := row_eq (m := m) (m2 := m2) hD (fun b j q => e b j (by omega))
  intro a hv hs
  have ei : ∀ b, ix4 (szp m2 pp) b = ix4 (szp m pp) b := fun b => ix4_of (fun d hd => (h1 d hd).symm) (fun _ _ => rfl)
  have ef : ∀ b, ftb m2 pp b = ftb m pp b := fun b => by unfold ftb; rw [ei, e 178 _ (by omega)]
  have hv1 : VL4 (szp m pp) a := fun d hd => by rw [h1 d hd]; exact hv d hd
  have q := h a hv1 (by rw [← ei]; exact hs)
  rw [ef]
  exact OB1_F (fun d _ _ => (ef _).symm) (OB1_of (ftb_4 m pp) hv h2 q)
theorem TBL_next {m m1 : Nat → Nat → Int32} {pp : Nat → Nat} {st st2 : Int} (hS : S12 (szp m pp)) (hD : Dj pp) (hA : ATx m pp) (T : TBL m pp st) (hst : st - 1 = ix4 (szp m pp) (atp m)) (h0 : 0 ≤ st - 1) (f1 : ∀ b j, b ≤ 176 → m1 b j = m b j) (hs2 : st2 = st - 1) (p : ∀ j, j ≠ st2.toNat → m1 178 j = m 178 j) (q : OB1 (szp m pp) (srp m pp) (fun b => (m 178 (ix4 (szp m pp) b).toNat).toInt) (atp m) (m1 178 st2.toNat).toInt) : TBL m1 pp st2 := by
  obtain ⟨h1, h2⟩ := row_eq (m := m) (m2 := m1) hD (fun b j z => f1 b j (by omega))
  intro a hv hs
  have ei : ∀ b, ix4 (szp m1 pp) b = ix4 (szp m pp) b := fun b => ix4_of (fun d hd => (h1 d hd).symm) (fun _ _ => rfl)
  have hv1 : VL4 (szp m pp) a := fun d hd => by rw [h1 d hd]; exact hv d hd
  rw [ei] at hs
  have ef : ∀ b, st ≤ ix4 (szp m pp) b → ftb m1 pp b = ftb m pp b := fun b hb => by
    unfold ftb
    rw [ei, p _ (by omega)]
  have key : OB1 (szp m pp) (srp m pp) (ftb m pp) a (ftb m1 pp a) := by
    by_cases z : st ≤ ix4 (szp m pp) a
    · rw [ef a z]
      exact T a hv1 z
    · have ea : ix4 (szp m pp) a = st2 := by omega
      have eq4 := ix4_inj hS hv1 hA (by omega)
      have e3 : ftb m1 pp a = (m1 178 st2.toNat).toInt := by unfold ftb; rw [ei, ea]
      rw [e3]
      exact OB1_4 (ftb_4 m pp) (fun d hd => (eq4 d hd).symm) q
  exact OB1_F (fun d hd hne => by
    have e4 := hda_of (a := a) (d := d) (n := szp m pp) (n2 := szp m1 pp) (s := srp m pp) (s2 := srp m1 pp) (h2 d hd).1 (hv d hd).1 (h2 d hd).2
    have e5 : ftb m pp (adv4 (szp m1 pp) (srp m1 pp) a (hda (szp m1 pp) (srp m1 pp) a d)) = ftb m pp (adv4 (szp m pp) (srp m pp) a (hda (szp m pp) (srp m pp) a d)) := ftb_4 m pp _ _ (fun x hx => by
      have e6 := hda_of (a := a) (d := x) (n := szp m pp) (n2 := szp m1 pp) (s := srp m pp) (s2 := srp m1 pp) (h2 x hx).1 (hv x hx).1 (h2 x hx).2
      unfold adv4
      rw [← e4, ← e6])
    have e7 : ftb m1 pp (adv4 (szp m1 pp) (srp m1 pp) a (hda (szp m1 pp) (srp m1 pp) a d)) = ftb m1 pp (adv4 (szp m pp) (srp m pp) a (hda (szp m pp) (srp m pp) a d)) := ftb_4 m1 pp _ _ (fun x hx => by
      have e6 := hda_of (a := a) (d := x) (n := szp m pp) (n2 := szp m1 pp) (s := srp m pp) (s2 := srp m1 pp) (h2 x hx).1 (hv x hx).1 (h2 x hx).2
      unfold adv4
      rw [← e4, ← e6])
    rw [e5, e7]
    have i2 := adv_ix (a := a) hS hd
    exact (ef _ (by omega)).symm) (OB1_of (ftb_4 m pp) hv h2 key)
theorem TBL_top {m : Nat → Nat → Int32} {pp : Nat → Nat} {st : Int} (hS : S12 (szp m pp)) (h : st = cA (szp m pp) 4) : TBL m pp st := by
  intro a hv hs
  have q := ix4_mono hS (fun d hd => (hv d hd).2)
  have e := ix4_s (s := szp m pp)
  omega
