/-! THE SHORTEST of the class: exactly -/
def srp (m : Nat → Nat → Int32) (pp : Nat → Nat) : Nat → Nat → Int := fun d k => (m (pp d + 1) k).toInt
theorem lap_hda (m : Nat → Nat → Int32) (pp : Nat → Nat) (d : Nat) : lap m pp d = hda (szp m pp) (srp m pp) (atp m) d := rfl
/-- LETTERS ahead that are not taken yet: of those before d none -/
def AHe (m : Nat → Nat → Int32) (pp : Nat → Nat) (d : Nat) : Prop := ∀ e, e < 4 → ((∃ x, x < d ∧ lap m pp x = lap m pp e) → (m 177 e).toInt = -1) ∧ ((∀ x, x < d → lap m pp x ≠ lap m pp e) → (m 177 e).toInt = lap m pp e)
theorem AHe_let {m : Nat → Nat → Int32} {pp : Nat → Nat} {d : Nat} (h : AHe m pp d) (hd : d < 4) (hne : (m 177 d).toInt ≠ -1) : (m 177 d).toInt = lap m pp d ∧ (∀ x, x < d → lap m pp x ≠ lap m pp d) ∧ ∀ e, e < 4 → ((m 177 e).toInt = lap m pp d ↔ (lap m pp e = lap m pp d ∧ d ≤ e)) := by
  have a := h d hd
  have n1 : ∀ x, x < d → lap m pp x ≠ lap m pp d := fun x hx e => hne (a.1 ⟨x, hx, e⟩)
  have n2 := a.2 n1
  refine ⟨n2, n1, fun e he => ?_⟩
  have b := h e he
  constructor
  · intro q
    have n3 : ∀ x, x < d → lap m pp x ≠ lap m pp e := fun x hx z => by have := b.1 ⟨x, hx, z⟩; omega
    have n4 := b.2 n3
    refine ⟨by omega, ?_⟩
    by_cases z : d ≤ e
    · exact z
    · have := b.1 ⟨e, by omega, rfl⟩
      omega
  · intro q
    rw [b.2 (fun x hx z => n1 x hx (z.trans q.1))]
    exact q.1
theorem AHe_0 {m m2 : Nat → Nat → Int32} {pp : Nat → Nat} (h : ∀ d, d < 4 → (m2 177 d).toInt = lap m2 pp d) : AHe m2 pp 0 := fun e he => ⟨fun ⟨x, hx, _⟩ => absurd hx (by omega), fun _ => h e he⟩
theorem AHe_skip {m : Nat → Nat → Int32} {pp : Nat → Nat} {d : Nat} (h : AHe m pp d) (hd : d < 4) (he : (m 177 d).toInt = -1) : AHe m pp (d + 1) := by
  intro e h4
  have b := h e h4
  have a := h d hd
  constructor
  · intro ⟨x, hx, z⟩
    by_cases y : x < d
    · exact b.1 ⟨x, y, z⟩
    · have e1 : x = d := by omega
      subst e1
      by_cases w : ∃ u, u < x ∧ lap m pp u = lap m pp x
      · obtain ⟨u, hu, hz⟩ := w
        exact b.1 ⟨u, hu, hz.trans z⟩
      · have q := a.2 (fun u hu hz => w ⟨u, hu, hz⟩)
        by_cases w2 : ∃ u, u < x ∧ lap m pp u = lap m pp e
        · exact b.1 w2
        · rw [b.2 (fun u hu hz => w2 ⟨u, hu, hz⟩), ← z, ← q]; exact he
  · intro q
    exact b.2 (fun x hx => q x (by omega))
theorem AHe_take {m m2 : Nat → Nat → Int32} {pp : Nat → Nat} {d : Nat} (h : AHe m pp d) (hd : d < 4) (hne : (m 177 d).toInt ≠ -1) (hl : ∀ e, e < 4 → lap m2 pp e = lap m pp e) (h2 : ∀ e, e < 4 → (m2 177 e).toInt = if (m 177 e).toInt = lap m pp d then -1 else (m 177 e).toInt) : AHe m2 pp (d + 1) := by
  obtain ⟨l1, l2, l3⟩ := AHe_let h hd hne
  intro e he
  have b := h e he
  rw [hl e he]
  constructor
  · intro ⟨x, hx, z⟩
    rw [hl x (by omega)] at z
    rw [h2 e he]
    by_cases y : x < d
    · rw [b.1 ⟨x, y, z⟩]; split <;> rfl
    · have e1 : x = d := by omega
      subst e1
      by_cases w : (m 177 e).toInt = lap m pp x
      · rw [if_pos w]
      · rw [if_neg w]
        by_cases w2 : ∃ u, u < x ∧ lap m pp u = lap m pp e
        · exact b.1 w2
        · exact absurd ((b.2 (fun u hu hz => w2 ⟨u, hu, hz⟩)).trans z.symm) w
  · intro q
    have q2 : ∀ x, x < d + 1 → lap m pp x ≠ lap m pp e := fun x hx => by have := q x hx; rw [hl x (by omega)] at this; exact this
    rw [h2 e he, b.2 (fun x hx => q2 x (by omega)), if_neg (fun z => q2 d (by omega) z.symm)]
theorem wn_z {s w : Nat → Int} : ∀ k, (∀ d, d < k → w d = 0) → wn s w k = 0
  | 0, _ => rfl
  | k + 1, h => by
    show wn s w k + w k * cA s (3 - k) = 0
    rw [wn_z k (fun d hd => h d (by omega)), h k (by omega), Int.zero_mul]
    rfl
/-- how many states on a LETTER leads -/
theorem nx_ix {m : Nat → Nat → Int32} {pp : Nat → Nat} (l : Int) : ix4 (szp m pp) (atp m) + wn (szp m pp) (hw m pp l) 4 = ix4 (szp m pp) (adv4 (szp m pp) (srp m pp) (atp m) l) := wn_4
theorem nx_gt {m : Nat → Nat → Int32} {pp : Nat → Nat} {d : Nat} (hS : S12 (szp m pp)) (hd : d < 4) : 1 ≤ wn (szp m pp) (hw m pp (lap m pp d)) 4 := by
  have e : ∀ x, 0 ≤ hw m pp (lap m pp d) x := fun x => (hw_b m pp _ x).1
  have a := wn_up hS e 4 (d + 1) (by omega) (by omega)
  have b := wn_b hS e d (by omega)
  have c : wn (szp m pp) (hw m pp (lap m pp d)) (d + 1) = wn (szp m pp) (hw m pp (lap m pp d)) d + hw m pp (lap m pp d) d * cA (szp m pp) (3 - d) := rfl
  have e1 : hw m pp (lap m pp d) d = 1 := by unfold hw; rw [if_pos rfl]
  have p := (cA_b hS (3 - d) (by omega)).1
  rw [e1, Int.one_mul] at c
  omega
def Tn (m : Nat → Nat → Int32) (pp : Nat → Nat) (e : Nat) : Int := (m 178 (ix4 (szp m pp) (adv4 (szp m pp) (srp m pp) (atp m) (lap m pp e))).toNat).toInt
def MNE (m : Nat → Nat → Int32) (pp : Nat → Nat) (d : Nat) (v : Int) : Prop := (v = -1 ∧ ∀ e, e < d → lap m pp e = -1) ∨ (0 ≤ v ∧ (∃ e, e < d ∧ lap m pp e ≠ -1 ∧ v = Tn m pp e) ∧ ∀ e, e < d → lap m pp e ≠ -1 → v ≤ Tn m pp e)
theorem MNE_0 {m : Nat → Nat → Int32} {pp : Nat → Nat} : MNE m pp 0 (-1) := Or.inl ⟨rfl, fun e he => absurd he (by omega)⟩
theorem MNE_skip {m : Nat → Nat → Int32} {pp : Nat → Nat} {d : Nat} {v : Int} (h : MNE m pp d v) (hs : lap m pp d = -1 ∨ ∃ x, x < d ∧ lap m pp x = lap m pp d) : MNE m pp (d + 1) v := by
  rcases h with ⟨h1, h2⟩ | ⟨h0, ⟨e, he, hne, hv⟩, h2⟩
  · refine Or.inl ⟨h1, fun e he => ?_⟩
    by_cases z : e < d
    · exact h2 e z
    · rw [show e = d by omega]
      rcases hs with hs | ⟨x, hx, hs⟩
      · exact hs
      · rw [← hs]; exact h2 x hx
  · refine Or.inr ⟨h0, ⟨e, by omega, hne, hv⟩, fun e2 he2 hn2 => ?_⟩
    by_cases z : e2 < d
    · exact h2 e2 z hn2
    · rw [show e2 = d by omega] at hn2 ⊢
      rcases hs with hs | ⟨x, hx, hs⟩
      · exact absurd hs hn2
      · unfold Tn
        rw [← hs]
        exact h2 x hx (by rw [hs]; exact hn2)
theorem MNE_hit {m : Nat → Nat → Int32} {pp : Nat → Nat} {d : Nat} {v w t : Int} (h : MNE m pp d v) (hne : lap m pp d ≠ -1) (ht : t = Tn m pp d) (t0 : 0 ≤ t) (hw : (w = t ∧ (v = -1 ∨ t ≤ v)) ∨ (w = v ∧ v ≠ -1 ∧ v ≤ t)) : MNE m pp (d + 1) w := by
  rcases hw with ⟨w1, w2⟩ | ⟨w1, w2, w3⟩
  · refine Or.inr ⟨by omega, ⟨d, by omega, hne, by omega⟩, fun e he hn => ?_⟩
    by_cases z : e < d
    · rcases h with ⟨h1, h2⟩ | ⟨h0, _, h2⟩
      · exact absurd (h2 e z) hn
      · have := h2 e z hn; omega
    · rw [show e = d by omega]; omega
  · rcases h with ⟨h1, h2⟩ | ⟨h0, ⟨e, he, hn, hv⟩, h2⟩
    · omega
    · refine Or.inr ⟨by omega, ⟨e, by omega, hn, by omega⟩, fun e2 he2 hn2 => ?_⟩
      by_cases z : e2 < d
      · have := h2 e2 z hn2; omega
      · rw [show e2 = d by omega]; omega
theorem MNE_end {m : Nat → Nat → Int32} {pp : Nat → Nat} {v : Int} (h : MNE m pp 4 v) : OB1 (szp m pp) (srp m pp) (fun b => (m 178 (ix4 (szp m pp) b).toNat).toInt) (atp m) (v + 1) ∧ 0 ≤ v + 1 := by
  rcases h with ⟨h1, h2⟩ | ⟨h0, ⟨e, he, hne, hv⟩, h2⟩
  · exact ⟨Or.inl ⟨fun d hd => h2 d hd, by omega⟩, by omega⟩
  · refine ⟨Or.inr ⟨⟨e, he, hne, ?_⟩, fun d hd hn => ?_⟩, by omega⟩
    · have : v = (m 178 (ix4 (szp m pp) (adv4 (szp m pp) (srp m pp) (atp m) (lap m pp e))).toNat).toInt := hv
      show v + 1 = 1 + (m 178 (ix4 (szp m pp) (adv4 (szp m pp) (srp m pp) (atp m) (lap m pp e))).toNat).toInt
      omega
    · have := h2 d hd hn
      have e2 : Tn m pp d = (m 178 (ix4 (szp m pp) (adv4 (szp m pp) (srp m pp) (atp m) (lap m pp d))).toNat).toInt := rfl
      show v + 1 ≤ 1 + (m 178 (ix4 (szp m pp) (adv4 (szp m pp) (srp m pp) (atp m) (lap m pp d))).toNat).toInt
      omega
theorem AHe_m1 {m : Nat → Nat → Int32} {pp : Nat → Nat} {d : Nat} (h : AHe m pp d) (hd : d < 4) (he : (m 177 d).toInt = -1) : lap m pp d = -1 ∨ ∃ x, x < d ∧ lap m pp x = lap m pp d := by
  by_cases w : ∃ x, x < d ∧ lap m pp x = lap m pp d
  · exact Or.inr w
  · exact Or.inl (((h d hd).2 (fun u hu hz => w ⟨u, hu, hz⟩)).symm.trans he)
theorem skip_of {m m2 : Nat → Nat → Int32} {pp : Nat → Nat} {d : Nat} (hd : d < 4) (hl : ∀ e, e < 4 → lap m2 pp e = lap m pp e) (h : lap m2 pp d = -1 ∨ ∃ x, x < d ∧ lap m2 pp x = lap m2 pp d) : lap m pp d = -1 ∨ ∃ x, x < d ∧ lap m pp x = lap m pp d := by
  rcases h with h | ⟨x, hx, h⟩
  · exact Or.inl ((hl d hd).symm.trans h)
  · exact Or.inr ⟨x, hx, by rw [← hl x (by omega), ← hl d hd]; exact h⟩
/-- which are taken so far -/
def R7P (m M : Nat → Nat → Int32) (l q : Int) : Prop := ∀ e : Nat, e < 4 → (M 177 e).toInt = if ((e : Int) < q ∧ (m 177 e).toInt = l) then -1 else (m 177 e).toInt
theorem R7_0 {m : Nat → Nat → Int32} {l q : Int} (h : ∀ e : Nat, e < 4 → (e : Int) < q → (m 177 e).toInt ≠ l) : R7P m m l q := by
  intro e he
  rw [if_neg (fun z => h e he z.1 z.2)]
theorem R7_hit {m M M2 : Nat → Nat → Int32} {l q q2 : Int} {v : Int32} (h : R7P m M l q) (h0 : 0 ≤ q) (e : M2 = up2 M 177 q.toNat v) (hv : v.toInt = -1) (hl : (m 177 q.toNat).toInt = l) (hq : q2 = q + 1) : R7P m M2 l q2 := by
  intro j hj
  by_cases z : (j : Int) = q
  · have ej : j = q.toNat := by omega
    rw [e, ej, up2_eq, if_pos ⟨by omega, hl⟩]
    exact hv
  · rw [e, up2_ne (by omega), h j hj]
    by_cases w : (m 177 j).toInt = l
    · by_cases y : (j : Int) < q
      · rw [if_pos ⟨y, w⟩, if_pos ⟨by omega, w⟩]
      · rw [if_neg (fun u => y u.1), if_neg (fun u => by have := u.1; omega)]
    · rw [if_neg (fun u => w u.2), if_neg (fun u => w u.2)]
theorem R7_miss {m M : Nat → Nat → Int32} {l q q2 : Int} (h : R7P m M l q) (h0 : 0 ≤ q) (hl : (m 177 q.toNat).toInt ≠ l) (hq : q2 = q + 1) : R7P m M l q2 := by
  intro j hj
  rw [h j hj]
  by_cases w : (m 177 j).toInt = l
  · by_cases y : (j : Int) < q
    · rw [if_pos ⟨y, w⟩, if_pos ⟨by omega, w⟩]
    · rw [if_neg (fun u => y u.1), if_neg (fun u => by
        have u1 := u.1
        have ej : j = q.toNat := by omega
        rw [ej] at w
        exact hl w)]
  · rw [if_neg (fun u => w u.2), if_neg (fun u => w u.2)]
theorem R7_end {m M : Nat → Nat → Int32} {l q : Int} (h : R7P m M l q) (h4 : 4 ≤ q) : ∀ e : Nat, e < 4 → (M 177 e).toInt = if (m 177 e).toInt = l then -1 else (m 177 e).toInt := by
  intro e he
  rw [h e he]
  by_cases w : (m 177 e).toInt = l
  · rw [if_pos ⟨by omega, w⟩, if_pos w]
  · rw [if_neg (fun u => w u.2), if_neg w]
theorem R7_at {m M : Nat → Nat → Int32} {l q : Int} (h : R7P m M l q) (h0 : 0 ≤ q) (h4 : q < 4) : (M 177 q.toNat).toInt = (m 177 q.toNat).toInt := by
  rw [h q.toNat (by omega), if_neg (fun u => by have := u.1; omega)]
