/-! the first of the SHORTEST in the class: what is kept, what is told -/
theorem BSC_take {m M M2 : Nat → Nat → Int32} {pp : Nat → Nat} {st left l on x on2 t l2 o2 : Int} {k : Nat} (hT : TRC m M pp st left) (b : BSC m M pp left k l on) (hD : Dj pp) (hk : k < 4) (e : ∀ b j, b ≤ 76 ∨ b = 173 ∨ b = 174 → M b j = m b j) (hx : x = lap M pp k) (hne : x ≠ -1) (ho : on2 = wn (szp M pp) (hw M pp (lap M pp k)) 4) (ht : t = (m 178 (st + on2).toNat).toInt) (e5 : ∀ j, M2 175 j = M 175 j) (h : (l ≤ x ∧ l2 = l ∧ o2 = on) ∨ (t ≠ left - 1 ∧ l2 = l ∧ o2 = on) ∨ (x < l ∧ t = left - 1 ∧ l2 = x ∧ o2 = on2)) : BSC m M2 pp left (k + 1) l2 o2 := by
  refine BSC_eq (M := M) ?_ e5
  intro L
  obtain ⟨t1, _, _, _⟩ := hT L
  have hb := b L
  have hh := lap_h2 (m := m) (M := M) hD hk e
  have hn := nx_h2 (m := m) (M := M) (l := lap M pp k) hD e
  rw [hh] at hx
  have hF : ftb m pp (adv4 (szp m pp) (srp m pp) (atp M) (lap M pp k)) = t := by
    unfold ftb
    rw [ht, ← hn, ← ho, ← t1]
  rw [hh] at hF
  rcases h with ⟨h1, h2, h3⟩ | ⟨h1, h2, h3⟩ | ⟨h1, h2, h3, h4⟩
  · rw [h2, h3]; exact BST_lose hb (Or.inl (by omega))
  · rw [h2, h3]; exact BST_lose hb (Or.inr (by omega))
  · rw [h3, h4]; exact BST_win hb hx h1 hne (by rw [hx]; omega) (by rw [hx, ← hh]; omega)
theorem BSC_skip {m M : Nat → Nat → Int32} {pp : Nat → Nat} {left l on : Int} {k : Nat} (b : BSC m M pp left k l on) (hD : Dj pp) (hk : k < 4) (e : ∀ b j, b ≤ 76 ∨ b = 173 ∨ b = 174 → M b j = m b j) (h : lap M pp k = -1 ∨ ∃ x, x < k ∧ lap M pp x = lap M pp k) : BSC m M pp left (k + 1) l on := by
  intro L
  refine BST_skip (b L) ?_
  rw [lap_h2 hD hk e] at h
  rcases h with h | ⟨x, hx, h⟩
  · exact Or.inl h
  · exact Or.inr ⟨x, hx, by rw [← lap_h2 hD (show x < 4 by omega) e]; exact h⟩
theorem BSC_0 {m M : Nat → Nat → Int32} {pp : Nat → Nat} {left on : Int} : BSC m M pp left 0 26 on := fun _ => BST_0
theorem VL_z {n : Nat → Int} (h : S12 n) : VL4 n (fun _ => 0) := fun d hd => ⟨Int.le_refl _, (h d hd).1⟩
theorem PTC_eq {m m2 : Nat → Nat → Int32} {pp : Nat → Nat} {f g : Nat → Int} {k : Nat} (hD : Dj pp) (hS : S12 (szp m pp)) (e : ∀ b j, b ≤ 76 ∨ b = 173 ∨ b = 174 ∨ b = 178 → m2 b j = m b j) (hf : ∀ i, g i = f i) (h : L25 (szp m pp) (srp m pp) → ∃ a, PTH (szp m pp) (srp m pp) (ftb m pp) f k a) : L25 (szp m2 pp) (srp m2 pp) → ∃ a, PTH (szp m2 pp) (srp m2 pp) (ftb m2 pp) g k a := by
  obtain ⟨h1, h2⟩ := row_eq (m := m) (m2 := m2) hD (fun b j q => e b j (by omega))
  intro L
  obtain ⟨a, ha⟩ := h (L25_of h2 L)
  have ef : ftb m2 pp = ftb m pp := funext fun b => by
    unfold ftb
    rw [ix4_of (s := szp m2 pp) (s' := szp m pp) (a := b) (a' := b) (fun d hd => (h1 d hd).symm) (fun _ _ => rfl), e 178 _ (by omega)]
  rw [ef]
  exact ⟨a, PTH_f (fun i _ => hf i) (PTH_of (ftb_4 m pp) (VL_z hS) h2 ha)⟩
def SCL (m : Nat → Nat → Int32) (x : Int32) : Prop := SHF (nmb m x) (smb m x) (m 170 1).toInt (fun i => (m 171 i).toInt)
theorem nmb_e {m m2 : Nat → Nat → Int32} {x : Int32} (e : ∀ a j, 61 ≤ a → a ≤ 76 → m2 a j = m a j) : nmb m2 x = nmb m x ∧ smb m2 x = smb m x := by
  constructor
  · funext d
    unfold nmb
    cases h : (mbs x 8)[d]? with
    | none => rfl
    | some k =>
      have := mbs_lt (List.mem_of_getElem? h)
      show (m2 (61 + 2 * k) 1).toInt = (m (61 + 2 * k) 1).toInt
      rw [e _ _ (by omega) (by omega)]
  · funext d j
    unfold smb
    cases h : (mbs x 8)[d]? with
    | none => rfl
    | some k =>
      have := mbs_lt (List.mem_of_getElem? h)
      show (m2 (62 + 2 * k) j).toInt = (m (62 + 2 * k) j).toInt
      rw [e _ _ (by omega) (by omega)]
theorem SCL_eq {m m2 : Nat → Nat → Int32} {x : Int32} (e : ∀ a j, 61 ≤ a → a ≤ 76 → m2 a j = m a j) (e0 : m2 170 1 = m 170 1) (e1 : ∀ j, m2 171 j = m 171 j) (h : SCL m x) : SCL m2 x := by
  unfold SCL at *
  rw [(nmb_e e).1, (nmb_e e).2, e0, show (fun i => (m2 171 i).toInt) = fun i => (m 171 i).toInt from funext fun i => by rw [e1 i]]
  exact h
theorem SCL_C {m : Nat → Nat → Int32} {x : Int32} (h : SCL m x) : SHC m x (m 170 1).toInt := by
  obtain ⟨F, h1, h2, h3, _⟩ := h
  exact ⟨F, h1, h2, h3⟩
theorem RQ_tb {m : Nat → Nat → Int32} {x : Int32} (I : IV BB m) : RQ4 (szp m (ppx x 8)) (nmb m x) (srp m (ppx x 8)) (smb m x) := by
  intro d _
  unfold szp srp nmb smb ppx
  cases h2 : (mbs x 8)[d]? with
  | none =>
    have a : (0 : Int) ≤ (m 173 1).toInt := (I 173 1).1
    have b : (m 173 1).toInt ≤ 0 := (I 173 1).2
    exact ⟨by show (m 173 1).toInt = 0; omega, fun k hk => by
      have hk : (k : Int) < (m 173 1).toInt := hk
      omega⟩
  | some k => exact ⟨rfl, fun j _ => by show (m (61 + 2 * k + 1) j).toInt = (m (62 + 2 * k) j).toInt; rw [show 61 + 2 * k + 1 = 62 + 2 * k by omega]⟩
theorem SCL_tb {m : Nat → Nat → Int32} {x : Int32} (I : IV BB m) (hS : S12 (szp m (ppx x 8))) (h : TBL m (ppx x 8) 0) (hv : (m 170 1).toInt = (m 178 0).toInt) (hp : L25 (szp m (ppx x 8)) (srp m (ppx x 8)) → ∃ a, PTH (szp m (ppx x 8)) (srp m (ppx x 8)) (ftb m (ppx x 8)) (fun i => (m 171 i).toInt) (m 170 1).toInt.toNat a) : SCL m x := by
  have hq := RQ_tb (x := x) I
  refine ⟨ftb m (ppx x 8), ftb_4 _ _, OBY_of (ftb_4 _ _) (fun a ha => h a ha (ix4_0 hS (fun d hd => (ha d hd).1))) hq, ?_, fun L => ?_⟩
  · have z : ix4 (szp m (ppx x 8)) (fun _ => 0) = 0 := by
      show (0 : Int) * cA (szp m (ppx x 8)) 3 + 0 * cA (szp m (ppx x 8)) 2 + 0 * cA (szp m (ppx x 8)) 1 + 0 * cA (szp m (ppx x 8)) 0 = 0
      omega
    unfold ftb
    rw [z, hv]
    rfl
  · obtain ⟨a, ha⟩ := hp (L25_of hq L)
    exact ⟨a, PTH_of (ftb_4 _ _) (VL_z hS) hq ha⟩
def CCL (m : Nat → Nat → Int32) : Prop := (m 169 1).toInt ≠ 0 → SCL m (m 169 1)
theorem CCL_eq {m m2 : Nat → Nat → Int32} (h : CCL m) (e9 : m2 169 1 = m 169 1) (e0 : m2 170 1 = m 170 1) (e1 : ∀ j, m2 171 j = m 171 j) (w : ∀ a j, 61 ≤ a → a ≤ 76 → m2 a j = m a j) : CCL m2 := by
  unfold CCL at h ⊢
  rw [e9]
  exact fun q => SCL_eq w e0 e1 (h q)
theorem CCL_0 {m : Nat → Nat → Int32} (h : (m 169 1).toInt = 0) : CCL m := fun q => absurd h q
theorem CCL_of {m : Nat → Nat → Int32} {x : Int32} (h : m 169 1 = x ∧ SCL m x) : CCL m := fun _ => by rw [h.1]; exact h.2
/-- between two calls -/
def EQL (T : List mv_T) (m : Nat → Nat → Int32) : Prop := EQW m ∧ (T = TL → m 169 1 = 0) ∧ CCL m
theorem EQL_k {T : List mv_T} {m m2 : Nat → Nat → Int32} (h : EQL T m) (hW : EQW m2) (e9 : m2 169 1 = m 169 1) (e0 : m2 170 1 = m 170 1) (e1 : ∀ j, m2 171 j = m 171 j) (w : ∀ a j, isW a = true → m2 a j = m a j) : EQL T m2 :=
  ⟨hW, fun q => by rw [e9]; exact h.2.1 q, CCL_eq h.2.2 e9 e0 e1 (fun a j h1 h2 => w a j (isW_i (Or.inl ⟨h1, h2⟩)))⟩
theorem EQL_c {T : List mv_T} {m : Nat → Nat → Int32} (hC : TC T) (hW : EQW m) (h : CCL m) : EQL T m := ⟨hW, fun q => absurd (hC.symm.trans q) TL2_ne, h⟩
theorem blank_EL {T : List mv_T} {m m1 m2 : Nat → Nat → Int32} {n v : Int} (I : IV BB m) (h : EQL T m) (hW : EQW m2) (hb : BLK n (m 0 2).toInt (m 1 1).toInt (LET 2 m n) v (m1 0 2).toInt (m1 1 1).toInt) (p : BLWc m m1 n) (dw : ∀ a j, isW a = true → m2 a j = m1 a j) (e9 : m2 169 1 = m 169 1) (e0 : m2 170 1 = m 170 1) (e1 : ∀ j, m2 171 j = m 171 j) : EQL T m2 := by
  have b0 : 0 ≤ (m 0 2).toInt := (I 0 2).1
  have b8 : (m 0 2).toInt ≤ 8 := (I 0 2).2
  refine ⟨hW, fun q => by rw [e9]; exact h.2.1 q, CCL_eq h.2.2 e9 e0 e1 (fun a j h1 h2 => ?_)⟩
  have z := isW_i (a := a) (Or.inl ⟨h1, h2⟩)
  refine (dw a j z).trans (p.1 a j z ?_)
  rcases hb with ⟨_, _, a3, _⟩ | ⟨_, _, a3, _⟩
  · exact Or.inr ⟨by unfold cnc; omega, by unfold cnc; omega⟩
  · exact Or.inl a3
theorem deed_EL {T : List mv_T} {m m1 m2 : Nat → Nat → Int32} {i n v : Int} (h : EQL T m) (hW : EQW m2) (p : DDWc m m1 i n v) (d : DFS T m m1 v) (dw : ∀ a j, isW a = true → m2 a j = m1 a j) (e9 : m2 169 1 = m1 169 1) (e0 : m2 170 1 = m1 170 1) (e1 : ∀ j, m2 171 j = m1 171 j) : EQL T m2 := by
  rcases d with ⟨d1, d2⟩ | ⟨d1, d2⟩
  · have z : m2 169 1 = 0 := by rw [e9, d2]; exact h.2.1 d1
    exact ⟨hW, fun _ => z, CCL_0 (by rw [z]; exact Int32.toInt_zero)⟩
  · rcases d2 with d2 | ⟨d2, d3, d4, d5⟩
    · exact EQL_c d1 hW (CCL_0 (by rw [e9]; exact d2))
    · exact EQL_c d1 hW (CCL_eq h.2.2 (e9.trans d3) (e0.trans d4) (fun j => (e1 j).trans (d5 j)) (fun a j h1 h2 => (dw a j (isW_i (Or.inl ⟨h1, h2⟩))).trans (p.1 a j (isW_i (Or.inl ⟨h1, h2⟩)) (Or.inl d2))))
/-- what shortest() answers -/
def GSV (g1 g2 : Prop) (n : Nat → Int) (s : Nat → Nat → Int) (i v : Int) : Prop := ((i < -1 ∨ ¬ g1) ∧ v = -1) ∨ (-1 ≤ i ∧ g1 ∧ ¬ g2 ∧ v = -2) ∨ (-1 ≤ i ∧ g1 ∧ g2 ∧ ∃ u f, SHF n s u f ∧ ((i = -1 ∧ v = u) ∨ (0 ≤ i ∧ u ≤ i ∧ v = -1) ∨ (0 ≤ i ∧ i < u ∧ v = f i.toNat)))
def GSR (g1 g2 : Prop) (n : Nat → Int) (s : Nat → Nat → Int) (i v : Int) : Prop := ((i < -1 ∨ ¬ g1) ∧ v = -1) ∨ (-1 ≤ i ∧ g1 ∧ ¬ g2 ∧ v = -2) ∨ (-1 ≤ i ∧ g1 ∧ g2 ∧ ∃ F, F4 F ∧ OBY n s F ∧ ((i = -1 ∧ v = F (fun _ => 0)) ∨ (0 ≤ i ∧ F (fun _ => 0) ≤ i ∧ v = -1) ∨ (0 ≤ i ∧ i < F (fun _ => 0) ∧ ∃ f a, PTH n s F f (i.toNat + 1) a ∧ v = f i.toNat)))
theorem GSV_det {a1 a2 b1 b2 : Prop} {n n2 : Nat → Int} {s s2 : Nat → Nat → Int} {i v w : Int} (h1 : a1 ↔ b1) (h2 : a1 → (a2 ↔ b2)) (hq : RQ4 n2 n s2 s) (h0 : VL4 n (fun _ => 0)) (hl : L25 n s) (a : GSV a1 a2 n s i v) (b : GSR b1 b2 n2 s2 i w) : v = w := by
  have h02 : VL4 n2 (fun _ => 0) := fun d hd => by rw [(hq d hd).1]; exact h0 d hd
  rcases a with ⟨p1, p2⟩ | ⟨p1, p2, p3, p4⟩ | ⟨p1, p2, p3, u, f, ⟨F, f4, hF, hu, hp⟩, p5⟩ <;> rcases b with ⟨q1, q2⟩ | ⟨q1, q2, q3, q4⟩ | ⟨q1, q2, q3, G, g4, hG, q5⟩
  · omega
  · rcases p1 with p1 | p1
    · omega
    · exact absurd (h1.mpr q2) p1
  · rcases p1 with p1 | p1
    · omega
    · exact absurd (h1.mpr q2) p1
  · rcases q1 with q1 | q1
    · omega
    · exact absurd (h1.mp p2) q1
  · omega
  · exact absurd ((h2 p2).mpr q3) p3
  · rcases q1 with q1 | q1
    · omega
    · exact absurd (h1.mp p2) q1
  · exact absurd ((h2 p2).mp p3) q3
  · have hG2 := OBY_of g4 hG hq
    have e0 : F (fun _ => 0) = G (fun _ => 0) := OBY_eq hF hG2 (rst n (fun _ => 0)).toNat _ h0 (by have := rst_0 h0; omega)
    rcases p5 with ⟨r1, r2⟩ | ⟨r1, r2, r3⟩ | ⟨r1, r2, r3⟩ <;> rcases q5 with ⟨t1, t2⟩ | ⟨t1, t2, t3⟩ | ⟨t1, t2, g, b, t3, t4⟩
    · omega
    · omega
    · omega
    · omega
    · omega
    · omega
    · omega
    · omega
    · obtain ⟨c, hc⟩ := hp hl
      obtain ⟨d, hd⟩ := PTH_cut (i := i.toNat + 1) hc (by omega)
      have ht := PTH_of g4 h02 hq t3
      rw [r3, t4]
      exact (PTH_det hF hG2 g4 h0 hd ht).1 i.toNat (by omega)
theorem GSV_no {m : Nat → Nat → Int32} {x v : Int32} {n : Nat → Int} {s : Nat → Nat → Int} {i : Int} (h : RFV m x v.toInt) (h0 : v.toInt ≠ 0) (hi : -1 ≤ i) : GSV (G1 m x) (G2 m x) n s i v.toInt := by
  rcases h with ⟨a, b⟩ | ⟨a, b, c⟩ | ⟨a, b, c⟩
  · exact Or.inl ⟨Or.inr a, b⟩
  · exact Or.inr (Or.inl ⟨hi, a, b, c⟩)
  · exact absurd c h0
theorem GSV_ok {m M : Nat → Nat → Int32} {x : Int32} {i v : Int} (g : G1 m x ∧ G2 m x) (hi : -1 ≤ i) (w : ∀ a j, isW a = true → M a j = m a j) (h : SCL M x) (hv : (i = -1 ∧ v = (M 170 1).toInt) ∨ (i ≠ -1 ∧ v = atv M 170 i)) : GSV (G1 m x) (G2 m x) (nmb m x) (smb m x) i v := by
  have e := nmb_e (m := m) (m2 := M) (x := x) (fun a j h1 h2 => w a j (isW_i (Or.inl ⟨h1, h2⟩)))
  unfold SCL at h
  rw [e.1, e.2] at h
  refine Or.inr (Or.inr ⟨hi, g.1, g.2, _, _, h, ?_⟩)
  rcases hv with ⟨h1, h2⟩ | ⟨h1, h2⟩
  · exact Or.inl ⟨h1, h2⟩
  · right
    unfold atv at h2
    by_cases z : i < (M 170 1).toInt
    · right
      rw [if_pos ⟨by omega, z⟩] at h2
      exact ⟨by omega, z, h2⟩
    · left
      rw [if_neg (fun q => z q.2)] at h2
      exact ⟨by omega, by omega, h2⟩
theorem short_fr {m m2 : Nat → Nat → Int32} {x : Int32} {i v : Int} (w : ∀ a j, isW a = true → m2 a j = m a j) (h : GSV (G1 m x) (G2 m x) (nmb m x) (smb m x) i v) : GSV (G1 m2 x) (G2 m2 x) (nmb m2 x) (smb m2 x) i v := by
  have e := nmb_e (m := m) (m2 := m2) (x := x) (fun a j h1 h2 => w a j (isW_i (Or.inl ⟨h1, h2⟩)))
  unfold GSV at h ⊢
  rw [G1_fr w, G2_fr w, e.1, e.2]
  exact h
theorem short_EW {m : Nat → Nat → Int32} {x : Int32} {i v w : Int} (I : IV BB m) (hD : DDE m) (a : GSV (G1 m x) (G2 m x) (nmb m x) (smb m x) i v) (b : GSR (SPR m x 2 4) (¬ TOO m x) (nmr m x) (smr m x) i w) : v = w := by
  have hq : RQ4 (nmr m x) (nmb m x) (smr m x) (smb m x) := by
    intro d _
    unfold nmr nmb smr smb
    cases h2 : (mbs x 8)[d]? with
    | none => exact ⟨rfl, fun _ _ => rfl⟩
    | some k =>
      obtain ⟨a1, a2, _⟩ := hD k (mbs_lt (List.mem_of_getElem? h2))
      exact ⟨a1.symm, fun j hj => (a2 j hj).symm⟩
  have h0 : VL4 (nmb m x) (fun _ => 0) := fun d hd => ⟨Int.le_refl _, by
    rw [← (hq d hd).1]
    unfold nmr
    cases (mbs x 8)[d]? with
    | none => exact Int.le_refl _
    | some k => exact (I 126 k).1⟩
  have hl : L25 (nmb m x) (smb m x) := fun d hd k hk => by
    rw [← (hq d hd).1] at hk
    rw [← (hq d hd).2 k hk]
    unfold smr
    cases (mbs x 8)[d]? with
    | none => exact ⟨Int.le_refl _, show (0 : Int) ≤ 25 by decide⟩
    | some q => exact ⟨(I 127 _).1, (I 127 _).2⟩
  exact GSV_det (G1_SPR I hD) (fun _ => G2_TOO hD) hq h0 hl a b
/-! the first of the SHORTEST in the reference -/
theorem SE_F4 (m : Nat → Nat → Int32) : F4 (SE m) := fun a b h => by unfold SE; rw [sx_of h]
theorem OBY_SE {m : Nat → Nat → Int32} {x : Int32} (I : IV BB m) (hc : CHLi m x 8) (hp : SHp m (-1) 16 16 16) (hm : SHm m (-1) 16 16 16) : OBY (nmr m x) (smr m x) (SE m) := by
  have h4 : F4 (SE m) := fun a b h => by unfold SE; rw [sx_of h]
  intro a ha
  have ok : OKp m a := fun q hq => by rw [CHL_LO hc q]; exact ha q hq
  have lg : lg4 a (-1) 16 16 16 := Or.inl (by have := (ha 0 (by omega)).1; omega)
  have r1 := hp a ok lg
  have r2 := hm a ok lg
  have hd : ∀ d, d < 4 → hda (nmr m x) (smr m x) a d = if (d : Int) < (m 123 50).toInt then LAq m d (a d) else -1 := fun d h => CHL_hd hc a d (ha d h).1
  have adv : ∀ l, l ≠ -1 → SE m (adv4 (nmr m x) (smr m x) a l) = SE m (stp m a l) := fun l hl => h4 _ _ (fun d h => by
    unfold adv4 stp tk1
    rw [hd d h]
    by_cases z : (d : Int) < (m 123 50).toInt
    · rw [if_pos z]
      by_cases y : LAq m d (a d) = l
      · rw [if_pos y, if_pos ⟨z, y⟩]
      · rw [if_neg y, if_neg (fun q => y q.2)]
    · rw [if_neg z, if_neg (fun q => hl q.symm), if_neg (fun q => z q.1)])
  have tks : ∀ d, d < 4 → hda (nmr m x) (smr m x) a d ≠ -1 → 0 ≤ hda (nmr m x) (smr m x) a d ∧ hda (nmr m x) (smr m x) a d ≤ 25 ∧ TKs m a (hda (nmr m x) (smr m x) a d) := fun d h hne => by
    have e := hd d h
    by_cases z : (d : Int) < (m 123 50).toInt
    · rw [if_pos z] at e
      have rng : 0 ≤ LAq m d (a d) ∧ LAq m d (a d) ≤ 25 := by
        rw [e] at hne
        unfold LAq at hne ⊢
        split
        · exact ⟨(I 127 _).1, (I 127 _).2⟩
        · rename_i y; rw [if_neg y] at hne; exact absurd rfl hne
      refine ⟨by omega, by omega, ?_⟩
      have t1 : tk1 m a (hda (nmr m x) (smr m x) a d) d = 1 := by unfold tk1; rw [if_pos ⟨z, e.symm⟩]
      have b0 := tk1_b m a (hda (nmr m x) (smr m x) a d) 0
      have b1 := tk1_b m a (hda (nmr m x) (smr m x) a d) 1
      have b2 := tk1_b m a (hda (nmr m x) (smr m x) a d) 2
      have b3 := tk1_b m a (hda (nmr m x) (smr m x) a d) 3
      unfold TKs
      rw [tkF4]
      have : d = 0 ∨ d = 1 ∨ d = 2 ∨ d = 3 := by omega
      rcases this with w | w | w | w
      · rw [w] at t1 b0 b1 b2 b3 ⊢; omega
      · rw [w] at t1 b0 b1 b2 b3 ⊢; omega
      · rw [w] at t1 b0 b1 b2 b3 ⊢; omega
      · rw [w] at t1 b0 b1 b2 b3 ⊢; omega
    · rw [if_neg z] at e; exact absurd e hne
  by_cases z : SE m a = 0
  · refine Or.inl ⟨fun d h => ?_, z⟩
    rw [hd d h]
    split
    · rename_i y
      have e := r2.2 z d h y
      unfold LAq
      unfold LOq at e
      rw [if_pos y] at e
      rw [if_neg (by omega)]
    · rfl
  · obtain ⟨l, l1, l2, l3, l4⟩ := r1.2.2 (by have := r1.1; omega)
    have ex : ∃ d, d < 4 ∧ hda (nmr m x) (smr m x) a d = l := by
      have f : ∀ d, d < 4 → tk1 m a l d = 1 → hda (nmr m x) (smr m x) a d = l := fun d h t => by
        rw [hd d h]
        unfold tk1 at t
        by_cases y : (d : Int) < (m 123 50).toInt ∧ LAq m d (a d) = l
        · rw [if_pos y.1]; exact y.2
        · rw [if_neg y] at t; omega
      unfold TKs at l3
      rw [tkF4] at l3
      have b0 := tk1_b m a l 0; have b1 := tk1_b m a l 1; have b2 := tk1_b m a l 2; have b3 := tk1_b m a l 3
      by_cases y0 : tk1 m a l 0 = 1
      · exact ⟨0, by omega, f 0 (by omega) y0⟩
      · by_cases y1 : tk1 m a l 1 = 1
        · exact ⟨1, by omega, f 1 (by omega) y1⟩
        · by_cases y2 : tk1 m a l 2 = 1
          · exact ⟨2, by omega, f 2 (by omega) y2⟩
          · exact ⟨3, by omega, f 3 (by omega) (by omega)⟩
    obtain ⟨d, hd4, e⟩ := ex
    refine Or.inr ⟨⟨d, hd4, by omega, by rw [adv _ (by omega), e]; omega⟩, fun d2 h2 hne => ?_⟩
    obtain ⟨t1, t2, t3⟩ := tks d2 h2 hne
    have := r2.1 _ t1 t2 t3
    rw [adv _ hne]
    omega
theorem SE_0 (m : Nat → Nat → Int32) : SE m (fun _ => 0) = (m 163 0).toInt := rfl
theorem adv_stp {m : Nat → Nat → Int32} {x : Int32} {a : Nat → Int} {l : Int} (hc : CHLi m x 8) (ha : VL4 (nmr m x) a) (hl : l ≠ -1) : ∀ d, d < 4 → adv4 (nmr m x) (smr m x) a l d = stp m a l d := fun d h => by
  have hd := CHL_hd hc a d (ha d h).1
  unfold adv4 stp tk1
  rw [hd]
  by_cases z : (d : Int) < (m 123 50).toInt
  · rw [if_pos z]
    by_cases y : LAq m d (a d) = l
    · rw [if_pos y, if_pos ⟨z, y⟩]
    · rw [if_neg y, if_neg (fun q => y q.2)]
  · rw [if_neg z, if_neg (fun q => hl q.symm), if_neg (fun q => z q.1)]
theorem tks_of {m : Nat → Nat → Int32} {x : Int32} {a : Nat → Int} {d : Nat} (I : IV BB m) (hc : CHLi m x 8) (ha : VL4 (nmr m x) a) (h : d < 4) (hne : hda (nmr m x) (smr m x) a d ≠ -1) : 0 ≤ hda (nmr m x) (smr m x) a d ∧ hda (nmr m x) (smr m x) a d ≤ 25 ∧ TKs m a (hda (nmr m x) (smr m x) a d) := by
  have e := CHL_hd hc a d (ha d h).1
  by_cases z : (d : Int) < (m 123 50).toInt
  · rw [if_pos z] at e
    have rng : 0 ≤ LAq m d (a d) ∧ LAq m d (a d) ≤ 25 := by
      rw [e] at hne
      unfold LAq at hne ⊢
      split
      · exact ⟨(I 127 _).1, (I 127 _).2⟩
      · rename_i y; rw [if_neg y] at hne; exact absurd rfl hne
    refine ⟨by omega, by omega, ?_⟩
    have t1 : tk1 m a (hda (nmr m x) (smr m x) a d) d = 1 := by unfold tk1; rw [if_pos ⟨z, e.symm⟩]
    have b0 := tk1_b m a (hda (nmr m x) (smr m x) a d) 0
    have b1 := tk1_b m a (hda (nmr m x) (smr m x) a d) 1
    have b2 := tk1_b m a (hda (nmr m x) (smr m x) a d) 2
    have b3 := tk1_b m a (hda (nmr m x) (smr m x) a d) 3
    unfold TKs
    rw [tkF4]
    have : d = 0 ∨ d = 1 ∨ d = 2 ∨ d = 3 := by omega
    rcases this with w | w | w | w
    · rw [w] at t1 b0 b1 b2 b3 ⊢; omega
    · rw [w] at t1 b0 b1 b2 b3 ⊢; omega
    · rw [w] at t1 b0 b1 b2 b3 ⊢; omega
    · rw [w] at t1 b0 b1 b2 b3 ⊢; omega
  · rw [if_neg z] at e; exact absurd e hne
theorem ex_of {m : Nat → Nat → Int32} {x : Int32} {a : Nat → Int} {l : Int} (hc : CHLi m x 8) (ha : VL4 (nmr m x) a) (l3 : 0 < tkF m a l 4) : ∃ d, d < 4 ∧ hda (nmr m x) (smr m x) a d = l := by
  have f : ∀ d, d < 4 → tk1 m a l d = 1 → hda (nmr m x) (smr m x) a d = l := fun d h t => by
    rw [CHL_hd hc a d (ha d h).1]
    unfold tk1 at t
    by_cases y : (d : Int) < (m 123 50).toInt ∧ LAq m d (a d) = l
    · rw [if_pos y.1]; exact y.2
    · rw [if_neg y] at t; omega
  rw [tkF4] at l3
  have b0 := tk1_b m a l 0; have b1 := tk1_b m a l 1; have b2 := tk1_b m a l 2; have b3 := tk1_b m a l 3
  by_cases y0 : tk1 m a l 0 = 1
  · exact ⟨0, by omega, f 0 (by omega) y0⟩
  · by_cases y1 : tk1 m a l 1 = 1
    · exact ⟨1, by omega, f 1 (by omega) y1⟩
    · by_cases y2 : tk1 m a l 2 = 1
      · exact ⟨2, by omega, f 2 (by omega) y2⟩
      · exact ⟨3, by omega, f 3 (by omega) (by omega)⟩
theorem nmr_e {m m2 : Nat → Nat → Int32} {x : Int32} (e6 : ∀ j, m2 126 j = m 126 j) (e7 : ∀ j, m2 127 j = m 127 j) : nmr m2 x = nmr m x ∧ smr m2 x = smr m x := by
  constructor
  · funext d
    unfold nmr
    cases (mbs x 8)[d]? with
    | none => rfl
    | some k => show (m2 126 k).toInt = (m 126 k).toInt; rw [e6]
  · funext d j
    unfold smr
    cases (mbs x 8)[d]? with
    | none => rfl
    | some k => show (m2 127 (16 * k + j)).toInt = (m 127 (16 * k + j)).toInt; rw [e7]
theorem SE_fe {m m2 : Nat → Nat → Int32} (e : ∀ j, m2 163 j = m 163 j) : SE m2 = SE m := funext fun p => SE_eq e p
def OBC (M : Nat → Nat → Int32) (x : Int32) : Prop := OBY (nmr M x) (smr M x) (SE M) ∧ CHLi M x 8
theorem CHL_e {m m2 : Nat → Nat → Int32} {x : Int32} (h : HSAME m m2) (k : CHLi m x 8) : CHLi m2 x 8 := ⟨by rw [h.1]; exact k.1, fun q i z => by rw [h.2.1 q]; exact k.2 q i z⟩
theorem OBC_eq {m m2 : Nat → Nat → Int32} {x : Int32} (k : OBC m x) (h : HSAME m m2) (e : ∀ j, m2 163 j = m 163 j) : OBC m2 x := by
  have q := nmr_e (x := x) h.2.2.1 h.2.2.2
  exact ⟨by rw [q.1, q.2, SE_fe e]; exact k.1, CHL_e h k.2⟩
def PTG (M : Nat → Nat → Int32) (x : Int32) (v k : Int) (a : Nat → Int) : Prop := OBC M x ∧ SE M (fun _ => 0) = v ∧ ∃ f, PTH (nmr M x) (smr M x) (SE M) f k.toNat a
theorem PTG_eq {m m2 : Nat → Nat → Int32} {x : Int32} {v k : Int} {a b : Nat → Int} (p : PTG m x v k a) (h : HSAME m m2) (e : ∀ j, m2 163 j = m 163 j) (ea : ∀ q, q < 4 → b q = a q) : PTG m2 x v k b := by
  have q := nmr_e (x := x) h.2.2.1 h.2.2.2
  obtain ⟨p1, p2, f, p3⟩ := p
  exact ⟨OBC_eq p1 h e, by rw [SE_fe e]; exact p2, f, by rw [q.1, q.2, SE_fe e]; exact PTH_4 ea p3⟩
theorem PTG_a {m : Nat → Nat → Int32} {x : Int32} {v k : Int} {a b : Nat → Int} (p : PTG m x v k a) (ea : ∀ q, q < 4 → b q = a q) : PTG m x v k b := ⟨p.1, p.2.1, p.2.2.imp (fun _ q => PTH_4 ea q)⟩
theorem PTG_0 {m : Nat → Nat → Int32} {x : Int32} {v : Int} (h : OBC m x) (hz : ∀ q : Nat, q < 4 → (m 158 q).toInt = 0) (hv : (m 163 0).toInt = v) : PTG m x v 0 (pa m) := ⟨h, by rw [SE_0]; exact hv, fun _ => 0, fun d hd => hz d hd⟩
def NLL (M : Nat → Nat → Int32) (c l : Int) : Prop := ∀ k : Int, 0 ≤ k → k < l → TKs M (pa M) k → SE M (stp M (pa M) k) ≠ c
theorem NLL_0 {M : Nat → Nat → Int32} {c : Int} : NLL M c 0 := fun k a b => by omega
theorem NLL_step {M : Nat → Nat → Int32} {c l : Int} (h : NLL M c l) (hn : tkF M (pa M) l 4 = 0 ∨ SE M (stp M (pa M) l) ≠ c) : NLL M c (l + 1) := fun k a b t => by
  by_cases z : k = l
  · rw [z] at t ⊢
    rcases hn with y | y
    · unfold TKs at t; omega
    · exact y
  · exact h k a (by omega) t
theorem NLL_eq {m m2 : Nat → Nat → Int32} {c l : Int} (h : HSAME m m2) (e : ∀ j, m2 163 j = m 163 j) (ep : pa m2 = pa m) (k : NLL m c l) : NLL m2 c l := fun j a b t => by
  rw [ep] at t ⊢
  rw [SE_eq e, stp_eq h]
  exact k j a b (TKs_eq h.symm t)
theorem PTG_hit {m : Nat → Nat → Int32} {x : Int32} {v k l : Int} (I : IV BB m) (p : PTG m x v k (pa m)) (hs : SE m (pa m) = v - k) (nl : NLL m (v - k - 1) l) (l0 : 0 ≤ l) (t : 0 < tkF m (pa m) l 4) (e : SE m (stp m (pa m) l) = v - k - 1) : ∃ f, PTH (nmr m x) (smr m x) (SE m) f (k.toNat + 1) (stp m (pa m) l) ∧ f k.toNat = l := by
  obtain ⟨⟨p1, p2⟩, _, f, p3⟩ := p
  have h0 : VL4 (nmr m x) (fun _ => 0) := fun d _ => ⟨Int.le_refl _, by
    unfold nmr
    cases (mbs x 8)[d]? with
    | none => exact Int.le_refl _
    | some k => exact (I 126 k).1⟩
  have hv := PTH_VL h0 p3
  have ea : SE m (adv4 (nmr m x) (smr m x) (pa m) l) = SE m (stp m (pa m) l) := SE_F4 m _ _ (adv_stp p2 hv (by omega))
  obtain ⟨g, hg, hg2⟩ : ∃ g : Nat → Int, g k.toNat = l ∧ ∀ i, i < k.toNat → g i = f i := ⟨fun i => if i = k.toNat then l else f i, if_pos rfl, fun i hi => if_neg (by omega)⟩
  refine ⟨g, ⟨pa m, PTH_f hg2 p3, ?_, ?_⟩, hg⟩
  · rw [hg]
    refine ⟨ex_of p2 hv t, by omega, by rw [ea]; omega, fun d hd hne hF => ?_⟩
    obtain ⟨t1, t2, t3⟩ := tks_of I p2 hv hd hne
    have e2 : SE m (adv4 (nmr m x) (smr m x) (pa m) (hda (nmr m x) (smr m x) (pa m) d)) = SE m (stp m (pa m) (hda (nmr m x) (smr m x) (pa m) d)) := SE_F4 m _ _ (adv_stp p2 hv hne)
    by_cases z : hda (nmr m x) (smr m x) (pa m) d < l
    · exact absurd (by omega) (nl _ t1 z t3)
    · omega
  · intro d hd
    rw [hg]
    exact (adv_stp p2 hv (by omega) d hd).symm
theorem PTG_next {m m2 : Nat → Nat → Int32} {x : Int32} {v k k2 l : Int} {a b : Nat → Int} (p : PTG m x v k a) (h : ∃ f, PTH (nmr m x) (smr m x) (SE m) f (k.toNat + 1) (stp m (pa m) l) ∧ f k.toNat = l) (hk : 0 ≤ k) (hs : HSAME m m2) (e : ∀ j, m2 163 j = m 163 j) (ea : ∀ q : Nat, q < 4 → b q = stp m (pa m) l q) (h2 : k2 = k + 1) : PTG m2 x v k2 b := by
  obtain ⟨f, h1, _⟩ := h
  exact PTG_eq ⟨p.1, p.2.1, f, by rw [show k2.toNat = k.toNat + 1 by omega]; exact h1⟩ hs e ea
theorem GSR_s {m M : Nat → Nat → Int32} {x : Int32} {i v : Int} (g1 : SPR m x 2 4) (g2 : ¬ TOO m x) (hi : -1 ≤ i) (e6 : ∀ j, M 126 j = m 126 j) (e7 : ∀ j, M 127 j = m 127 j) (ho : OBY (nmr M x) (smr M x) (SE M)) (hv : (i = -1 ∧ v = (M 163 0).toInt) ∨ (0 ≤ i ∧ (M 163 0).toInt ≤ i ∧ v = -1) ∨ (0 ≤ i ∧ i < (M 163 0).toInt ∧ ∃ f a, PTH (nmr M x) (smr M x) (SE M) f (i.toNat + 1) a ∧ v = f i.toNat)) : GSR (SPR m x 2 4) (¬ TOO m x) (nmr m x) (smr m x) i v := by
  have q := nmr_e (x := x) e6 e7
  rw [q.1, q.2] at ho hv
  exact Or.inr (Or.inr ⟨hi, g1, g2, SE M, SE_F4 M, ho, hv⟩)
