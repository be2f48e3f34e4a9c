/-! the first of the SHORTEST: which LETTERS it has -/
def LST (n : Nat → Int) (s : Nat → Nat → Int) (F : (Nat → Int) → Int) (a : Nat → Int) (l : Int) : Prop := (∃ d, d < 4 ∧ hda n s a d = l) ∧ l ≠ -1 ∧ F (adv4 n s a l) = F a - 1 ∧ ∀ d, d < 4 → hda n s a d ≠ -1 → F (adv4 n s a (hda n s a d)) = F a - 1 → l ≤ hda n s a d
def PTH (n : Nat → Int) (s : Nat → Nat → Int) (F : (Nat → Int) → Int) (f : Nat → Int) : Nat → (Nat → Int) → Prop
  | 0, a => ∀ d, d < 4 → a d = 0
  | k + 1, a => ∃ b, PTH n s F f k b ∧ LST n s F b (f k) ∧ ∀ d, d < 4 → a d = adv4 n s b (f k) d
theorem VL_4 {n a b : Nat → Int} (h : VL4 n a) (e : ∀ d, d < 4 → b d = a d) : VL4 n b := fun d hd => by rw [e d hd]; exact h d hd
theorem PTH_VL {n : Nat → Int} {s : Nat → Nat → Int} {F : (Nat → Int) → Int} {f : Nat → Int} (h0 : VL4 n (fun _ => 0)) : ∀ {k : Nat} {a : Nat → Int}, PTH n s F f k a → VL4 n a
  | 0, a, h => VL_4 h0 h
  | k + 1, a, ⟨b, h1, h2, h3⟩ => VL_4 (adv_VL (PTH_VL h0 h1) h2.2.1) h3
theorem adv_4 {n : Nat → Int} {s : Nat → Nat → Int} {a b : Nat → Int} {l : Int} (e : ∀ d, d < 4 → a d = b d) : ∀ d, d < 4 → adv4 n s a l d = adv4 n s b l d := fun d hd => by unfold adv4; rw [hda_4 (e d hd), e d hd]
theorem LST_4 {n : Nat → Int} {s : Nat → Nat → Int} {F : (Nat → Int) → Int} {a b : Nat → Int} {l : Int} (h4 : F4 F) (e : ∀ d, d < 4 → a d = b d) (h : LST n s F a l) : LST n s F b l := by
  obtain ⟨⟨d, hd, hl⟩, h1, h2, h3⟩ := h
  have eF : F a = F b := h4 _ _ e
  have eA : ∀ l, F (adv4 n s a l) = F (adv4 n s b l) := fun l => h4 _ _ (adv_4 e)
  refine ⟨⟨d, hd, by rw [← hda_4 (e d hd)]; exact hl⟩, h1, by rw [← eA, ← eF]; exact h2, fun x hx y z => ?_⟩
  rw [← hda_4 (e x hx)] at y z ⊢
  rw [← eA, ← eF] at z
  exact h3 x hx y z
theorem LST_det {n : Nat → Int} {s : Nat → Nat → Int} {F G : (Nat → Int) → Int} {a : Nat → Int} {l k : Int} (hF : OBY n s F) (hG : OBY n s G) (hv : VL4 n a) (h : LST n s F a l) (g : LST n s G a k) : l = k := by
  have eq : ∀ b, VL4 n b → F b = G b := fun b hb => OBY_eq hF hG (rst n b).toNat b hb (by have := rst_0 hb; omega)
  obtain ⟨⟨d, hd, hl⟩, h1, h2, h3⟩ := h
  obtain ⟨⟨x, hx, hk⟩, g1, g2, g3⟩ := g
  have e0 := eq a hv
  have el := eq _ (adv_VL (s := s) hv h1)
  have ek := eq _ (adv_VL (s := s) hv g1)
  have a1 := h3 x hx (by rw [hk]; exact g1) (by rw [hk]; omega)
  have a2 := g3 d hd (by rw [hl]; exact h1) (by rw [hl]; omega)
  omega
theorem PTH_det {n : Nat → Int} {s : Nat → Nat → Int} {F G : (Nat → Int) → Int} {f g : Nat → Int} (hF : OBY n s F) (hG : OBY n s G) (g4 : F4 G) (h0 : VL4 n (fun _ => 0)) : ∀ {k : Nat} {a b : Nat → Int}, PTH n s F f k a → PTH n s G g k b → (∀ i, i < k → f i = g i) ∧ ∀ d, d < 4 → a d = b d
  | 0, a, b, h, h2 => ⟨fun i hi => absurd hi (by omega), fun d hd => by rw [h d hd, h2 d hd]⟩
  | k + 1, a, b, ⟨p, h1, h2, h3⟩, ⟨q, g1, g2, g3⟩ => by
    obtain ⟨r1, r2⟩ := PTH_det hF hG g4 h0 h1 g1
    have g2' := LST_4 g4 (fun d hd => (r2 d hd).symm) g2
    have e := LST_det hF hG (PTH_VL h0 h1) h2 g2'
    refine ⟨fun i hi => ?_, fun d hd => ?_⟩
    · by_cases z : i < k
      · exact r1 i z
      · rw [show i = k by omega]; exact e
    · rw [h3 d hd, g3 d hd, e]
      exact adv_4 r2 d hd
theorem PTH_cut {n : Nat → Int} {s : Nat → Nat → Int} {F : (Nat → Int) → Int} {f : Nat → Int} : ∀ {k i : Nat} {a : Nat → Int}, PTH n s F f k a → i ≤ k → ∃ b, PTH n s F f i b
  | 0, i, a, h, hi => ⟨a, by rw [show i = 0 by omega]; exact h⟩
  | k + 1, i, a, h, hi => by
    by_cases z : i = k + 1
    · exact ⟨a, by rw [z]; exact h⟩
    · obtain ⟨b, h1, _⟩ := h
      exact PTH_cut h1 (by omega)
theorem PTH_f {n : Nat → Int} {s : Nat → Nat → Int} {F : (Nat → Int) → Int} {f g : Nat → Int} : ∀ {k : Nat} {a : Nat → Int}, (∀ i, i < k → g i = f i) → PTH n s F f k a → PTH n s F g k a
  | 0, a, _, h => h
  | k + 1, a, e, ⟨b, h1, h2, h3⟩ => ⟨b, PTH_f (fun i hi => e i (by omega)) h1, by rw [e k (by omega)]; exact h2, fun d hd => by rw [e k (by omega)]; exact h3 d hd⟩
theorem PTH_4 {n : Nat → Int} {s : Nat → Nat → Int} {F : (Nat → Int) → Int} {f : Nat → Int} : ∀ {k : Nat} {a b : Nat → Int}, (∀ d, d < 4 → b d = a d) → PTH n s F f k a → PTH n s F f k b
  | 0, a, b, e, h => fun d hd => by rw [e d hd]; exact h d hd
  | k + 1, a, b, e, ⟨c, h1, h2, h3⟩ => ⟨c, h1, h2, fun d hd => by rw [e d hd]; exact h3 d hd⟩
/-- the same rows -/
theorem LST_of {n n2 : Nat → Int} {s s2 : Nat → Nat → Int} {F : (Nat → Int) → Int} {a : Nat → Int} {l : Int} (h4 : F4 F) (hv : VL4 n a) (hq : RQ4 n n2 s s2) (h : LST n s F a l) : LST n2 s2 F a l := by
  have e : ∀ d, d < 4 → hda n s a d = hda n2 s2 a d := fun d hd => hda_of (hq d hd).1 (hv d hd).1 (hq d hd).2
  have e2 : ∀ l, F (adv4 n s a l) = F (adv4 n2 s2 a l) := fun l => h4 _ _ (fun d hd => by unfold adv4; rw [e d hd])
  obtain ⟨⟨d, hd, hl⟩, h1, h2, h3⟩ := h
  refine ⟨⟨d, hd, by rw [← e d hd]; exact hl⟩, h1, by rw [← e2]; exact h2, fun x hx y z => ?_⟩
  rw [← e x hx] at y z ⊢
  rw [← e2] at z
  exact h3 x hx y z
theorem PTH_of {n n2 : Nat → Int} {s s2 : Nat → Nat → Int} {F : (Nat → Int) → Int} {f : Nat → Int} (h4 : F4 F) (h0 : VL4 n (fun _ => 0)) (hq : RQ4 n n2 s s2) : ∀ {k : Nat} {a : Nat → Int}, PTH n s F f k a → PTH n2 s2 F f k a
  | 0, a, h => h
  | k + 1, a, ⟨b, h1, h2, h3⟩ => by
    have hv := PTH_VL h0 h1
    refine ⟨b, PTH_of h4 h0 hq h1, LST_of h4 hv hq h2, fun d hd => ?_⟩
    rw [h3 d hd]
    unfold adv4
    rw [hda_of (hq d hd).1 (hv d hd).1 (hq d hd).2]
/-- LETTERS are from 0 to 25 -/
def L25 (n : Nat → Int) (s : Nat → Nat → Int) : Prop := ∀ d, d < 4 → ∀ k : Nat, (k : Int) < n d → 0 ≤ s d k ∧ s d k ≤ 25
theorem L25_hda {n : Nat → Int} {s : Nat → Nat → Int} {a : Nat → Int} {d : Nat} (h : L25 n s) (hv : VL4 n a) (hd : d < 4) (hne : hda n s a d ≠ -1) : 0 ≤ hda n s a d ∧ hda n s a d ≤ 25 := by
  have l := hda_lt hne
  have v := hv d hd
  unfold hda
  rw [if_pos l]
  exact h d hd _ (by omega)
theorem L25_of {n n2 : Nat → Int} {s s2 : Nat → Nat → Int} (hq : RQ4 n n2 s s2) (h : L25 n2 s2) : L25 n s := fun d hd k hk => by
  rw [(hq d hd).2 k hk]
  exact h d hd k (by rw [← (hq d hd).1]; exact hk)
/-- the first so far, of those that lead on -/
def BST (n : Nat → Int) (s : Nat → Nat → Int) (F : (Nat → Int) → Int) (a : Nat → Int) (c : Int) (k : Nat) (l on : Int) : Prop := (∀ d, d < k → hda n s a d ≠ -1 → hda n s a d ≤ 25 → F (adv4 n s a (hda n s a d)) = c → l ≤ hda n s a d) ∧ (l = 26 ∨ (l ≤ 25 ∧ l ≠ -1 ∧ (∃ d, d < k ∧ hda n s a d = l) ∧ F (adv4 n s a l) = c ∧ ix4 n a + on = ix4 n (adv4 n s a l)))
theorem BST_0 {n : Nat → Int} {s : Nat → Nat → Int} {F : (Nat → Int) → Int} {a : Nat → Int} {c on : Int} : BST n s F a c 0 26 on := ⟨fun d hd => absurd hd (by omega), Or.inl rfl⟩
theorem BST_old {n : Nat → Int} {s : Nat → Nat → Int} {F : (Nat → Int) → Int} {a : Nat → Int} {c l on : Int} {k : Nat} (h : BST n s F a c k l on) (hk : hda n s a k ≠ -1 → hda n s a k ≤ 25 → F (adv4 n s a (hda n s a k)) = c → l ≤ hda n s a k) : BST n s F a c (k + 1) l on := by
  refine ⟨fun d hd h1 h2 h3 => ?_, h.2.imp id (fun ⟨a1, a2, ⟨d, hd, a3⟩, a4⟩ => ⟨a1, a2, ⟨d, by omega, a3⟩, a4⟩)⟩
  by_cases z : d < k
  · exact h.1 d z h1 h2 h3
  · rw [show d = k by omega] at h1 h2 h3 ⊢; exact hk h1 h2 h3
theorem BST_skip {n : Nat → Int} {s : Nat → Nat → Int} {F : (Nat → Int) → Int} {a : Nat → Int} {c l on : Int} {k : Nat} (h : BST n s F a c k l on) (hk : hda n s a k = -1 ∨ ∃ x, x < k ∧ hda n s a x = hda n s a k) : BST n s F a c (k + 1) l on :=
  BST_old h (fun h1 h2 h3 => by
    rcases hk with hk | ⟨x, hx, hk⟩
    · exact absurd hk h1
    · rw [← hk] at h1 h2 h3 ⊢; exact h.1 x hx h1 h2 h3)
theorem BST_lose {n : Nat → Int} {s : Nat → Nat → Int} {F : (Nat → Int) → Int} {a : Nat → Int} {c l on : Int} {k : Nat} (h : BST n s F a c k l on) (hk : l ≤ hda n s a k ∨ F (adv4 n s a (hda n s a k)) ≠ c) : BST n s F a c (k + 1) l on :=
  BST_old h (fun _ _ h3 => hk.elim id (fun q => absurd h3 q))
theorem BST_win {n : Nat → Int} {s : Nat → Nat → Int} {F : (Nat → Int) → Int} {a : Nat → Int} {c l on x on2 : Int} {k : Nat} (h : BST n s F a c k l on) (hx : x = hda n s a k) (hl : x < l) (h1 : x ≠ -1) (hF : F (adv4 n s a x) = c) (ho : ix4 n a + on2 = ix4 n (adv4 n s a x)) : BST n s F a c (k + 1) x on2 := by
  have l26 : l ≤ 26 := by rcases h.2 with q | ⟨q, _⟩ <;> omega
  refine ⟨fun d hd h1 h2 h3 => ?_, Or.inr ⟨by omega, h1, ⟨k, by omega, hx.symm⟩, hF, ho⟩⟩
  by_cases z : d < k
  · have := h.1 d z h1 h2 h3; omega
  · rw [show d = k by omega]; omega
theorem BST_end {n : Nat → Int} {s : Nat → Nat → Int} {F : (Nat → Int) → Int} {a : Nat → Int} {c l on : Int} (h : BST n s F a c 4 l on) (hl : L25 n s) (hv : VL4 n a) (ho : OB1 n s F a (F a)) (hc : c = F a - 1) (h0 : F a ≠ 0) : LST n s F a l ∧ ix4 n a + on = ix4 n (adv4 n s a l) := by
  rcases ho with ⟨_, q⟩ | ⟨⟨d, hd, hne, e⟩, _⟩
  · exact absurd q h0
  · have r := L25_hda hl hv hd hne
    have q := h.1 d hd hne r.2 (by omega)
    rcases h.2 with z | ⟨z1, z2, z3, z4, z5⟩
    · omega
    · exact ⟨⟨z3, z2, by omega, fun x hx y w => h.1 x hx y (L25_hda hl hv hx y).2 (by omega)⟩, z5⟩
/-- the SHORTEST and its first -/
def SHF (n : Nat → Int) (s : Nat → Nat → Int) (v : Int) (f : Nat → Int) : Prop := ∃ F, F4 F ∧ OBY n s F ∧ v = F (fun _ => 0) ∧ (L25 n s → ∃ a, PTH n s F f v.toNat a)
/-- on the way -/
def TRC (m M : Nat → Nat → Int32) (pp : Nat → Nat) (st left : Int) : Prop := L25 (szp m pp) (srp m pp) → st = ix4 (szp m pp) (atp M) ∧ ftb m pp (atp M) = left ∧ VL4 (szp m pp) (atp M) ∧ PTH (szp m pp) (srp m pp) (ftb m pp) (fun i => (M 171 i).toInt) (M 170 1).toInt.toNat (atp M)
def BSC (m M : Nat → Nat → Int32) (pp : Nat → Nat) (left : Int) (k : Nat) (l on : Int) : Prop := L25 (szp m pp) (srp m pp) → BST (szp m pp) (srp m pp) (ftb m pp) (atp M) (left - 1) k l on
theorem lap_h2 {m M : Nat → Nat → Int32} {pp : Nat → Nat} {d : Nat} (hD : Dj pp) (hd : d < 4) (e : ∀ b j, b ≤ 76 ∨ b = 173 ∨ b = 174 → M b j = m b j) : lap M pp d = hda (szp m pp) (srp m pp) (atp M) d := by
  have q := hD d hd
  unfold lap hda szp srp
  rw [e (pp d) 1 (by omega), e (pp d + 1) _ (by omega)]
theorem nx_h2 {m M : Nat → Nat → Int32} {pp : Nat → Nat} {l : Int} (hD : Dj pp) (e : ∀ b j, b ≤ 76 ∨ b = 173 ∨ b = 174 → M b j = m b j) : ix4 (szp m pp) (atp M) + wn (szp M pp) (hw M pp l) 4 = ix4 (szp m pp) (adv4 (szp m pp) (srp m pp) (atp M) l) := by
  obtain ⟨h1, _⟩ := row_eq (m := m) (m2 := M) hD e
  have a := nx_ix (m := M) (pp := pp) l
  rw [ix4_of (s := szp M pp) (s' := szp m pp) (a := atp M) (a' := atp M) (fun d hd => (h1 d hd).symm) (fun _ _ => rfl)] at a
  rw [a]
  exact ix4_of (fun d hd => (h1 d hd).symm) (fun d hd => by
    show atp M d + (if hda (szp M pp) (srp M pp) (atp M) d = l then 1 else 0) = atp M d + (if hda (szp m pp) (srp m pp) (atp M) d = l then 1 else 0)
    rw [← lap_hda, lap_h2 hD hd e])
theorem TRC_eq {m M M2 : Nat → Nat → Int32} {pp : Nat → Nat} {st left : Int} (h : TRC m M pp st left) (e : ∀ b j, b = 170 ∨ b = 171 ∨ b = 175 → M2 b j = M b j) : TRC m M2 pp st left := by
  have ea : atp M2 = atp M := funext fun d => by unfold atp; rw [e 175 d (by omega)]
  have ef : (fun i => (M2 171 i).toInt) = fun i => (M 171 i).toInt := funext fun i => by rw [e 171 i (by omega)]
  unfold TRC at *
  rw [ea, ef, e 170 1 (by omega)]
  exact h
theorem BSC_eq {m M M2 : Nat → Nat → Int32} {pp : Nat → Nat} {left l on : Int} {k : Nat} (h : BSC m M pp left k l on) (e : ∀ j, M2 175 j = M 175 j) : BSC m M2 pp left k l on := by
  have ea : atp M2 = atp M := funext fun d => by unfold atp; rw [e d]
  unfold BSC at *
  rw [ea]
  exact h
theorem TRC_0 {m M : Nat → Nat → Int32} {pp : Nat → Nat} {left : Int} (hS : S12 (szp m pp)) (h0 : ∀ d, d < 4 → (M 175 d).toInt = 0) (hz : (M 170 1).toInt = 0) (hl : left = (m 178 0).toInt) : TRC m M pp 0 left := by
  intro _
  have e : ix4 (szp m pp) (atp M) = 0 := by
    unfold ix4 atp
    rw [h0 0 (by omega), h0 1 (by omega), h0 2 (by omega), h0 3 (by omega)]
    omega
  refine ⟨e.symm, by unfold ftb; rw [e]; exact hl.symm, fun d hd => ?_, ?_⟩
  · have q := hS d hd
    unfold atp
    rw [h0 d hd]
    omega
  · rw [hz]
    exact fun d hd => h0 d hd
theorem TRC_step {m M M2 : Nat → Nat → Int32} {pp : Nat → Nat} {st left l on st2 left2 : Int} (h : TRC m M pp st left) (b : BSC m M pp left 4 l on) (hT : TBL m pp 0) (hS : S12 (szp m pp)) (hD : Dj pp) (e : ∀ b j, b ≤ 76 ∨ b = 173 ∨ b = 174 → M b j = m b j) (h0 : 0 < left) (hz : 0 ≤ (M 170 1).toInt) (hs : (M2 170 1).toInt = (M 170 1).toInt + 1) (hf : (M2 171 (M 170 1).toInt.toNat).toInt = l) (hg : ∀ j, j ≠ (M 170 1).toInt.toNat → M2 171 j = M 171 j) (ha : ∀ d, d < 4 → (M2 175 d).toInt = atp M d + hw M pp l d) (h2 : st2 = st + on) (hl : left2 = left - 1) : TRC m M2 pp st2 left2 := by
  intro L
  obtain ⟨t1, t2, t3, t4⟩ := h L
  have ob := hT (atp M) t3 (ix4_0 hS (fun d hd => (t3 d hd).1))
  obtain ⟨q1, q2⟩ := BST_end (b L) L t3 ob (by omega) (by omega)
  have ea : ∀ d, d < 4 → atp M2 d = adv4 (szp m pp) (srp m pp) (atp M) l d := fun d hd => by
    show (M2 175 d).toInt = atp M d + (if hda (szp m pp) (srp m pp) (atp M) d = l then 1 else 0)
    rw [ha d hd, ← lap_h2 hD hd e]
    rfl
  refine ⟨?_, ?_, VL_4 (adv_VL t3 q1.2.1) ea, ?_⟩
  · rw [ix4_of (fun _ _ => rfl) ea]; omega
  · rw [ftb_4 m pp _ _ ea, q1.2.2.1]; omega
  · rw [show (M2 170 1).toInt.toNat = (M 170 1).toInt.toNat + 1 by omega]
    have hf2 : (fun i => (M2 171 i).toInt) (M 170 1).toInt.toNat = l := hf
    refine ⟨atp M, PTH_f (fun i hi => by rw [hg i (by omega)]) t4, by rw [hf2]; exact q1, fun d hd => by rw [hf2]; exact ea d hd⟩
