/-! HIDDEN: what is common to three rows; tables that tell how much agree -/
def CS (n : Nat → Int) (s : Nat → Nat → Int) : Nat → Int → Int → Int → Prop
  | 0, _, _, _ => True
  | k + 1, a, b, c => ∃ x y z : Int, a ≤ x ∧ x < n 0 ∧ b ≤ y ∧ y < n 1 ∧ c ≤ z ∧ z < n 2 ∧ s 0 x.toNat = s 1 y.toNat ∧ s 1 y.toNat = s 2 z.toNat ∧ CS n s k (x + 1) (y + 1) (z + 1)
theorem CS_mono {n : Nat → Int} {s : Nat → Nat → Int} : ∀ {k : Nat} {a b c a' b' c' : Int}, a' ≤ a → b' ≤ b → c' ≤ c → CS n s k a b c → CS n s k a' b' c'
  | 0, _, _, _, _, _, _, _, _, _, _ => trivial
  | k + 1, _, _, _, _, _, _, h1, h2, h3, ⟨x, y, z, a1, a2, a3, a4, a5, a6, a7⟩ => ⟨x, y, z, by omega, a2, by omega, a4, by omega, a6, a7⟩
theorem CS_dn {n : Nat → Int} {s : Nat → Nat → Int} : ∀ {k : Nat} {a b c : Int}, CS n s (k + 1) a b c → CS n s k a b c
  | 0, _, _, _, _ => trivial
  | k + 1, _, _, _, ⟨x, y, z, a1, a2, a3, a4, a5, a6, a7, a8, a9⟩ => ⟨x, y, z, a1, a2, a3, a4, a5, a6, a7, a8, CS_dn a9⟩
theorem CS_le {n : Nat → Int} {s : Nat → Nat → Int} : ∀ {j k : Nat} {a b c : Int}, k ≤ j → CS n s j a b c → CS n s k a b c
  | 0, k, _, _, _, h, _ => by rw [show k = 0 by omega]; exact trivial
  | j + 1, k, _, _, _, h, q => by
    by_cases z : k = j + 1
    · rw [z]; exact q
    · exact CS_le (by omega) (CS_dn q)
/-- v is the most -/
def MX1 (n : Nat → Int) (s : Nat → Nat → Int) (a b c v : Int) : Prop := 0 ≤ v ∧ ∀ k : Nat, CS n s k a b c ↔ (k : Int) ≤ v
theorem MX1_det {n : Nat → Int} {s : Nat → Nat → Int} {a b c v w : Int} (h : MX1 n s a b c v) (g : MX1 n s a b c w) : v = w := by
  have a1 := (g.2 v.toNat).mp ((h.2 v.toNat).mpr (by have := h.1; omega))
  have a2 := (h.2 w.toNat).mp ((g.2 w.toNat).mpr (by have := g.1; omega))
  have := h.1
  have := g.1
  omega
theorem MX1_end {n : Nat → Int} {s : Nat → Nat → Int} {a b c : Int} (h : n 0 ≤ a ∨ n 1 ≤ b ∨ n 2 ≤ c) : MX1 n s a b c 0 := by
  refine ⟨Int.le_refl _, fun k => ?_⟩
  match k with
  | 0 => exact ⟨fun _ => Int.le_refl _, fun _ => trivial⟩
  | k + 1 =>
    constructor
    · intro ⟨x, y, z, a1, a2, a3, a4, a5, a6, _⟩; omega
    · intro q; omega
theorem MX1_eq {n : Nat → Int} {s : Nat → Nat → Int} {a b c v : Int} (ha : 0 ≤ a ∧ a < n 0) (hb : 0 ≤ b ∧ b < n 1) (hc : 0 ≤ c ∧ c < n 2) (e1 : s 0 a.toNat = s 1 b.toNat) (e2 : s 1 b.toNat = s 2 c.toNat) (h : MX1 n s (a + 1) (b + 1) (c + 1) v) : MX1 n s a b c (1 + v) := by
  refine ⟨by have := h.1; omega, fun k => ?_⟩
  match k with
  | 0 => exact ⟨fun _ => by have := h.1; omega, fun _ => trivial⟩
  | k + 1 =>
    constructor
    · intro ⟨x, y, z, a1, a2, a3, a4, a5, a6, a7, a8, a9⟩
      have := (h.2 k).mp (CS_mono (by omega) (by omega) (by omega) a9)
      omega
    · intro q
      exact ⟨a, b, c, Int.le_refl _, ha.2, Int.le_refl _, hb.2, Int.le_refl _, hc.2, e1, e2, (h.2 k).mpr (by omega)⟩
theorem MX1_ne {n : Nat → Int} {s : Nat → Nat → Int} {a b c u v w t : Int} (hne : ¬ (s 0 a.toNat = s 1 b.toNat ∧ s 1 b.toNat = s 2 c.toNat)) (h1 : MX1 n s (a + 1) b c u) (h2 : MX1 n s a (b + 1) c v) (h3 : MX1 n s a b (c + 1) w) (ht : u ≤ t ∧ v ≤ t ∧ w ≤ t ∧ (t = u ∨ t = v ∨ t = w)) : MX1 n s a b c t := by
  refine ⟨by have := h1.1; omega, fun k => ?_⟩
  match k with
  | 0 => exact ⟨fun _ => by have := h1.1; omega, fun _ => trivial⟩
  | k + 1 =>
    constructor
    · intro ⟨x, y, z, a1, a2, a3, a4, a5, a6, a7, a8, a9⟩
      by_cases zx : a < x
      · have := (h1.2 (k + 1)).mp ⟨x, y, z, by omega, a2, a3, a4, a5, a6, a7, a8, a9⟩
        omega
      · by_cases zy : b < y
        · have := (h2.2 (k + 1)).mp ⟨x, y, z, a1, a2, by omega, a4, a5, a6, a7, a8, a9⟩
          omega
        · by_cases zz : c < z
          · have := (h3.2 (k + 1)).mp ⟨x, y, z, a1, a2, a3, a4, by omega, a6, a7, a8, a9⟩
            omega
          · have e1 : x = a := by omega
            have e2 : y = b := by omega
            have e3 : z = c := by omega
            rw [e1, e2] at a7
            rw [e2, e3] at a8
            exact absurd ⟨a7, a8⟩ hne
    · intro q
      rcases ht.2.2.2 with e | e | e
      · exact CS_mono (by omega) (Int.le_refl _) (Int.le_refl _) ((h1.2 (k + 1)).mpr (by omega))
      · exact CS_mono (Int.le_refl _) (by omega) (Int.le_refl _) ((h2.2 (k + 1)).mpr (by omega))
      · exact CS_mono (Int.le_refl _) (Int.le_refl _) (by omega) ((h3.2 (k + 1)).mpr (by omega))
/-- the next place of a LETTER in a row -/
def NX1 (n : Int) (s : Nat → Int) (f l v : Int) : Prop := (v = -1 ∧ ∀ k : Int, f ≤ k → k < n → s k.toNat ≠ l) ∨ (f ≤ v ∧ v < n ∧ s v.toNat = l ∧ ∀ k : Int, f ≤ k → k < v → s k.toNat ≠ l)
theorem NX1_fn {n : Int} {s : Nat → Int} {f l v w : Int} (hf : 0 ≤ f) (h : NX1 n s f l v) (k : NX1 n s f l w) : v = w := by
  rcases h with ⟨c1, c2⟩ | ⟨c1, c2, c3, c4⟩ <;> rcases k with ⟨d1, d2⟩ | ⟨d1, d2, d3, d4⟩
  · omega
  · exact absurd d3 (c2 w d1 d2)
  · exact absurd c3 (d2 v c1 c2)
  · rcases Int.lt_trichotomy v w with z | z | z
    · exact absurd c3 (d4 v c1 z)
    · exact z
    · exact absurd d3 (c4 w d1 z)
theorem NX1_le {n : Int} {s : Nat → Int} {f l v x : Int} (hf : 0 ≤ f) (h : NX1 n s f l v) (h1 : f ≤ x) (h2 : x < n) (h3 : s x.toNat = l) : v ≠ -1 ∧ f ≤ v ∧ v ≤ x := by
  rcases h with ⟨c1, c2⟩ | ⟨c1, c2, c3, c4⟩
  · exact absurd h3 (c2 x h1 h2)
  · refine ⟨by omega, c1, ?_⟩
    by_cases z : x < v
    · exact absurd h3 (c4 x h1 z)
    · omega
/-- the first LETTER that leads on -/
def HST (n : Nat → Int) (s : Nat → Nat → Int) (F : Int → Int → Int → Int) (a b c l : Int) (x y z : Int) : Prop := NX1 (n 0) (s 0) a l x ∧ NX1 (n 1) (s 1) b l y ∧ NX1 (n 2) (s 2) c l z ∧ x ≠ -1 ∧ y ≠ -1 ∧ z ≠ -1 ∧ F (x + 1) (y + 1) (z + 1) = F a b c - 1
def HLS (n : Nat → Int) (s : Nat → Nat → Int) (F : Int → Int → Int → Int) (a b c l x y z : Int) : Prop := 0 ≤ l ∧ l ≤ 25 ∧ HST n s F a b c l x y z ∧ ∀ k : Int, 0 ≤ k → k < l → ∀ x y z, ¬ HST n s F a b c k x y z
def HPT (n : Nat → Int) (s : Nat → Nat → Int) (F : Int → Int → Int → Int) (f : Nat → Int) : Nat → Int → Int → Int → Prop
  | 0, a, b, c => a = 0 ∧ b = 0 ∧ c = 0
  | k + 1, a, b, c => ∃ p q r x y z, HPT n s F f k p q r ∧ HLS n s F p q r (f k) x y z ∧ a = x + 1 ∧ b = y + 1 ∧ c = z + 1
theorem HPT_0 {n : Nat → Int} {s : Nat → Nat → Int} {F : Int → Int → Int → Int} {f : Nat → Int} : ∀ {k : Nat} {a b c : Int}, HPT n s F f k a b c → (0 ≤ a ∧ 0 ≤ b ∧ 0 ≤ c) ∧ (k ≠ 0 → a ≤ n 0 ∧ b ≤ n 1 ∧ c ≤ n 2)
  | 0, _, _, _, ⟨h1, h2, h3⟩ => ⟨⟨by omega, by omega, by omega⟩, fun q => absurd rfl q⟩
  | k + 1, a, b, c, ⟨p, q, r, x, y, z, h1, ⟨_, _, ⟨g1, g2, g3, g4, g5, g6, _⟩, _⟩, e1, e2, e3⟩ => by
    have i := (HPT_0 h1).1
    rcases g1 with g1 | g1
    · exact absurd g1.1 g4
    · rcases g2 with g2 | g2
      · exact absurd g2.1 g5
      · rcases g3 with g3 | g3
        · exact absurd g3.1 g6
        · have := g1.1; have := g2.1; have := g3.1; have := g1.2.1; have := g2.2.1; have := g3.2.1
          exact ⟨⟨by omega, by omega, by omega⟩, fun _ => ⟨by omega, by omega, by omega⟩⟩
/-- the places that are reached; tables that tell the most there -/
def HI3 (n : Nat → Int) (a b c : Int) : Prop := 0 ≤ a ∧ a ≤ n 0 ∧ 0 ≤ b ∧ b ≤ n 1 ∧ 0 ≤ c ∧ c ≤ n 2
def TM3 (n : Nat → Int) (s : Nat → Nat → Int) (F : Int → Int → Int → Int) : Prop := ∀ a b c : Int, HI3 n a b c → MX1 n s a b c (F a b c)
def TMX (n : Nat → Int) (s : Nat → Nat → Int) (P : Int → Int → Int → Prop) (F : Int → Int → Int → Int) : Prop := ∀ a b c : Int, P a b c → HI3 n a b c → MX1 n s a b c (F a b c)
def PCL (n : Nat → Int) (s : Nat → Nat → Int) (P : Int → Int → Int → Prop) : Prop := P 0 0 0 ∧ ∀ a b c l x y z : Int, 0 ≤ a → 0 ≤ b → 0 ≤ c → P a b c → NX1 (n 0) (s 0) a l x → NX1 (n 1) (s 1) b l y → NX1 (n 2) (s 2) c l z → P (x + 1) (y + 1) (z + 1)
theorem TM3_X {n : Nat → Int} {s : Nat → Nat → Int} {P : Int → Int → Int → Prop} {F : Int → Int → Int → Int} (h : TM3 n s F) : TMX n s P F := fun a b c _ hi => h a b c hi
theorem TMX_eq {n : Nat → Int} {s : Nat → Nat → Int} {P : Int → Int → Int → Prop} {F G : Int → Int → Int → Int} (hF : TMX n s P F) (hG : TMX n s P G) {a b c : Int} (hp : P a b c) (hi : HI3 n a b c) : F a b c = G a b c := MX1_det (hF a b c hp hi) (hG a b c hp hi)
theorem NX1_to {n : Int} {s : Nat → Int} {f l v : Int} (h : NX1 n s f l v) (hv : v ≠ -1) : f ≤ v ∧ v < n := by
  rcases h with h | h
  · exact absurd h.1 hv
  · exact ⟨h.1, h.2.1⟩
theorem HST_i {n : Nat → Int} {s : Nat → Nat → Int} {F : Int → Int → Int → Int} {a b c l x y z : Int} (hi : HI3 n a b c) (h : HST n s F a b c l x y z) : HI3 n (x + 1) (y + 1) (z + 1) := by
  obtain ⟨g1, g2, g3, g4, g5, g6, g7⟩ := h
  have k1 := NX1_to g1 g4
  have k2 := NX1_to g2 g5
  have k3 := NX1_to g3 g6
  obtain ⟨i1, i2, i3, i4, i5, i6⟩ := hi
  exact ⟨by omega, by omega, by omega, by omega, by omega, by omega⟩
theorem HST_F {n : Nat → Int} {s : Nat → Nat → Int} {P : Int → Int → Int → Prop} {F G : Int → Int → Int → Int} (hP : PCL n s P) (hF : TMX n s P F) (hG : TMX n s P G) {a b c l x y z : Int} (hp : P a b c) (hi : HI3 n a b c) (h : HST n s F a b c l x y z) : HST n s G a b c l x y z := by
  have hj := HST_i hi h
  obtain ⟨g1, g2, g3, g4, g5, g6, g7⟩ := h
  have hq := hP.2 a b c l x y z hi.1 hi.2.2.1 hi.2.2.2.2.1 hp g1 g2 g3
  refine ⟨g1, g2, g3, g4, g5, g6, ?_⟩
  rw [← TMX_eq hF hG hq hj, ← TMX_eq hF hG hp hi]
  exact g7
theorem HPT_det {n : Nat → Int} {s : Nat → Nat → Int} {P : Int → Int → Int → Prop} {F G : Int → Int → Int → Int} {f g : Nat → Int} (hP : PCL n s P) (hF : TMX n s P F) (hG : TMX n s P G) (hn : HI3 n 0 0 0) : ∀ {k : Nat} {a b c a' b' c' : Int}, HPT n s F f k a b c → HPT n s G g k a' b' c' → (∀ i, i < k → f i = g i) ∧ a = a' ∧ b = b' ∧ c = c' ∧ P a b c ∧ HI3 n a b c
  | 0, a, b, c, a', b', c', ⟨h1, h2, h3⟩, ⟨g1, g2, g3⟩ => ⟨fun i hi => absurd hi (Nat.not_lt_zero i), by omega, by omega, by omega, by rw [h1, h2, h3]; exact hP.1, by rw [h1, h2, h3]; exact hn⟩
  | k + 1, a, b, c, a', b', c', ⟨p, q, r, x, y, z, h1, h2, e1, e2, e3⟩, ⟨p', q', r', x', y', z', g1, g2, d1, d2, d3⟩ => by
    obtain ⟨r1, r2, r3, r4, hp, hi⟩ := HPT_det hP hF hG hn h1 g1
    subst r2; subst r3; subst r4
    have t : ∀ {l x y z : Int}, HST n s F p q r l x y z → HST n s G p q r l x y z := fun h => HST_F hP hF hG hp hi h
    have t' : ∀ {l x y z : Int}, HST n s G p q r l x y z → HST n s F p q r l x y z := fun h => HST_F hP hG hF hp hi h
    have el : f k = g k := by
      rcases Int.lt_trichotomy (f k) (g k) with w | w | w
      · exact absurd (t h2.2.2.1) (g2.2.2.2 _ h2.1 w _ _ _)
      · exact w
      · exact absurd (t' g2.2.2.1) (h2.2.2.2 _ g2.1 w _ _ _)
    have hs := h2.2.2.1
    have gs := g2.2.2.1
    rw [← el] at gs
    have ex := NX1_fn hi.1 hs.1 gs.1
    have ey := NX1_fn hi.2.2.1 hs.2.1 gs.2.1
    have ez := NX1_fn hi.2.2.2.2.1 hs.2.2.1 gs.2.2.1
    have hq := hP.2 p q r (f k) x y z hi.1 hi.2.2.1 hi.2.2.2.2.1 hp hs.1 hs.2.1 hs.2.2.1
    have hj := HST_i hi hs
    refine ⟨fun j hj => ?_, by omega, by omega, by omega, by rw [e1, e2, e3]; exact hq, by rw [e1, e2, e3]; exact hj⟩
    by_cases w : j < k
    · exact r1 j w
    · rw [show j = k by omega]; exact el
theorem HPT_cut {n : Nat → Int} {s : Nat → Nat → Int} {F : Int → Int → Int → Int} {f : Nat → Int} : ∀ {k i : Nat} {a b c : Int}, HPT n s F f k a b c → i ≤ k → ∃ a b c, HPT n s F f i a b c
  | 0, i, a, b, c, h, hi => ⟨a, b, c, by rw [show i = 0 by omega]; exact h⟩
  | k + 1, i, a, b, c, h, hi => by
    by_cases z : i = k + 1
    · exact ⟨a, b, c, by rw [z]; exact h⟩
    · obtain ⟨p, q, r, x, y, z, h1, _⟩ := h
      exact HPT_cut h1 (by omega)
theorem HPT_f {n : Nat → Int} {s : Nat → Nat → Int} {F : Int → Int → Int → Int} {f g : Nat → Int} : ∀ {k : Nat} {a b c : Int}, (∀ i, i < k → g i = f i) → HPT n s F f k a b c → HPT n s F g k a b c
  | 0, _, _, _, _, h => h
  | k + 1, _, _, _, e, ⟨p, q, r, x, y, z, h1, h2, e3⟩ => ⟨p, q, r, x, y, z, HPT_f (fun i hi => e i (by omega)) h1, by rw [e k (by omega)]; exact h2, e3⟩
theorem NX1_ex (n : Int) (s : Nat → Int) (l : Int) : ∀ (d : Nat) (f : Int), 0 ≤ f → n - f ≤ d → ∃ v, NX1 n s f l v
  | 0, f, _, h => ⟨-1, Or.inl ⟨rfl, fun k a b => by exfalso; omega⟩⟩
  | d + 1, f, h0, h => by
    by_cases q : f < n ∧ s f.toNat = l
    · exact ⟨f, Or.inr ⟨Int.le_refl _, q.1, q.2, fun k a b => by exfalso; omega⟩⟩
    · obtain ⟨v, hv⟩ := NX1_ex n s l d (f + 1) (by omega) (by omega)
      have hf : f < n → s f.toNat ≠ l := fun a b => q ⟨a, b⟩
      rcases hv with ⟨c1, c2⟩ | ⟨c1, c2, c3, c4⟩
      · refine ⟨-1, Or.inl ⟨rfl, fun k a b => ?_⟩⟩
        by_cases w : k = f
        · rw [w]; exact hf (by omega)
        · exact c2 k (by omega) b
      · refine ⟨v, Or.inr ⟨by omega, c2, c3, fun k a b => ?_⟩⟩
        by_cases w : k = f
        · rw [w]; exact hf (by omega)
        · exact c4 k (by omega) b
theorem NX1_an {n : Int} {s : Nat → Int} {l f : Int} (h : 0 ≤ f) : ∃ v, NX1 n s f l v := NX1_ex n s l (n - f).toNat f h (by omega)
def L25h (n : Nat → Int) (s : Nat → Nat → Int) : Prop := ∀ d, d < 3 → ∀ k : Nat, (k : Int) < n d → 0 ≤ s d k ∧ s d k ≤ 25
theorem CS_n {n : Nat → Int} {s : Nat → Nat → Int} : ∀ {k : Nat} {a b c : Int}, a ≤ n 0 → CS n s k a b c → (k : Int) ≤ n 0 - a
  | 0, _, _, _, h, _ => by omega
  | k + 1, a, b, c, h, ⟨x, y, z, a1, a2, a3, a4, a5, a6, a7, a8, a9⟩ => by
    have q := CS_n (a := x + 1) (by omega) a9
    omega
theorem MX1_le {n : Nat → Int} {s : Nat → Nat → Int} {a b c v : Int} (h : MX1 n s a b c v) (ha : a ≤ n 0) : v ≤ n 0 - a := by
  have q := CS_n ha ((h.2 v.toNat).mpr (by have := h.1; omega))
  have := h.1
  omega
theorem CS_two {n : Nat → Int} {s : Nat → Nat → Int} (e1 : n 2 = n 0) (e2 : s 2 = s 0) : ∀ {k : Nat} {a b c : Int}, CS n s k a b c → CS n s k a b a
  | 0, _, _, _, _ => trivial
  | k + 1, a, b, c, ⟨x, y, z, a1, a2, a3, a4, a5, a6, a7, a8, a9⟩ => ⟨x, y, x, a1, a2, a3, a4, a1, by rw [e1]; exact a2, a7, by rw [e2]; exact a7.symm, CS_two e1 e2 a9⟩
/-- where the most is not 0, a LETTER leads on -/
theorem HST_some {n : Nat → Int} {s : Nat → Nat → Int} {F : Int → Int → Int → Int} (hF : TM3 n s F) (hL : L25h n s) {a b c : Int} (hi : HI3 n a b c) (hp : 0 < F a b c) : ∃ l x y z, 0 ≤ l ∧ l ≤ 25 ∧ HST n s F a b c l x y z := by
  have m := hF a b c hi
  obtain ⟨h1, h2, h3, h4, h5, h6⟩ := hi
  obtain ⟨k, hk⟩ : ∃ k : Nat, (F a b c).toNat = k + 1 := ⟨(F a b c).toNat - 1, by omega⟩
  have cs := (m.2 (k + 1)).mpr (by omega)
  obtain ⟨x, y, z, a1, a2, a3, a4, a5, a6, a7, a8, a9⟩ := cs
  have lr := hL 0 (by omega) x.toNat (by omega)
  obtain ⟨x', hx⟩ := NX1_an (n := n 0) (s := s 0) (l := s 0 x.toNat) h1
  obtain ⟨y', hy⟩ := NX1_an (n := n 1) (s := s 1) (l := s 0 x.toNat) h3
  obtain ⟨z', hz⟩ := NX1_an (n := n 2) (s := s 2) (l := s 0 x.toNat) h5
  have lx := NX1_le h1 hx a1 a2 rfl
  have ly := NX1_le h3 hy a3 a4 a7.symm
  have lz := NX1_le h5 hz a5 a6 (by rw [← a8, ← a7])
  refine ⟨s 0 x.toNat, x', y', z', lr.1, lr.2, hx, hy, hz, lx.1, ly.1, lz.1, ?_⟩
  have m2 := hF (x' + 1) (y' + 1) (z' + 1) ⟨by omega, by omega, by omega, by omega, by omega, by omega⟩
  have u1 := (m2.2 k).mp (CS_mono (by omega) (by omega) (by omega) a9)
  have u2 : F (x' + 1) (y' + 1) (z' + 1) + 1 ≤ F a b c := by
    have q := (m.2 ((F (x' + 1) (y' + 1) (z' + 1)).toNat + 1)).mp ?_
    · have := m2.1; omega
    · rcases hx with hx | hx
      · exact absurd hx.1 lx.1
      · rcases hy with hy | hy
        · exact absurd hy.1 ly.1
        · rcases hz with hz | hz
          · exact absurd hz.1 lz.1
          · exact ⟨x', y', z', lx.2.1, hx.2.1, ly.2.1, hy.2.1, lz.2.1, hz.2.1, by rw [hx.2.2.1, hy.2.2.1], by rw [hy.2.2.1, hz.2.2.1], (m2.2 _).mpr (by have := m2.1; omega)⟩
  omega
/-- all that is told of HIDDEN: how long, its LETTERS -/
def HDS (n : Nat → Int) (s : Nat → Nat → Int) (v : Int) (f : Nat → Int) : Prop := ∃ F a b c, TM3 n s F ∧ v = F 0 0 0 ∧ HPT n s F f v.toNat a b c
def HSF (n : Nat → Int) (s : Nat → Nat → Int) (v : Int) (f : Nat → Int) : Prop := L25h n s → HDS n s v f
