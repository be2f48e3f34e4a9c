/-! left, may, book: what they answer, on both sides -/
def LFT (ok : Prop) (x2 l w v : Int32) : Prop := (¬ ok ∧ v.toInt = -1) ∨ (ok ∧ x2.toInt = 0 ∧ v = l) ∨ (ok ∧ x2.toInt = 1 ∧ v = w) ∨ (ok ∧ x2.toInt ≠ 0 ∧ x2.toInt ≠ 1 ∧ v.toInt = -1)
def LFR (ok : Prop) (m : Nat → Nat → Int32) (b p : Nat) (x2 v : Int32) : Prop := (¬ ok ∧ v.toInt = -1) ∨ (ok ∧ ∃ w, IsN (m 128) (40 * b) (m 124 b).toInt.toNat p w ∧ ((x2.toInt = 0 ∧ v = m 125 (40 * b + w)) ∨ (x2.toInt = 1 ∧ v.toInt = w)))
def MAY (ok : Prop) (x3 : Int32) (ff fb : Prop) (pr : Int32 → Prop) (v : Int32) : Prop := (¬ ok ∧ v.toInt = -1) ∨ (ok ∧ x3.toInt = 0 ∧ ((v.toInt = 1 ∧ ff) ∨ (v.toInt = 0 ∧ fb))) ∨ (ok ∧ x3.toInt = 1 ∧ pr v)
def BOK (n : Int) (c : Nat → Nat → Int32) (num : Nat → Int32) (x y v : Int32) : Prop := ((x.toInt < 0 ∨ n ≤ x.toInt) ∧ v.toInt = -1000) ∨ ((0 ≤ x.toInt ∧ x.toInt < n) ∧ (0 ≤ y.toInt ∧ y.toInt ≤ 4) ∧ v = c y.toInt.toNat x.toInt.toNat) ∨ ((0 ≤ x.toInt ∧ x.toInt < n) ∧ 10 ≤ y.toInt ∧ y.toInt - 10 < (c 4 x.toInt.toNat).toInt ∧ v = num (9 * x.toInt.toNat + (y.toInt - 10).toNat)) ∨ ((0 ≤ x.toInt ∧ x.toInt < n) ∧ ¬ (0 ≤ y.toInt ∧ y.toInt ≤ 4) ∧ ¬ (10 ≤ y.toInt ∧ y.toInt - 10 < (c 4 x.toInt.toNat).toInt) ∧ v.toInt = -1000)
theorem MAY_det {ok ok2 ff fb ff2 fb2 : Prop} {pr pr2 : Int32 → Prop} {x v w : Int32} (h : MAY ok x ff fb pr v) (h2 : MAY ok2 x ff2 fb2 pr2 w) (e : ok ↔ ok2) (d1 : ok → fb → ff2 → False) (d2 : ok → ff → fb2 → False) (d3 : ok → ∀ y z, pr y → pr2 z → y = z) : v = w := by
  rcases h with ⟨a1, a2⟩ | ⟨a1, a2, a3⟩ | ⟨a1, a2, a3⟩ <;> rcases h2 with ⟨c1, c2⟩ | ⟨c1, c2, c3⟩ | ⟨c1, c2, c3⟩
  · exact Int32.toInt_inj.mp (a2.trans c2.symm)
  · exact absurd (e.mpr c1) a1
  · exact absurd (e.mpr c1) a1
  · exact absurd (e.mp a1) c1
  · rcases a3 with ⟨a3, a4⟩ | ⟨a3, a4⟩ <;> rcases c3 with ⟨c3, c4⟩ | ⟨c3, c4⟩
    · exact Int32.toInt_inj.mp (a3.trans c3.symm)
    · exact (d2 a1 a4 c4).elim
    · exact (d1 a1 a4 c4).elim
    · exact Int32.toInt_inj.mp (a3.trans c3.symm)
  · omega
  · exact absurd (e.mp a1) c1
  · omega
  · exact d3 a1 _ _ a3 c3
theorem BOK_det {n n2 : Int} {c c2 : Nat → Nat → Int32} {num num2 : Nat → Int32} {x y v w : Int32} (h : BOK n c num x y v) (h2 : BOK n2 c2 num2 x y w) (e : n = n2) (hc : ∀ i : Nat, (i : Int) < n → ∀ q, q ≤ 4 → c q i = c2 q i) (hn : ∀ i : Nat, (i : Int) < n → ∀ k : Nat, (k : Int) < (c 4 i).toInt → num (9 * i + k) = num2 (9 * i + k)) : v = w := by
  subst e
  by_cases z : x.toInt < 0 ∨ n ≤ x.toInt
  · rcases h with ⟨a1, a2⟩ | ⟨a1, _⟩ | ⟨a1, _⟩ | ⟨a1, _⟩
    · rcases h2 with ⟨c1, c2'⟩ | ⟨c1, _⟩ | ⟨c1, _⟩ | ⟨c1, _⟩
      · exact Int32.toInt_inj.mp (a2.trans c2'.symm)
      · omega
      · omega
      · omega
    · omega
    · omega
    · omega
  · have e4 := hc x.toInt.toNat (by omega) 4 (by omega)
    rcases h with ⟨a1, a2⟩ | ⟨a1, a2, a3⟩ | ⟨a1, a2, a3, a4⟩ | ⟨a1, a2, a3, a4⟩
    · exact absurd a1 z
    · rcases h2 with ⟨c1, _⟩ | ⟨c1, c3, c4⟩ | ⟨c1, c3, _⟩ | ⟨c1, c3, _⟩
      · exact absurd c1 z
      · rw [a3, c4]; exact hc _ (by omega) _ (by omega)
      · omega
      · exact absurd a2 c3
    · rcases h2 with ⟨c1, _⟩ | ⟨c1, c3, c4⟩ | ⟨c1, c3, c4, c5⟩ | ⟨c1, c3, c4, _⟩
      · exact absurd c1 z
      · omega
      · rw [a4, c5]; exact hn _ (by omega) _ (by omega)
      · rw [e4] at a3; exact absurd ⟨a2, a3⟩ c4
    · rcases h2 with ⟨c1, _⟩ | ⟨c1, c3, c4⟩ | ⟨c1, c3, c4, c5⟩ | ⟨c1, c3, c4, c5⟩
      · exact absurd c1 z
      · exact absurd c3 a2
      · rw [← e4] at c4; exact absurd ⟨c3, c4⟩ a3
      · exact Int32.toInt_inj.mp (a4.trans c5.symm)
section JE
variable {la lb : Nat} {m m1 m2 : Nat → Nat → Int32}
theorem left_num {b : Nat} {mc mr : Nat → Nat → Int32} (hS : SB2 mc mr) (h : REST la lb mc mr) (hb : (b : Int) < (mc 0 2).toInt) {p w : Nat} (hp : (p : Int) < (mc (4 + 7 * b + 3) 1).toInt) (w1 : IsN (mr 128) (40 * b) (mr 124 b).toInt.toNat p w) : 0 ≤ (mc (4 + 7 * b + 5) p).toInt ∧ w = (mc (4 + 7 * b + 5) p).toInt.toNat := by
  obtain ⟨hA, hR, _⟩ := h
  obtain ⟨b1, b2, b8, b3⟩ := hS
  obtain ⟨⟨n0, n40⟩, n1, n2⟩ := b3 b hb
  have q := RST_at (p := (p : Int)) (hR b hb) (by omega) hp
  rw [show ((p : Nat) : Int).toNat = p by omega] at q
  obtain ⟨q1, q2, q3⟩ := q
  have eN : (mr 124 b).toInt.toNat = wrN mc (4 + 7 * b) := by unfold wrN; rw [show 4 + 7 * b + 1 = 5 + 7 * b by omega, ← n1]
  have wn40 : wrN mc (4 + 7 * b) ≤ 40 := by unfold wrN; rw [show 4 + 7 * b + 1 = 5 + 7 * b by omega]; omega
  rw [eN] at w1
  have w1' : IsN (mc (4 + 7 * b + 6)) 0 (wrN mc (4 + 7 * b)) p w := IsN_eq (f := mr 128) (b := 40 * b) (c := 0) (fun j hj => by rw [Nat.zero_add]; exact hA b j (by omega) (by omega)) w1
  exact ⟨q1, IsN_one w1' q2⟩
theorem left_EA {x0 x1 x2 v w : Int32} (I : IV BB m) (h : EQA la lb m) (c : LFT ((0 ≤ x0.toInt ∧ x0.toInt < (m 0 2).toInt) ∧ 0 ≤ x1.toInt ∧ x1.toInt < (m (4 + 7 * x0.toInt.toNat + 3) 1).toInt) x2 (m (4 + 7 * x0.toInt.toNat + 4) x1.toInt.toNat) (m (4 + 7 * x0.toInt.toNat + 5) x1.toInt.toNat) v)
    (r : LFR ((0 ≤ x0.toInt ∧ x0.toInt < (m1 123 0).toInt) ∧ (0 ≤ x1.toInt ∧ x1.toInt < nu m1 x0.toInt 0) ∧ 0 ≤ x2.toInt ∧ x2.toInt ≤ 1) m1 x0.toInt.toNat x1.toInt.toNat x2 w) (e : fr (wl []) m m1) : w = v ∧ EQA la lb m1 := by
  have em : m1 = m := funext fun a => funext fun i => e a i rfl
  subst em
  refine ⟨?_, h⟩
  have hS := EQA_SB I h
  have hz : (0 ≤ x0.toInt ∧ x0.toInt < (m1 0 2).toInt) → (m1 (4 + 7 * x0.toInt.toNat + 3) 1).toInt = nu m1 x0.toInt 0 := fun q => by
    have z := SZ_nu (b := x0.toInt.toNat) hS h.2 (by omega)
    rw [show ((x0.toInt.toNat : Nat) : Int) = x0.toInt by omega] at z
    exact z
  have hc0 : (m1 0 2).toInt = (m1 123 0).toInt := hS.2.1
  by_cases z : 0 ≤ x0.toInt ∧ x0.toInt < (m1 0 2).toInt
  · have zz := hz z
    rcases r with ⟨r1, r2⟩ | ⟨r1, w', r2, r3⟩
    · rcases c with ⟨c1, c2⟩ | ⟨c1, c2, c3⟩ | ⟨c1, c2, c3⟩ | ⟨c1, c2, c3, c4⟩
      · exact Int32.toInt_inj.mp (r2.trans c2.symm)
      · exact absurd ⟨⟨z.1, by omega⟩, ⟨c1.2.1, by omega⟩, by omega, by omega⟩ r1
      · exact absurd ⟨⟨z.1, by omega⟩, ⟨c1.2.1, by omega⟩, by omega, by omega⟩ r1
      · exact Int32.toInt_inj.mp (r2.trans c4.symm)
    · have r12 := r1.2
      have n := left_num (p := x1.toInt.toNat) hS h.2 (by omega) (by omega) r2
      have l := left_row (r := fun _ => m1 125 (40 * x0.toInt.toNat + w')) (p := x1.toInt.toNat) hS h.2 (by omega) (by omega) ⟨w', r2, rfl⟩
      rcases c with ⟨c1, c2⟩ | ⟨c1, c2, c3⟩ | ⟨c1, c2, c3⟩ | ⟨c1, c2, c3, c4⟩
      · exact absurd ⟨z, by omega, by omega⟩ c1
      · rcases r3 with ⟨r3, r4⟩ | ⟨r3, r4⟩
        · rw [r4, c3]; exact l
        · omega
      · rcases r3 with ⟨r3, r4⟩ | ⟨r3, r4⟩
        · omega
        · exact Int32.toInt_inj.mp (by rw [c3]; omega)
      · omega
  · rcases r with ⟨r1, r2⟩ | ⟨r1, w', r2, r3⟩
    · rcases c with ⟨c1, c2⟩ | ⟨c1, _⟩ | ⟨c1, _⟩ | ⟨c1, _⟩
      · exact Int32.toInt_inj.mp (r2.trans c2.symm)
      · exact absurd c1.1 z
      · exact absurd c1.1 z
      · exact absurd c1.1 z
    · exact absurd ⟨r1.1.1, by omega⟩ z
theorem may_EA {x0 x1 x2 x3 v w : Int32} {t : Int → Int} (I : IV BB m) (hl : la = 77 ∨ la = 88) (h : EQA la lb m)
    (c : MAY ((0 ≤ x0.toInt ∧ x0.toInt < (m 0 2).toInt) ∧ (0 ≤ x1.toInt ∧ x1.toInt < (m (4 + 7 * x0.toInt.toNat + 3) 1).toInt) ∧ (0 ≤ x2.toInt ∧ x2.toInt ≤ 7) ∧ 0 ≤ x3.toInt ∧ x3.toInt ≤ 1) x3 (FFc m la t x0.toInt.toNat x1.toInt.toNat x2.toInt) (FBc m la t x0.toInt.toNat x1.toInt.toNat x2.toInt) (fun v => PRc m la t x0.toInt.toNat x1.toInt.toNat x2.toInt v) v)
    (r : MAY ((0 ≤ x0.toInt ∧ x0.toInt < (m1 123 0).toInt) ∧ (0 ≤ x1.toInt ∧ x1.toInt < nu m1 x0.toInt 0) ∧ (0 ≤ x2.toInt ∧ x2.toInt ≤ 7) ∧ 0 ≤ x3.toInt ∧ x3.toInt ≤ 1) x3 (FFr m1 t x0.toInt.toNat x1.toInt.toNat x2.toInt) (FBr m1 t x0.toInt.toNat x1.toInt.toNat x2.toInt) (fun v => PRr m1 t x0.toInt.toNat x1.toInt.toNat x2.toInt v) w)
    (fn : fr wN m m1) (rR : ∀ a i, isR a i = true → m2 a i = m1 a i) (rf : ∀ a i, isF a i = true → m2 a i = m1 a i) : w = v ∧ EQA la lb m2 := by
  have fo : fr wO m m1 := fun a i q => fn a i (wN_wO a i q)
  have hR := REST_m I hl h fo
  have hS := SB2_m I h fo
  have hn : (m la 7).toInt = (m1 123 20).toInt := by obtain ⟨_, _, _, q⟩ := hR.2.2.2.2.1; exact q
  have hc0 : (m 0 2).toInt = (m1 123 0).toInt := hS.2.1
  have hz : (0 ≤ x0.toInt ∧ x0.toInt < (m 0 2).toInt) → (m (4 + 7 * x0.toInt.toNat + 3) 1).toInt = nu m1 x0.toInt 0 := fun q => by
    have e := SZ_nu (b := x0.toInt.toNat) hS hR (by omega)
    rw [show ((x0.toInt.toNat : Nat) : Int) = x0.toInt by omega] at e
    exact e
  refine ⟨(MAY_det c r ?_ (fun ok a1 a2 => FB_FF hS hR.1 hn (by have := ok.1; omega) a1 a2) (fun ok a1 a2 => FF_FB hS hR.1 hn (by have := ok.1; omega) a1 a2) (fun ok y z a1 a2 => PR_eq hS hR.1 hn (by have := ok.1; omega) a1 a2)).symm, EQA_k I hl h (fun a i q => (rR a i q).trans (fn a i (wN_isR q))) (fun a i q => (rf a i q).trans (fn a i (wN_isF q)))⟩
  constructor
  · intro q; have := hz q.1; exact ⟨⟨q.1.1, by omega⟩, ⟨q.2.1.1, by omega⟩, q.2.2⟩
  · intro q; have := hz ⟨q.1.1, by omega⟩; exact ⟨⟨q.1.1, by omega⟩, ⟨q.2.1.1, by omega⟩, q.2.2⟩
theorem book_EA {x0 x1 v w : Int32} (h : EQA la lb m) (c : BOK (m 97 6).toInt (fun q i => m (98 + q) i) (m 103) x0 x1 v) (r : BOK (m1 123 3).toInt (fun q i => m1 (143 + q) i) (m1 148) x0 x1 w) (e : fr (wl []) m m1) : w = v ∧ EQA la lb m1 := by
  have em : m1 = m := funext fun a => funext fun i => e a i rfl
  subst em
  have hB := h.2.2.2.1
  exact ⟨(BOK_det c r hB.1 (fun i hi q hq => (hB.2 i hi).1 q hq) (fun i hi k hk => (hB.2 i hi).2 k hk)).symm, h⟩
end JE
/-- cheapest -/
def CHPc (ok : Prop) (m : Nat → Nat → Int32) (la : Nat) (t : Int → Int) (b : Nat) (k : Int) (r dd : Nat → Int32) (n0 n1 : Nat) (x : Int32) (v : Int) : Prop := (¬ ok ∧ v = -1) ∨ (ok ∧ ∃ (c : Nat → Option Int) (pr : Nat → Int32), CKc m la t b k n0 c pr ∧ ((ctv r dd c n0 n1 n0 0 = none ∧ v = -2) ∨ (∃ (u : Int) (f : Nat → Int32), ctv r dd c n0 n1 n0 0 = some u ∧ STS r dd c n0 n1 f ∧ 0 ≤ u ∧ ((x.toInt = -1 ∧ v = u) ∨ (0 ≤ x.toInt ∧ v = (f x.toInt.toNat).toInt)))))
def CHPr (ok : Prop) (m : Nat → Nat → Int32) (t : Int → Int) (b : Nat) (k : Int) (n0 n1 i : Nat) (x : Int32) (v : Int) : Prop := (¬ ok ∧ v = -1) ∨ (ok ∧ ∃ (c : Nat → Option Int) (pr r dd : Nat → Int32), CKr m t b k n0 c pr ∧ (∀ p, p < n0 → ∃ w, IsN (m 128) (40 * b) (m 124 b).toInt.toNat p w ∧ r p = m 125 (40 * b + w)) ∧ (∀ k, k < n1 → dd k = m 127 (16 * i + k)) ∧ ((ctv r dd c n0 n1 n0 0 = none ∧ v = -2) ∨ (∃ (u : Int) (f : Nat → Int32), ctv r dd c n0 n1 n0 0 = some u ∧ STS r dd c n0 n1 f ∧ 0 ≤ u ∧ ((x.toInt = -1 ∧ v = u) ∨ (0 ≤ x.toInt ∧ v = (f x.toInt.toNat).toInt)))))
section CE
variable {la lb : Nat} {m m1 m2 : Nat → Nat → Int32}
theorem cheapest_EA {x0 x1 x2 x3 v w : Int32} {t : Int → Int} (I : IV BB m) (hl : la = 77 ∨ la = 88) (h : EQA la lb m)
    (c : CHPc ((0 ≤ x0.toInt ∧ x0.toInt < (m 0 2).toInt) ∧ (ddv m x1).toInt = 1 ∧ (0 ≤ x2.toInt ∧ x2.toInt ≤ 7) ∧ -1 ≤ x3.toInt ∧ x3.toInt < (m (61 + 2 * x1.toInt.toNat) 1).toInt) m la t x0.toInt.toNat x2.toInt (m (4 + 7 * x0.toInt.toNat + 4)) (m (62 + 2 * x1.toInt.toNat)) (m (4 + 7 * x0.toInt.toNat + 3) 1).toInt.toNat (m (61 + 2 * x1.toInt.toNat) 1).toInt.toNat x3 v.toInt)
    (r : CHPr ((0 ≤ x0.toInt ∧ x0.toInt < (m1 123 0).toInt) ∧ (idr m1 x1).toInt = 1 ∧ (0 ≤ x2.toInt ∧ x2.toInt ≤ 7) ∧ -1 ≤ x3.toInt ∧ x3.toInt < (m1 126 x1.toInt.toNat).toInt) m1 t x0.toInt.toNat x2.toInt (nu m1 x0.toInt 0).toNat (m1 126 x1.toInt.toNat).toInt.toNat x1.toInt.toNat x3 w.toInt)
    (fn : fr wN m m1) (rR : ∀ a i, isR a i = true → m2 a i = m1 a i) (rf : ∀ a i, isF a i = true → m2 a i = m1 a i) : w = v ∧ EQA la lb m2 := by
  have fo : fr wO m m1 := fun a i q => fn a i (wN_wO a i q)
  have hR := REST_m I hl h fo
  have hS := SB2_m I h fo
  have hn : (m la 7).toInt = (m1 123 20).toInt := by obtain ⟨_, _, _, q⟩ := hR.2.2.2.2.1; exact q
  have hc0 : (m 0 2).toInt = (m1 123 0).toInt := hS.2.1
  have hdd : (ddv m x1).toInt = 1 ↔ (idr m1 x1).toInt = 1 := by
    have e : idr m1 x1 = idr m x1 := by unfold idr; rw [fo 123 4 rfl]
    rw [e]
    exact dd_1 I h.1
  have h126 : (idr m1 x1).toInt = 1 → (m (61 + 2 * x1.toInt.toNat) 1).toInt = (m1 126 x1.toInt.toNat).toInt := fun q => by
    have hx := FGH_ok q
    rw [fo 126 _ rfl]
    exact (dd_row (i := x1.toInt.toNat) h.1 (by omega)).1
  refine ⟨?_, EQA_k I hl h (fun a i q => (rR a i q).trans (fn a i (wN_isR q))) (fun a i q => (rf a i q).trans (fn a i (wN_isF q)))⟩
  rcases c with ⟨c1, c2⟩ | ⟨c1, cc, pc, cK, c2⟩ <;> rcases r with ⟨r1, r2⟩ | ⟨r1, cr, pr, rr, dr, rK, rR', rD, r2⟩
  · exact Int32.toInt_inj.mp (r2.trans c2.symm)
  · have z := h126 r1.2.1
    exact absurd ⟨⟨r1.1.1, by rw [hc0]; exact r1.1.2⟩, hdd.mpr r1.2.1, r1.2.2.1, r1.2.2.2.1, by rw [z]; exact r1.2.2.2.2⟩ c1
  · have z := h126 (hdd.mp c1.2.1)
    exact absurd ⟨⟨c1.1.1, by rw [← hc0]; exact c1.1.2⟩, hdd.mp c1.2.1, c1.2.2.1, c1.2.2.2.1, by rw [← z]; exact c1.2.2.2.2⟩ r1
  · have c10 := c1.1
    have ex : ((x0.toInt.toNat : Nat) : Int) = x0.toInt := by omega
    have hb : ((x0.toInt.toNat : Nat) : Int) < (m 0 2).toInt := by omega
    have hx1 := FGH_ok r1.2.1
    have hz := SZ_nu (b := x0.toInt.toNat) hS hR hb
    rw [ex] at hz
    have hn0 : (nu m1 x0.toInt 0).toNat = (m (4 + 7 * x0.toInt.toNat + 3) 1).toInt.toNat := by rw [hz]
    have d1 := dd_row (i := x1.toInt.toNat) h.1 (by omega)
    have hn1 : (m1 126 x1.toInt.toNat).toInt.toNat = (m (61 + 2 * x1.toInt.toNat) 1).toInt.toNat := by rw [fo 126 _ rfl, d1.1]
    rw [hn0] at rK rR' r2
    rw [hn1] at rD r2
    have hr : ∀ p, p < (m (4 + 7 * x0.toInt.toNat + 3) 1).toInt.toNat → rr p = m (4 + 7 * x0.toInt.toNat + 4) p := fun p hp => left_row hS hR hb (by omega) (rR' p hp)
    have hd : ∀ k, k < (m (61 + 2 * x1.toInt.toNat) 1).toInt.toNat → dr k = m (62 + 2 * x1.toInt.toNat) k := fun k hk => by
      rw [rD k hk, fo 127 _ rfl]
      exact d1.2 k (by have := d1.1; omega)
    have hc : ∀ p, p < (m (4 + 7 * x0.toInt.toNat + 3) 1).toInt.toNat → cr p = cc p := fun p hp => (CKcr_eq hS hR.1 hn hb cK rK hp).1
    rw [ctv_eq hr hd hc _ (Nat.le_refl _)] at r2
    rcases c2 with ⟨c2, c3⟩ | ⟨u, f, c2, c3, c4, c5⟩ <;> rcases r2 with ⟨r2, r3⟩ | ⟨u2, f2, r2, r3, r4, r5⟩
    · exact Int32.toInt_inj.mp (r3.trans c3.symm)
    · rw [c2] at r2; cases r2
    · rw [c2] at r2; cases r2
    · have eu : u2 = u := by rw [c2] at r2; cases r2; rfl
      have hne : ctv (m (4 + 7 * x0.toInt.toNat + 4)) (m (62 + 2 * x1.toInt.toNat)) cc (m (4 + 7 * x0.toInt.toNat + 3) 1).toInt.toNat (m (61 + 2 * x1.toInt.toNat) 1).toInt.toNat (m (4 + 7 * x0.toInt.toNat + 3) 1).toInt.toNat 0 ≠ none := by rw [c2]; exact fun q => by cases q
      have hf : ∀ j, j < (m (61 + 2 * x1.toInt.toNat) 1).toInt.toNat → f2 j = f j := fun j hj => STS_det hne (STS_q hr hd hc r3) c3 hj
      have c1x := c1.2.2.2
      rcases c5 with ⟨c5, c6⟩ | ⟨c5, c6⟩ <;> rcases r5 with ⟨r5, r6⟩ | ⟨r5, r6⟩
      · exact Int32.toInt_inj.mp (by omega)
      · omega
      · omega
      · rw [hf _ (by omega)] at r6
        exact Int32.toInt_inj.mp (r6.trans c6.symm)
end CE
