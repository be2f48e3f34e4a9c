/-! both sides alike in all that answers depend on, after each call -/
abbrev lF : List (Nat × Nat × Option Nat) := [(0, 0, some 7), (1, 1, some 1), (2, 2, none), (61, 76, none), (123, 123, some 1), (123, 123, some 4), (123, 123, some 11), (125, 125, none), (126, 126, none), (127, 127, none), (129, 129, none)]
def isF : Nat → Nat → Bool := wl lF
theorem isW_RF {a i : Nat} (h : isW a = true) : isR a i = true ∨ isF a i = true := by
  have := isW_b h
  by_cases z : a ≤ 59
  · exact Or.inl (isR_lo (by omega) z)
  · refine Or.inr (wl_mem.mpr ⟨(61, 76, none), by decide, ?_⟩)
    simp only [wl1, Bool.and_eq_true, Nat.ble_eq]
    exact ⟨⟨by omega, by omega⟩, trivial⟩
section EA
variable {la lb : Nat} {m m1 m2 : Nat → Nat → Int32}
theorem EQW_RF (I : IV BB m) (h : EQW m) (r : ∀ a i, isR a i = true → m2 a i = m a i) (f : ∀ a i, isF a i = true → m2 a i = m a i) : EQW m2 :=
  EQW_k I h (EQK_k h.1 (f 0 7 rfl) (f 123 1 rfl) (r 0 2 rfl) (r 123 0 rfl) (f 1 1 rfl) (f 123 11 rfl) (fun j => f 2 j rfl) (fun j => f 129 j rfl)) (fun a j q => (isW_RF q).elim (r a j) (f a j)) (fun j => r 124 j rfl) (fun j => f 125 j rfl) (fun j => f 126 j rfl) (fun j => f 127 j rfl) (f 123 4 rfl) (r 0 2 rfl)
theorem EQA_k (I : IV BB m) (hl : la = 77 ∨ la = 88) (h : EQA la lb m) (r : ∀ a i, isR a i = true → m2 a i = m a i) (f : ∀ a i, isF a i = true → m2 a i = m a i) : EQA la lb m2 :=
  ⟨EQW_RF I h.1 r f, REST_k hl (I 0 2).2 h.2 (fun a i _ q => r a i q) (fun a i _ q => r a i q)⟩
theorem wN_isF {a i : Nat} (h : isF a i = true) : wN a i = false := wg_no (K := lF) (by decide) h
theorem wO_isF {a i : Nat} (h : isF a i = true) : wO a i = false := wg_no (K := lF) (by decide) h
theorem wl_nF {l : List (Nat × Nat × Option Nat)} {a i : Nat} (h : (lF.all (fun p => l.all (fun q => dsj p q))) = true) (hk : isF a i = true) : wl l a i = false := wl_no h hk
abbrev lRr : List (Nat × Nat × Option Nat) := [(123, 123, some 0), (123, 123, some 2), (123, 123, some 3), (123, 123, some 20), (124, 124, none), (128, 128, none), (136, 140, none), (143, 148, none)]
theorem wO_hi {a i : Nat} (h1 : 123 ≤ a) (h : isR a i = true) : wO a i = false := by
  have : wl lRr a i = true := by
    obtain ⟨q, hq, h2⟩ := wl_mem.mp h
    refine wl_mem.mpr ⟨q, ?_, h2⟩
    obtain ⟨q1, q2, q3⟩ := q
    simp only [wl1, Bool.and_eq_true, Nat.ble_eq] at h2
    simp only [List.mem_cons, List.not_mem_nil, or_false, Prod.mk.injEq] at hq
    rcases hq with ⟨rfl, rfl, rfl⟩ | ⟨rfl, rfl, rfl⟩ | ⟨rfl, rfl, rfl⟩ | ⟨rfl, rfl, rfl⟩ | ⟨rfl, rfl, rfl⟩ | ⟨rfl, rfl, rfl⟩ | ⟨rfl, rfl, rfl⟩ | ⟨rfl, rfl, rfl⟩ | ⟨rfl, rfl, rfl⟩ | ⟨rfl, rfl, rfl⟩ | ⟨rfl, rfl, rfl⟩ | ⟨rfl, rfl, rfl⟩ | ⟨rfl, rfl, rfl⟩ | ⟨rfl, rfl, rfl⟩ | ⟨rfl, rfl, rfl⟩ | ⟨rfl, rfl, rfl⟩ | ⟨rfl, rfl, rfl⟩ | ⟨rfl, rfl, rfl⟩ <;> first | (exfalso; omega) | decide
  exact wg_no (K := lRr) (by decide) this
/-- all class's places that a reference's call leaves -/
theorem wl_lo {l : List (Nat × Nat × Option Nat)} {a i : Nat} (h : l.all (fun q => Nat.ble 123 q.1) = true) (ha : a ≤ 122) : wl l a i = false := by
  cases hc : wl l a i with
  | false => rfl
  | true =>
    obtain ⟨q, hq, h1⟩ := wl_mem.mp hc
    have h2 := List.all_eq_true.mp h q hq
    obtain ⟨q1, q2, q3⟩ := q
    simp only [wl1, Bool.and_eq_true, Nat.ble_eq] at h1
    simp only [Nat.ble_eq] at h2
    omega
/-- the end of a call that strikes: the class's places from m1, the reference's from m2 -/
theorem EQA_end (I : IV BB m) (hl : la = 77 ∨ la = 88) (h : EQA la lb m) (h2 : REST la lb m1 m2) (c : fr wO m m1) (rl : ∀ a i, a ≤ 122 → m2 a i = m1 a i) (rf : ∀ a i, isF a i = true → m2 a i = m1 a i) (r0 : m2 123 0 = m1 123 0) (r4 : ∀ j, m2 124 j = m1 124 j) : EQA la lb m2 := by
  obtain ⟨k2, k7, kl2, kl7, kla, kw⟩ := wO_keep hl c
  have cf : ∀ a i, isF a i = true → m2 a i = m a i := fun a i q => (rf a i q).trans (c a i (wO_isF q))
  refine ⟨EQW_k I h.1 (EQK_k h.1.1 (cf 0 7 rfl) (cf 123 1 rfl) ((rl 0 2 (by omega)).trans k2) (r0.trans (c 123 0 rfl)) (cf 1 1 rfl) (cf 123 11 rfl) (fun j => cf 2 j rfl) (fun j => cf 129 j rfl)) (fun a j q => (rl a j (by have := isW_b q; omega)).trans (kw a j q)) (fun j => (r4 j).trans (c 124 j rfl)) (fun j => cf 125 j rfl) (fun j => cf 126 j rfl) (fun j => cf 127 j rfl) (cf 123 4 rfl) ((rl 0 2 (by omega)).trans k2), REST_k hl ?_ h2 (fun a i q _ => rl a i q) (fun _ _ _ _ => rfl)⟩
  rw [k2]
  exact (I 0 2).2
theorem REST_m (I : IV BB m) (hl : la = 77 ∨ la = 88) (h : EQA la lb m) (c : fr wO m m1) : REST la lb m m1 := REST_k hl (I 0 2).2 h.2 (fun _ _ _ _ => rfl) (fun a i q1 q2 => c a i (wO_hi q1 q2))
theorem SB2_m (I : IV BB m) (h : EQA la lb m) (c : fr wO m m1) : SB2 m m1 := SB2_k (EQA_SB I h) rfl rfl (fun _ _ _ _ => rfl) (c 123 0 rfl) (c 123 1 rfl) (fun j => c 124 j rfl) (fun j => c 125 j rfl)
theorem wN_wO : ∀ c i, wO c i = false → wN c i = false := wg_g (by decide)
theorem LAWr_c {t : Int → Int} {n : Nat} (h : LAWr m t n) (c : fr wO m m1) : LAWr m1 t n := LAWr_eq h (fun a j h1 h2 => c a j (wO_hi (by omega) (isR_cr h1 h2)))
/-- strike -/
theorem strike_EA {b p : Nat} {x0 x1 x2 x3 v w : Int32} {t : Int → Int} (I : IV BB m) (hl : la = 77 ∨ la = 88) (h : EQA la lb m)
    (c : STRK ((0 ≤ x0.toInt ∧ x0.toInt < (m 0 2).toInt) ∧ (0 ≤ x3.toInt ∧ x3.toInt ≤ 7) ∧ (1 ≤ x2.toInt ∧ x2.toInt ≤ 9) ∧ 0 ≤ x1.toInt ∧ x1.toInt + x2.toInt ≤ (m (4 + 7 * x0.toInt.toNat + 3) 1).toInt) (fun k => FBc m la t x0.toInt.toNat (x1.toInt.toNat + k) x3.toInt) (fun k => FFc m la t x0.toInt.toNat (x1.toInt.toNat + k) x3.toInt) (fun k v => PRc m la t x0.toInt.toNat (x1.toInt.toNat + k) x3.toInt v) (60 ≤ (m 97 6).toInt) x2.toInt.toNat (fr wN m m1) (fun v => m1 0 8 = m 0 8 ∧ STKc m m1 (4 + 7 * x0.toInt.toNat) x0.toInt.toNat x1.toInt.toNat x2.toInt.toNat x3 v) v)
    (r : STRK ((0 ≤ x0.toInt ∧ x0.toInt < (m1 123 0).toInt) ∧ (0 ≤ x3.toInt ∧ x3.toInt ≤ 7) ∧ (1 ≤ x2.toInt ∧ x2.toInt ≤ 9) ∧ 0 ≤ x1.toInt ∧ x1.toInt + x2.toInt ≤ nu m1 x0.toInt 0) (fun k => FBr m1 t x0.toInt.toNat (x1.toInt.toNat + k) x3.toInt) (fun k => FFr m1 t x0.toInt.toNat (x1.toInt.toNat + k) x3.toInt) (fun k v => PRr m1 t x0.toInt.toNat (x1.toInt.toNat + k) x3.toInt v) ((m1 123 3).toInt = 60) x2.toInt.toNat (∀ a j, isR a j = true → m2 a j = m1 a j) (fun v => STKr m1 m2 x0.toInt.toNat x1.toInt.toNat x2.toInt.toNat x3 v) w)
    (fc : fr wO m m1) (rl : ∀ a i, a ≤ 122 → m2 a i = m1 a i) (rf : ∀ a i, isF a i = true → m2 a i = m1 a i) (r0 : m2 123 0 = m1 123 0) (r2 : m2 123 2 = m1 123 2) (r4 : ∀ j, m2 124 j = m1 124 j) (rc : ∀ a i, 136 ≤ a → a ≤ 140 → m2 a i = m1 a i) (r20 : m2 123 20 = m1 123 20) : w = v ∧ EQA la lb m2 := by
  have hR := REST_m I hl h fc
  have hS := SB2_m I h fc
  have hn : (m la 7).toInt = (m1 123 20).toInt := by obtain ⟨_, _, _, q⟩ := hR.2.2.2.2.1; exact q
  have hbk : (m 97 6).toInt = (m1 123 3).toInt := hR.2.2.1.1
  have h60 : (m 97 6).toInt ≤ 60 := (I 97 6).2
  have hc0 : (m 0 2).toInt = (m1 123 0).toInt := hS.2.1
  have hz : (0 ≤ x0.toInt ∧ x0.toInt < (m 0 2).toInt) → (m (4 + 7 * x0.toInt.toNat + 3) 1).toInt = nu m1 x0.toInt 0 := fun q => by
    have e := SZ_nu (b := x0.toInt.toNat) hS hR (by omega)
    rw [show ((x0.toInt.toNat : Nat) : Int) = x0.toInt by omega] at e
    exact e
  obtain ⟨k2, k7, kl2, kl7, kla, kw⟩ := wO_keep hl fc
  have d := STRK_det c r (by
      constructor
      · intro q; have := hz q.1; refine ⟨⟨q.1.1, by omega⟩, q.2.1, q.2.2.1, q.2.2.2.1, by omega⟩
      · intro q; have := hz ⟨q.1.1, by omega⟩; refine ⟨⟨q.1.1, by omega⟩, q.2.1, q.2.2.1, q.2.2.2.1, by omega⟩) (fun _ => by omega)
    (fun ok k _ a1 a2 => FB_FF hS hR.1 hn (by have := ok.1; omega) a1 a2) (fun ok k _ a1 a2 => FF_FB hS hR.1 hn (by have := ok.1; omega) a1 a2) (fun ok k x y _ a1 a2 => PR_eq hS hR.1 hn (by have := ok.1; omega) a1 a2)
  refine ⟨d.1.symm, ?_⟩
  rcases d.2 with ⟨s1, s2⟩ | ⟨ok, ⟨s0, s1⟩, s2⟩
  · exact EQA_k I hl h (fun a i q => (s2 a i q).trans (s1 a i (wN_isR q))) (fun a i q => (rf a i q).trans (s1 a i (wN_isF q)))
  · exact EQA_end I hl h (STK_RE hl hS hR (by have := ok.1; omega) (by have := ok.1; have := ok.2.2.1; have := ok.2.2.2; omega) (by have := ok.2.2.1; omega) s1 s2 d.1 k2 (by rw [s0, r2, fc 123 2 rfl]; exact h.2.2.2.2.2.2.2) kl2 kl7 kla rc r20) fc rl rf r0 r4
/-- back -/
theorem wS3_all (c : fr wS3 m m1) : fr wO m m1 := c.sub wS3_wO
theorem back_EA {x0 v w : Int32} (I : IV BB m) (hl : la = 77 ∨ la = 88) (h : EQA la lb m)
    (c : BCKP ((0 ≤ x0.toInt ∧ x0.toInt < (m 0 2).toInt) ∧ ∃ i : Nat, (i : Int) < (m 97 6).toInt ∧ (m 98 i).toInt = x0.toInt) (∀ a j, isR a j = true → m1 a j = m a j) (fun v => BCKc m m1 (4 + 7 * x0.toInt.toNat) x0.toInt.toNat v) v.toInt)
    (r : BCKP ((0 ≤ x0.toInt ∧ x0.toInt < (m1 123 0).toInt) ∧ ∃ i : Nat, (i : Int) < (m1 123 3).toInt ∧ (m1 143 i).toInt = x0.toInt) (∀ a j, isR a j = true → m2 a j = m1 a j) (fun v => BCKr m1 m2 x0.toInt.toNat v) w.toInt)
    (fc : fr wS3 m m1) (rl : ∀ a i, a ≤ 122 → m2 a i = m1 a i) (rf : ∀ a i, isF a i = true → m2 a i = m1 a i) (r0 : m2 123 0 = m1 123 0) (r2 : m2 123 2 = m1 123 2) (r4 : ∀ j, m2 124 j = m1 124 j) (rc : ∀ a i, 136 ≤ a → a ≤ 140 → m2 a i = m1 a i) (r20 : m2 123 20 = m1 123 20) : w = v ∧ EQA la lb m2 := by
  have fo := wS3_all fc
  have hR := REST_m I hl h fo
  have hS := SB2_m I h fo
  have hbk : (m 97 6).toInt = (m1 123 3).toInt := hR.2.2.1.1
  have hc0 : (m 0 2).toInt = (m1 123 0).toInt := hS.2.1
  obtain ⟨k2, k7, kl2, kl7, kla, kw⟩ := wO_keep hl fo
  have hr : ∀ i : Nat, (i : Int) < (m 97 6).toInt → m 98 i = m1 143 i := fun i hi => (hR.2.2.1.2 i hi).1 0 (by omega)
  have e : ((0 ≤ x0.toInt ∧ x0.toInt < (m 0 2).toInt) ∧ ∃ i : Nat, (i : Int) < (m 97 6).toInt ∧ (m 98 i).toInt = x0.toInt) ↔ ((0 ≤ x0.toInt ∧ x0.toInt < (m1 123 0).toInt) ∧ ∃ i : Nat, (i : Int) < (m1 123 3).toInt ∧ (m1 143 i).toInt = x0.toInt) := by
    rw [hc0, hbk]
    constructor
    · rintro ⟨q, i, q1, q2⟩; exact ⟨q, i, q1, by rw [← hr i (by omega)]; exact q2⟩
    · rintro ⟨q, i, q1, q2⟩; exact ⟨q, i, q1, by rw [hr i (by omega)]; exact q2⟩
  rcases c with ⟨c1, c2, c3⟩ | ⟨c1, c2⟩ <;> rcases r with ⟨r1, r2', r3⟩ | ⟨r1, r2'⟩
  · exact ⟨Int32.toInt_inj.mp (r2'.trans c2.symm), EQA_k I hl h (fun a i q => (r3 a i q).trans (c3 a i q)) (fun a i q => (rf a i q).trans (fo a i (wO_isF q)))⟩
  · exact absurd (e.mpr r1) c1
  · exact absurd (e.mp c1) r1
  · have c10 := c1.1
    obtain ⟨d1, d2⟩ := BCK_RE hl hS hR (by omega) c2 r2' k2 (fc 0 8 rfl) kl2 kl7 kla rc r20 r2
    exact ⟨Int32.toInt_inj.mp d1.symm, EQA_end I hl h d2 fo rl rf r0 r4⟩
/-- draw -/
theorem draw_EA {x0 x1 v w : Int32} {t : Int → Int} (I : IV BB m) (hl : la = 77 ∨ la = 88) (h : EQA la lb m)
    (c : DRWP ((0 ≤ x0.toInt ∧ x0.toInt < (m 0 2).toInt) ∧ 1 ≤ x1.toInt ∧ x1.toInt ≤ 40) x1.toInt (fun M => (M (4 + 7 * x0.toInt.toNat + 3) 1).toInt ≤ 1) (fun k M v => DCc la t x0.toInt.toNat k m M v) (∀ a j, isR a j = true → m1 a j = m a j) m1 v.toInt)
    (r : DRWP ((0 ≤ x0.toInt ∧ x0.toInt < (m1 123 0).toInt) ∧ 1 ≤ x1.toInt ∧ x1.toInt ≤ 40) x1.toInt (fun M => nu M x0.toInt 0 ≤ 1) (fun k M v => DCr t x0.toInt.toNat k m1 M v) (∀ a j, isR a j = true → m2 a j = m1 a j) m2 w.toInt)
    (fo : fr wO m m1) (rl : ∀ a i, a ≤ 122 → m2 a i = m1 a i) (rf : ∀ a i, isF a i = true → m2 a i = m1 a i) (r0 : m2 123 0 = m1 123 0) (r4 : ∀ j, m2 124 j = m1 124 j) : w = v ∧ EQA la lb m2 := by
  have hR := REST_m I hl h fo
  have hS := SB2_m I h fo
  have hc0 : (m 0 2).toInt = (m1 123 0).toInt := hS.2.1
  rcases c with ⟨c1, c2, c3⟩ | ⟨c1, k, c2, c3, c4⟩ <;> rcases r with ⟨r1, r2, r3⟩ | ⟨r1, k2, r2, r3, r5⟩
  · exact ⟨Int32.toInt_inj.mp (r2.trans c2.symm), EQA_k I hl h (fun a i q => (r3 a i q).trans (c3 a i q)) (fun a i q => (rf a i q).trans (fo a i (wO_isF q)))⟩
  · exact absurd (by rw [hc0]; exact r1) c1
  · exact absurd (by rw [← hc0]; exact c1) r1
  · have c10 := c1.1
    have ex : ((x0.toInt.toNat : Nat) : Int) = x0.toInt := by omega
    obtain ⟨d1, d2⟩ := DRW_RE hl hS hR (by omega) c2 c3 c4 r2 (by rw [ex]; exact r3) r5
    exact ⟨Int32.toInt_inj.mp d1.symm, EQA_end I hl h d2 fo rl rf r0 r4⟩
theorem EQW_RFs (I : IV BB m) (h : EQW m) (k : ∀ a i, ¬ (a = 0 ∧ i = 8) → ¬ (a = 123 ∧ i = 2) → m2 a i = m a i) : EQW m2 :=
  EQW_k I h (EQK_k h.1 (k 0 7 (by omega) (by omega)) (k 123 1 (by omega) (by omega)) (k 0 2 (by omega) (by omega)) (k 123 0 (by omega) (by omega)) (k 1 1 (by omega) (by omega)) (k 123 11 (by omega) (by omega)) (fun j => k 2 j (by omega) (by omega)) (fun j => k 129 j (by omega) (by omega))) (fun a j q => k a j (by have := isW_b q; omega) (by have := isW_b q; omega)) (fun j => k 124 j (by omega) (by omega)) (fun j => k 125 j (by omega) (by omega)) (fun j => k 126 j (by omega) (by omega)) (fun j => k 127 j (by omega) (by omega)) (k 123 4 (by omega) (by omega)) (k 0 2 (by omega) (by omega))
/-- seed -/
theorem seed_EA {x0 v w : Int32} (I : IV BB m) (hl : la = 77 ∨ la = 88) (h : EQA la lb m) (c : (v.toInt = 1 ∧ 0 ≤ x0.toInt ∧ x0.toInt ≤ 65535 ∧ m1 0 8 = x0) ∨ (v.toInt = 0 ∧ (x0.toInt < 0 ∨ 65535 < x0.toInt) ∧ m1 0 8 = m 0 8)) (r : (w.toInt = 1 ∧ 0 ≤ x0.toInt ∧ x0.toInt ≤ 65535 ∧ m2 123 2 = x0) ∨ (w.toInt = 0 ∧ (x0.toInt < 0 ∨ 65535 < x0.toInt) ∧ m2 123 2 = m1 123 2))
    (fc : ∀ a i, ¬ (a = 0 ∧ i = 8) → m1 a i = m a i) (rr : ∀ a i, ¬ (a = 123 ∧ i = 2) → m2 a i = m1 a i) : w = v ∧ EQA la lb m2 := by
  have k : ∀ a i, ¬ (a = 0 ∧ i = 8) → ¬ (a = 123 ∧ i = 2) → m2 a i = m a i := fun a i q1 q2 => (rr a i q2).trans (fc a i q1)
  have e8 : w = v ∧ m2 0 8 = m2 123 2 := by
    have h8 := h.2.2.2.2.2.2.2
    rw [rr 0 8 (by omega)]
    rcases c with ⟨c1, c2, c3, c4⟩ | ⟨c1, c2, c4⟩ <;> rcases r with ⟨r1, r2, r3, r4⟩ | ⟨r1, r2, r4⟩
    · exact ⟨Int32.toInt_inj.mp (r1.trans c1.symm), by rw [c4, r4]⟩
    · omega
    · omega
    · exact ⟨Int32.toInt_inj.mp (r1.trans c1.symm), by rw [c4, r4, fc 123 2 (by omega)]; exact h8⟩
  refine ⟨e8.1, EQW_RFs I h.1 k, ?_⟩
  obtain ⟨h1, h2, h3, h4, h5, h6, h7⟩ := h.2
  have l9 : 77 ≤ la ∧ la ≤ 88 := by omega
  exact ⟨STA_k h1 (fun a i q1 q2 => k a i (by omega) (by omega)) (fun j => k 128 j (by omega) (by omega)), RSA_k h2 (fun a i q1 q2 => k a i (by omega) (by omega)) (k 0 2 (by omega) (by omega)) (I 0 2).2, BKE_k h3 (fun a i q1 q2 => k a i (by omega) (by omega)) (fun a i q1 q2 => k a i (by omega) (by omega)) (k 123 3 (by omega) (by omega)),
    BKI_k h4 (fun a i q1 q2 => k a i (by omega) (by omega)) (fun b hb => k _ _ (by omega) (by omega)) (by rw [k 0 2 (by omega) (by omega)]; exact Int.le_refl _), LWE_k hl h5 (k _ _ (by omega) (by omega)) (k _ _ (by omega) (by omega)) (fun a i q1 q2 => k a i (by omega) (by omega)) (fun a i q1 q2 => k a i (by omega) (by omega)) (k 123 20 (by omega) (by omega)), h6, e8.2⟩
end EA
