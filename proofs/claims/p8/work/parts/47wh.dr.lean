/-! days drawn, on both sides -/
def DSc (m M : Nat → Nat → Int32) (la : Nat) (t : Int → Int) (b : Nat) (s s2 : Int) : Prop := 2 ≤ (m (4 + 7 * b + 3) 1).toInt ∧ (M 0 8).toInt = (25173 * (m 0 8).toInt + 13849) % 65536 ∧ fr wO m M ∧ ((FFc m la t b ((M 0 8).toInt % (m (4 + 7 * b + 3) 1).toInt).toNat ((M 0 8).toInt % 8) ∧ (m 97 6).toInt ≤ 59 ∧ (∃ cv v : Int32, cv.toInt = (M 0 8).toInt % 8 ∧ PRc m la t b ((M 0 8).toInt % (m (4 + 7 * b + 3) 1).toInt).toNat ((M 0 8).toInt % 8) v ∧ STKc m M (4 + 7 * b) b ((M 0 8).toInt % (m (4 + 7 * b + 3) 1).toInt).toNat 1 cv v) ∧ s2 = s + 1) ∨ ((FBc m la t b ((M 0 8).toInt % (m (4 + 7 * b + 3) 1).toInt).toNat ((M 0 8).toInt % 8) ∨ 60 ≤ (m 97 6).toInt) ∧ (∀ a i, isR a i = true → ¬ (a = 0 ∧ i = 8) → M a i = m a i) ∧ s2 = s))
def DSr (m M : Nat → Nat → Int32) (t : Int → Int) (b : Nat) (s s2 : Int) : Prop := 2 ≤ nu m b 0 ∧ (M 123 2).toInt = (25173 * (m 123 2).toInt + 13849) % 65536 ∧ (∀ a i, isR a i = true → ¬ (a = 123 ∧ i = 2) → a ≠ 128 → ¬ (a = 123 ∧ i = 3) → (a < 143 ∨ 148 < a) → M a i = m a i) ∧ (M 123 1 = m 123 1 ∧ M 123 0 = m 123 0 ∧ (∀ j, M 124 j = m 124 j) ∧ ∀ j, M 125 j = m 125 j) ∧ ((FFr m t b ((M 123 2).toInt % nu m b 0).toNat ((M 123 2).toInt % 8) ∧ (m 123 3).toInt ≤ 59 ∧ (∃ cv v : Int32, cv.toInt = (M 123 2).toInt % 8 ∧ PRr m t b ((M 123 2).toInt % nu m b 0).toNat ((M 123 2).toInt % 8) v ∧ STKr m M b ((M 123 2).toInt % nu m b 0).toNat 1 cv v) ∧ s2 = s + 1) ∨ ((FBr m t b ((M 123 2).toInt % nu m b 0).toNat ((M 123 2).toInt % 8) ∨ 60 ≤ (m 123 3).toInt) ∧ (∀ a i, isR a i = true → ¬ (a = 123 ∧ i = 2) → M a i = m a i) ∧ s2 = s))
def DCc (la : Nat) (t : Int → Int) (b : Nat) : Nat → (Nat → Nat → Int32) → (Nat → Nat → Int32) → Int → Prop
  | 0, m, M, s => M = m ∧ s = 0
  | k + 1, m, M, s => ∃ M1 s1, DCc la t b k m M1 s1 ∧ DSc M1 M la t b s1 s
def DCr (t : Int → Int) (b : Nat) : Nat → (Nat → Nat → Int32) → (Nat → Nat → Int32) → Int → Prop
  | 0, m, M, s => M = m ∧ s = 0
  | k + 1, m, M, s => ∃ M1 s1, DCr t b k m M1 s1 ∧ DSr M1 M t b s1 s
theorem DCc_s {la : Nat} {t : Int → Int} {b k k2 : Nat} {m M M2 : Nat → Nat → Int32} {s s2 : Int} (h : DCc la t b k m M s) (k1 : DSc M M2 la t b s s2) (hk : k2 = k + 1) : DCc la t b k2 m M2 s2 := by subst hk; exact ⟨M, s, h, k1⟩
theorem DCr_s {t : Int → Int} {b k k2 : Nat} {m M M2 : Nat → Nat → Int32} {s s2 : Int} (h : DCr t b k m M s) (k1 : DSr M M2 t b s s2) (hk : k2 = k + 1) : DCr t b k2 m M2 s2 := by subst hk; exact ⟨M, s, h, k1⟩
theorem DCc_pre {la : Nat} {t : Int → Int} {b k : Nat} {m : Nat → Nat → Int32} : ∀ (d : Nat) {M : Nat → Nat → Int32} {s : Int}, DCc la t b (k + d + 1) m M s → ∃ M1 s1 M2 s2, DCc la t b k m M1 s1 ∧ DSc M1 M2 la t b s1 s2
  | 0, M, s, ⟨M1, s1, h1, h2⟩ => ⟨M1, s1, M, s, h1, h2⟩
  | d + 1, _, _, ⟨_, _, h1, _⟩ => DCc_pre d h1
theorem DCr_pre {t : Int → Int} {b k : Nat} {m : Nat → Nat → Int32} : ∀ (d : Nat) {M : Nat → Nat → Int32} {s : Int}, DCr t b (k + d + 1) m M s → ∃ M1 s1 M2 s2, DCr t b k m M1 s1 ∧ DSr M1 M2 t b s1 s2
  | 0, M, s, ⟨M1, s1, h1, h2⟩ => ⟨M1, s1, M, s, h1, h2⟩
  | d + 1, _, _, ⟨_, _, h1, _⟩ => DCr_pre d h1
section DR
variable {la lb : Nat} {mc mr mc2 mr2 : Nat → Nat → Int32} {t : Int → Int} {b : Nat}
theorem SZ_nu (hS : SB2 mc mr) (h : REST la lb mc mr) (hb : (b : Int) < (mc 0 2).toInt) : (mc (4 + 7 * b + 3) 1).toInt = nu mr b 0 := by
  obtain ⟨b1, b2, b8, b3⟩ := hS
  obtain ⟨⟨w0, w40⟩, w1, w2⟩ := b3 b hb
  have eN : (mr 124 b).toInt.toNat = wrN mc (4 + 7 * b) := by unfold wrN; rw [show 4 + 7 * b + 1 = 5 + 7 * b by omega, ← w1]
  have wn40 : wrN mc (4 + 7 * b) ≤ 40 := by unfold wrN; rw [show 4 + 7 * b + 1 = 5 + 7 * b by omega]; omega
  have q := nu_0 (m := mr) (b := (b : Int))
  rw [show ((b : Nat) : Int).toNat = b by omega, eN] at q
  rw [q, RST_sz (h.2.1 b hb), cu_eq (f := mc (4 + 7 * b + 6)) (g := mr 128) (b := 0) (c := 40 * b) (wrN mc (4 + 7 * b)) (fun j hj => by rw [Nat.zero_add]; exact (h.1 b j (by omega) (by omega)).symm)]
theorem wO_keep (hl : la = 77 ∨ la = 88) (h : fr wO mc mc2) : mc2 0 2 = mc 0 2 ∧ mc2 0 7 = mc 0 7 ∧ mc2 la 2 = mc la 2 ∧ mc2 la 7 = mc la 7 ∧ (∀ a i, la < a → a ≤ la + 6 → mc2 a i = mc a i) ∧ ∀ a i, isW a = true → mc2 a i = mc a i :=
  ⟨h 0 2 rfl, h 0 7 rfl, h la 2 (wO_l2 hl), h la 7 (wO_l7 hl), fun a i q1 q2 => h a i (wO_la hl q1 q2), fun a i q => h a i (wO_isW q)⟩
theorem DS_RE {s s2 u2 : Int} (hl : la = 77 ∨ la = 88) (hS : SB2 mc mr) (h : REST la lb mc mr) (hb : (b : Int) < (mc 0 2).toInt) (c : DSc mc mc2 la t b s s2) (r : DSr mr mr2 t b s u2) : SB2 mc2 mr2 ∧ REST la lb mc2 mr2 ∧ mc2 0 2 = mc 0 2 ∧ s2 = u2 := by
  have hz := SZ_nu hS h hb
  obtain ⟨c1, c2, c3, c4⟩ := c
  obtain ⟨r1, r2, r3, ⟨r5, r6, r7, r8⟩, r4⟩ := r
  obtain ⟨k2, k7, kl2, kl7, kla, kw⟩ := wO_keep hl c3
  have hS2 : SB2 mc2 mr2 := SB2_k hS k7 k2 (fun a i q _ => kw a i q) r6 r5 r7 r8
  obtain ⟨h1, h2, h3, h4, h5, h6, h7⟩ := h
  have e8 : mc2 0 8 = mr2 123 2 := Int32.toInt_inj.mp (by rw [c2, r2, h7])
  rw [e8, hz] at c4
  have hn : (mc la 7).toInt = (mr 123 20).toInt := by obtain ⟨t', _, _, q⟩ := h5; exact q
  have hbk : (mc 97 6).toInt = (mr 123 3).toInt := h3.1
  have hR : REST la lb mc mr := ⟨h1, h2, h3, h4, h5, h6, h7⟩
  have p0 : 0 ≤ (mr2 123 2).toInt % nu mr b 0 := Int.emod_nonneg _ (by omega)
  have p1 : (mr2 123 2).toInt % nu mr b 0 < nu mr b 0 := Int.emod_lt_of_pos _ (by omega)
  rcases c4 with ⟨a1, a2, ⟨cv, v, a3, a4, a5⟩, a6⟩ | ⟨a1, a2, a3⟩ <;> rcases r4 with ⟨d1, d2, ⟨cv2, v2, d3, d4, d5⟩, d6⟩ | ⟨d1, d2, d3⟩
  · have ec : cv = cv2 := Int32.toInt_inj.mp (by rw [a3, d3])
    subst ec
    have ev : v = v2 := PR_eq hS h1 hn hb a4 d4
    exact ⟨hS2, STK_RE hl hS hR hb (by rw [hz]; omega) (by omega) a5 d5 ev k2 e8 kl2 kl7 kla (fun a i q1 q2 => r3 a i (isR_cr q1 q2) (by omega) (by omega) (by omega) (by omega)) (r3 123 20 rfl (by omega) (by omega) (by omega) (by omega)), k2, by omega⟩
  · rcases d1 with d1 | d1
    · exact (FF_FB hS h1 hn hb a1 d1).elim
    · omega
  · rcases a1 with a1 | a1
    · exact (FB_FF hS h1 hn hb a1 d1).elim
    · omega
  · have g : REST la lb mc2 mr2 := ⟨STA_k h1 (fun a i q1 q2 => a2 a i (isR_lo q1 q2) (by omega)) (fun j => d2 128 j rfl (by omega)), RSA_k h2 (fun a i q1 q2 => a2 a i (isR_lo q1 q2) (by omega)) k2 hS.2.2.1, BKE_k h3 (fun a i q1 q2 => a2 a i (isR_bk q1 q2) (by omega)) (fun a i q1 q2 => d2 a i (isR_br q1 q2) (by omega)) (d2 123 3 rfl (by omega)),
      BKI_k h4 (fun a i q1 q2 => a2 a i (isR_bk q1 q2) (by omega)) (fun b' hb' => a2 _ _ (isR_lo (by omega) (by have := hS.2.2.1; omega)) (by omega)) (by rw [k2]; exact Int.le_refl _), LWE_k hl h5 kl2 kl7 kla (fun a i q1 q2 => d2 a i (isR_cr q1 q2) (by omega)) (d2 123 20 rfl (by omega)), h6, e8⟩
    exact ⟨hS2, g, k2, by omega⟩
theorem DC_RE (hl : la = 77 ∨ la = 88) (hS : SB2 mc mr) (h : REST la lb mc mr) (hb : (b : Int) < (mc 0 2).toInt) : ∀ (k : Nat) {mc2 mr2 : Nat → Nat → Int32} {s s2 : Int}, DCc la t b k mc mc2 s → DCr t b k mr mr2 s2 → SB2 mc2 mr2 ∧ REST la lb mc2 mr2 ∧ mc2 0 2 = mc 0 2 ∧ s = s2
  | 0, _, _, _, _, ⟨c1, c2⟩, ⟨r1, r2⟩ => by subst c1; subst r1; subst c2; subst r2; exact ⟨hS, h, rfl, rfl⟩
  | k + 1, _, _, _, _, ⟨M1, s1, c1, c2⟩, ⟨M2, s2, r1, r2⟩ => by
    obtain ⟨q1, q2, q3, q4⟩ := DC_RE hl hS h hb k c1 r1
    subst q4
    obtain ⟨z1, z2, z3, z4⟩ := DS_RE hl q1 q2 (by rw [q3]; exact hb) c2 r2
    exact ⟨z1, z2, z3.trans q3, z4⟩
/-- draw's answers -/
def DRWP (ok : Prop) (n : Int) (stop : (Nat → Nat → Int32) → Prop) (chn : Nat → (Nat → Nat → Int32) → Int → Prop) (same : Prop) (M : Nat → Nat → Int32) (v : Int) : Prop := (¬ ok ∧ v = -1 ∧ same) ∨ (ok ∧ ∃ k : Nat, (k : Int) ≤ n ∧ ((k : Int) = n ∨ stop M) ∧ chn k M v)
theorem DRW_RE {n v w : Int} (hl : la = 77 ∨ la = 88) (hS : SB2 mc mr) (h : REST la lb mc mr) (hb : (b : Int) < (mc 0 2).toInt) {k k2 : Nat} (c1 : (k : Int) ≤ n) (c2 : (k : Int) = n ∨ (mc2 (4 + 7 * b + 3) 1).toInt ≤ 1) (c3 : DCc la t b k mc mc2 v) (r1 : (k2 : Int) ≤ n) (r2 : (k2 : Int) = n ∨ nu mr2 b 0 ≤ 1) (r3 : DCr t b k2 mr mr2 w) : v = w ∧ REST la lb mc2 mr2 := by
  by_cases z : k = k2
  · subst z
    obtain ⟨_, q2, _, q4⟩ := DC_RE hl hS h hb k c3 r3
    exact ⟨q4, q2⟩
  · by_cases y : k < k2
    · obtain ⟨d, hd⟩ : ∃ d, k2 = k + d + 1 := ⟨k2 - k - 1, by omega⟩
      subst hd
      obtain ⟨M1, s1, M2, s2, e1, e2⟩ := DCr_pre d r3
      obtain ⟨q1, q2, q3, _⟩ := DC_RE hl hS h hb k c3 e1
      have := SZ_nu q1 q2 (by rw [q3]; exact hb)
      have := e2.1
      omega
    · obtain ⟨d, hd⟩ : ∃ d, k = k2 + d + 1 := ⟨k - k2 - 1, by omega⟩
      subst hd
      obtain ⟨M1, s1, M2, s2, e1, e2⟩ := DCc_pre d c3
      obtain ⟨q1, q2, q3, _⟩ := DC_RE hl hS h hb k2 e1 r3
      have := SZ_nu q1 q2 (by rw [q3]; exact hb)
      have := e2.1
      omega
end DR
theorem STKr_q {m mq M : Nat → Nat → Int32} {b p n : Nat} {cl cost : Int32} (h : STKr mq M b p n cl cost) (c : ∀ a i, isR a i = true → ¬ (a = 123 ∧ i = 2) → mq a i = m a i) (c1 : mq 123 1 = m 123 1) : STKr m M b p n cl cost := by
  obtain ⟨⟨g, g1, g2, g3, g4⟩, k1, k2, k3, k4, k5, k6, k7⟩ := h
  have e3 : mq 123 3 = m 123 3 := c _ _ rfl (by omega)
  have e8 : mq 128 = m 128 := funext fun j => c _ _ rfl (by omega)
  have e4 : mq 124 b = m 124 b := c _ _ rfl (by omega)
  rw [e3] at g2 g3 k1 k2 k3 k4 k5 k6 k7
  rw [e8] at g4
  refine ⟨⟨g, fun i hi => by have q := g1 i hi; rw [e8, e4] at q; exact q, g2, fun j hj => (g3 j hj).trans (c _ _ (isR_br (by omega) (by omega)) (by omega)), g4⟩, k1, k2, k3, k4.trans c1, k5, k6, fun a j q1 q2 q3 => (k7 a j q1 q2 q3).trans (c _ _ (isR_br q1 (by omega)) (by omega))⟩
theorem mk_fr {a i : Nat} (h : isR a i = true) (h1 : a ≠ 128) (h2 : ¬ (a = 123 ∧ i = 3)) (h3 : a < 143 ∨ 148 < a) : wl [(123, 123, some 3), (128, 128, none), (143, 143, none), (144, 144, none), (145, 145, none), (146, 146, none), (147, 147, none), (148, 148, none)] a i = false := by
  cases hc : wl [(123, 123, some 3), (128, 128, none), (143, 143, none), (144, 144, none), (145, 145, none), (146, 146, none), (147, 147, none), (148, 148, none)] a i with
  | false => rfl
  | true =>
    simp only [wl, wl1, Bool.or_eq_true, Bool.and_eq_true, Nat.ble_eq, beq_iff_eq, and_true, or_false, Bool.false_eq_true] at hc
    omega
