/-! both sides alike: marks, what is LEFT, THE BOOK, THE LAW, what is drawn; the class's places out of one memory, the reference's out of another -/
def STA (mc mr : Nat → Nat → Int32) : Prop := ∀ b w : Nat, b < 8 → w < 40 → mc (4 + 7 * b + 6) w = mr 128 (40 * b + w)
def RSA (mc : Nat → Nat → Int32) : Prop := ∀ b : Nat, (b : Int) < (mc 0 2).toInt → RST mc (4 + 7 * b)
def BKE (mc mr : Nat → Nat → Int32) : Prop := (mc 97 6).toInt = (mr 123 3).toInt ∧ ∀ i : Nat, (i : Int) < (mc 97 6).toInt → (∀ q, q ≤ 4 → mc (98 + q) i = mr (143 + q) i) ∧ ∀ k : Nat, (k : Int) < (mc 102 i).toInt → mc 103 (9 * i + k) = mr 148 (9 * i + k)
def BKI (mc : Nat → Nat → Int32) : Prop := ∀ i : Nat, (i : Int) < (mc 97 6).toInt → 0 ≤ (mc 98 i).toInt ∧ (mc 98 i).toInt < (mc 0 2).toInt ∧ 0 ≤ (mc 102 i).toInt ∧ (mc 102 i).toInt ≤ 9 ∧ ∀ k : Nat, (k : Int) < (mc 102 i).toInt → 0 ≤ (mc 103 (9 * i + k)).toInt ∧ (mc 103 (9 * i + k)).toInt < (mc (5 + 7 * (mc 98 i).toInt.toNat) 1).toInt
def LWE (la : Nat) (mc mr : Nat → Nat → Int32) : Prop := ∃ t, LAWc mc la t (mc la 7).toInt.toNat ∧ LAWr mr t (mr 123 20).toInt.toNat ∧ (mc la 7).toInt = (mr 123 20).toInt
/-- rows as written, DAY, number of BLANKS -/
def SB2 (mc mr : Nat → Nat → Int32) : Prop := (mc 0 7).toInt = (mr 123 1).toInt ∧ (mc 0 2).toInt = (mr 123 0).toInt ∧ (mc 0 2).toInt ≤ 8 ∧ ∀ b : Nat, (b : Int) < (mc 0 2).toInt → (0 ≤ (mc (5 + 7 * b) 1).toInt ∧ (mc (5 + 7 * b) 1).toInt ≤ 40) ∧ (mc (5 + 7 * b) 1).toInt = (mr 124 b).toInt ∧ ∀ k : Nat, (k : Int) < (mr 124 b).toInt → (mc (6 + 7 * b) k).toInt = (mr 125 (40 * b + k)).toInt
def REST (la lb : Nat) (mc mr : Nat → Nat → Int32) : Prop := STA mc mr ∧ RSA mc ∧ BKE mc mr ∧ BKI mc ∧ LWE la mc mr ∧ la ≠ lb ∧ mc 0 8 = mr 123 2
def EQA (la lb : Nat) (m : Nat → Nat → Int32) : Prop := EQW m ∧ REST la lb m m
theorem EQA_SB {la lb : Nat} {m : Nat → Nat → Int32} (I : IV BB m) (h : EQA la lb m) : SB2 m m := ⟨h.1.1.1, h.1.1.2.1, (I 0 2).2, fun b hb => ⟨by
  have q := h.1.2.2 b hb
  have z : 0 ≤ (m 124 b).toInt ∧ (m 124 b).toInt ≤ 40 := I 124 b
  rw [q.1]
  exact z, (h.1.2.2 b hb).1, (h.1.2.2 b hb).2⟩⟩
theorem isR_lo {a i : Nat} (h1 : 5 ≤ a) (h2 : a ≤ 59) : isR a i = true := isR_in ⟨(5, 59, none), by decide, h1, h2, Or.inl rfl⟩
theorem isR_bk {a i : Nat} (h1 : 97 ≤ a) (h2 : a ≤ 103) : isR a i = true := isR_in ⟨(97, 103, none), by decide, h1, h2, Or.inl rfl⟩
theorem isR_br {a i : Nat} (h1 : 143 ≤ a) (h2 : a ≤ 148) : isR a i = true := isR_in ⟨(143, 148, none), by decide, h1, h2, Or.inl rfl⟩
theorem isR_cr {a i : Nat} (h1 : 136 ≤ a) (h2 : a ≤ 140) : isR a i = true := isR_in ⟨(136, 140, none), by decide, h1, h2, Or.inl rfl⟩
theorem isR_la {la a i : Nat} (h : la = 77 ∨ la = 88) (h1 : la < a) (h2 : a ≤ la + 6) : isR a i = true := by
  rcases h with rfl | rfl
  · exact isR_in ⟨(78, 83, none), by decide, h1, h2, Or.inl rfl⟩
  · exact isR_in ⟨(89, 94, none), by decide, h1, h2, Or.inl rfl⟩
theorem isR_l2 {la : Nat} (h : la = 77 ∨ la = 88) : isR la 2 = true := by rcases h with rfl | rfl <;> rfl
theorem isR_l7 {la : Nat} (h : la = 77 ∨ la = 88) : isR la 7 = true := by rcases h with rfl | rfl <;> rfl
section RE
variable {la lb : Nat} {mc mr mc2 mr2 : Nat → Nat → Int32}
theorem STA_k (h : STA mc mr) (c : ∀ a i, 5 ≤ a → a ≤ 59 → mc2 a i = mc a i) (d : ∀ j, mr2 128 j = mr 128 j) : STA mc2 mr2 := fun b w hb hw => by
  rw [c _ _ (by omega) (by omega), d]; exact h b w hb hw
theorem RSA_k (h : RSA mc) (c : ∀ a i, 5 ≤ a → a ≤ 59 → mc2 a i = mc a i) (c2 : mc2 0 2 = mc 0 2) (h8 : (mc 0 2).toInt ≤ 8) : RSA mc2 := fun b hb => by
  rw [c2] at hb
  exact RST_eq (h b hb) (fun a j q1 q2 => c a j (by omega) (by omega))
theorem BKE_k (h : BKE mc mr) (c : ∀ a i, 97 ≤ a → a ≤ 103 → mc2 a i = mc a i) (d : ∀ a i, 143 ≤ a → a ≤ 148 → mr2 a i = mr a i) (d3 : mr2 123 3 = mr 123 3) : BKE mc2 mr2 := by
  refine ⟨by rw [c 97 6 (by omega) (by omega), d3]; exact h.1, fun i hi => ?_⟩
  rw [c 97 6 (by omega) (by omega)] at hi
  refine ⟨fun q hq => by rw [c _ _ (by omega) (by omega), d _ _ (by omega) (by omega)]; exact (h.2 i hi).1 q hq, fun k hk => ?_⟩
  rw [c 102 i (by omega) (by omega)] at hk
  rw [c 103 _ (by omega) (by omega), d 148 _ (by omega) (by omega)]
  exact (h.2 i hi).2 k hk
theorem BKI_k (h : BKI mc) (c : ∀ a i, 97 ≤ a → a ≤ 103 → mc2 a i = mc a i) (cw : ∀ b : Nat, (b : Int) < (mc 0 2).toInt → mc2 (5 + 7 * b) 1 = mc (5 + 7 * b) 1) (c2 : (mc 0 2).toInt ≤ (mc2 0 2).toInt) : BKI mc2 := fun i hi => by
  rw [c 97 6 (by omega) (by omega)] at hi
  obtain ⟨h1, h2, h3, h4, h5⟩ := h i hi
  refine ⟨by rw [c 98 i (by omega) (by omega)]; exact h1, by rw [c 98 i (by omega) (by omega)]; omega, by rw [c 102 i (by omega) (by omega)]; exact h3, by rw [c 102 i (by omega) (by omega)]; exact h4, fun k hk => ?_⟩
  rw [c 102 i (by omega) (by omega)] at hk
  rw [c 103 _ (by omega) (by omega), c 98 i (by omega) (by omega), cw _ (by omega)]
  exact h5 k hk
theorem LWE_k (hl : la = 77 ∨ la = 88) (h : LWE la mc mr) (c2 : mc2 la 2 = mc la 2) (c7 : mc2 la 7 = mc la 7) (c : ∀ a i, la < a → a ≤ la + 6 → mc2 a i = mc a i) (d : ∀ a i, 136 ≤ a → a ≤ 140 → mr2 a i = mr a i) (d3 : mr2 123 20 = mr 123 20) : LWE la mc2 mr2 := by
  obtain ⟨t, h1, h2, h3⟩ := h
  exact ⟨t, by rw [c7]; exact LAWc_m h1 c2 c, by rw [d3]; exact LAWr_eq h2 d, by rw [c7, d3]; exact h3⟩
/-- nothing of this has changed -/
theorem REST_k (hl : la = 77 ∨ la = 88) (h8 : (mc 0 2).toInt ≤ 8) (h : REST la lb mc mr) (c : ∀ a i, a ≤ 122 → isR a i = true → mc2 a i = mc a i) (d : ∀ a i, 123 ≤ a → isR a i = true → mr2 a i = mr a i) : REST la lb mc2 mr2 := by
  obtain ⟨h1, h2, h3, h4, h5, h6, h7⟩ := h
  have c2 : mc2 0 2 = mc 0 2 := c 0 2 (by omega) rfl
  have l9 : la ≤ 88 := by omega
  exact ⟨STA_k h1 (fun a i q1 q2 => c a i (by omega) (isR_lo q1 q2)) (fun j => d 128 j (by omega) rfl), RSA_k h2 (fun a i q1 q2 => c a i (by omega) (isR_lo q1 q2)) c2 h8, BKE_k h3 (fun a i q1 q2 => c a i (by omega) (isR_bk q1 q2)) (fun a i q1 q2 => d a i (by omega) (isR_br q1 q2)) (d 123 3 (by omega) rfl),
    BKI_k h4 (fun a i q1 q2 => c a i (by omega) (isR_bk q1 q2)) (fun b hb => c _ _ (by omega) (isR_lo (by omega) (by omega))) (by rw [c2]; exact Int.le_refl _), LWE_k hl h5 (c _ _ (by omega) (isR_l2 hl)) (c _ _ (by omega) (isR_l7 hl)) (fun a i q1 q2 => c a i (by omega) (isR_la hl q1 q2)) (fun a i q1 q2 => d a i (by omega) (isR_cr q1 q2)) (d 123 20 (by omega) rfl), h6, by rw [c 0 8 (by omega) rfl, d 123 2 (by omega) rfl]; exact h7⟩
theorem SB2_k (h : SB2 mc mr) (c7 : mc2 0 7 = mc 0 7) (c2 : mc2 0 2 = mc 0 2) (c : ∀ a i, isW a = true → a ≤ 59 → mc2 a i = mc a i) (d0 : mr2 123 0 = mr 123 0) (d1 : mr2 123 1 = mr 123 1) (d4 : ∀ j, mr2 124 j = mr 124 j) (d5 : ∀ j, mr2 125 j = mr 125 j) : SB2 mc2 mr2 := by
  obtain ⟨h1, h2, h3, h4⟩ := h
  refine ⟨by rw [c7, d1]; exact h1, by rw [c2, d0]; exact h2, by rw [c2]; exact h3, fun b hb => ?_⟩
  rw [c2] at hb
  obtain ⟨q1, q2, q3⟩ := h4 b hb
  have e5 : mc2 (5 + 7 * b) 1 = mc (5 + 7 * b) 1 := c _ _ (isW_i (by omega)) (by omega)
  refine ⟨by rw [e5]; exact q1, by rw [e5, d4]; exact q2, fun k hk => ?_⟩
  rw [d4] at hk
  rw [c (6 + 7 * b) k (isW_i (by omega)) (by omega), d5]
  exact q3 k hk
/-- a STROKE on both sides -/
theorem STK_RE {b p n : Nat} {cl cost cost2 : Int32} (hl : la = 77 ∨ la = 88) (hS : SB2 mc mr) (h : REST la lb mc mr) (hb : (b : Int) < (mc 0 2).toInt) (hp : (p + n : Nat) ≤ (mc (4 + 7 * b + 3) 1).toInt) (hn : n ≤ 9) (s : STKc mc mc2 (4 + 7 * b) b p n cl cost) (t : STKr mr mr2 b p n cl cost2) (hc : cost = cost2)
    (c2 : mc2 0 2 = mc 0 2) (e8 : mc2 0 8 = mr2 123 2) (cl2 : mc2 la 2 = mc la 2) (cl7 : mc2 la 7 = mc la 7) (cla : ∀ a i, la < a → a ≤ la + 6 → mc2 a i = mc a i) (dcr : ∀ a i, 136 ≤ a → a ≤ 140 → mr2 a i = mr a i) (d20 : mr2 123 20 = mr 123 20) : REST la lb mc2 mr2 := by
  subst hc
  obtain ⟨h1, h2, h3, h4, h5, h6, h7⟩ := h
  obtain ⟨s1, s2, s3, s4, s5, s6, s7, s8, s9, s10, s11, s12⟩ := s
  obtain ⟨⟨g, g1, g2, g3, g4⟩, t1, t2, t3, t4, t5, t6, t7⟩ := t
  obtain ⟨b1, b2, b8, b3⟩ := hS
  obtain ⟨⟨w0, w40⟩, w1, w2⟩ := b3 b hb
  have eN : (mr 124 b).toInt.toNat = wrN mc (4 + 7 * b) := by unfold wrN; rw [show 4 + 7 * b + 1 = 5 + 7 * b by omega, ← w1]
  have hR := h2 b hb
  have hA : ∀ i, i < n → 0 ≤ (mc (4 + 7 * b + 5) (p + i)).toInt ∧ IsN (mc (4 + 7 * b + 6)) 0 (wrN mc (4 + 7 * b)) (p + i) (mc (4 + 7 * b + 5) (p + i)).toInt.toNat := fun i hi => by
    have q := RST_at (p := ((p + i : Nat) : Int)) hR (by omega) (by omega)
    rw [show ((p + i : Nat) : Int).toNat = p + i by omega] at q
    exact ⟨q.1, q.2.1⟩
  have wn40 : wrN mc (4 + 7 * b) ≤ 40 := by unfold wrN; rw [show 4 + 7 * b + 1 = 5 + 7 * b by omega]; omega
  have hg : ∀ i, i < n → g i = (mc (4 + 7 * b + 5) (p + i)).toInt.toNat := STK_num (S := mc (4 + 7 * b + 6)) (T := mr 128) (c := 40 * b) (n := wrN mc (4 + 7 * b)) n (fun j hj => (h1 b j (by omega) (by omega)).symm) (fun i hi => (hA i hi).2) (fun i hi => by rw [← eN]; exact g1 i hi)
  have e3 : (mr 123 3).toInt = (mc 97 6).toInt := h3.1.symm
  have es : (mr 123 3).toInt.toNat = (mc 97 6).toInt.toNat := by rw [e3]
  rw [es] at g2 g3 t2 t3 t4 t5 t6 t7
  refine ⟨fun b' w hb' hw => ?_, fun b' hb' => ?_, ⟨by omega, fun i hi => ?_⟩, fun i hi => ?_, LWE_k hl h5 cl2 cl7 cla dcr d20, h6, e8⟩
  · by_cases z : b' = b
    · subst z
      rw [s10 w, g4]
      exact (mkd_eq (S := mc (4 + 7 * b' + 6)) (T := mr 128) (c := 40 * b') (h1 b' w hb' hw).symm n (fun i hi => by show 40 * b' + g i = _; rw [hg i hi])).symm
    · rw [s11 _ _ (by omega) (by omega) (by omega), g4, mkd_no n (fun i hi q => by
        have q1 := (g1 i hi).1
        rw [eN] at q1
        omega)]
      exact h1 b' w hb' hw
  · rw [c2] at hb'
    by_cases z : b' = b
    · subst z; exact s12
    · exact RST_eq (h2 b' hb') (fun a j q1 q2 => s11 a j (by omega) (by omega) (by omega))
  · by_cases z : i = (mc 97 6).toInt.toNat
    · subst z
      refine ⟨fun q hq => ?_, fun k hk => ?_⟩
      · have : q = 0 ∨ q = 1 ∨ q = 2 ∨ q = 3 ∨ q = 4 := by omega
        rcases this with rfl | rfl | rfl | rfl | rfl
        · exact Int32.toInt_inj.mp (s2.trans t2.symm)
        · exact s3.trans t3.symm
        · exact s4.trans ((Int32.toInt_inj.mp b1).trans t4.symm)
        · exact s5.trans t5.symm
        · exact Int32.toInt_inj.mp (s6.trans t6.symm)
      · rw [s6] at hk
        rw [s7 k (by omega)]
        have q := g2 k (by omega)
        rw [hg k (by omega)] at q
        have q0 := (hA k (by omega)).1
        exact Int32.toInt_inj.mp (by omega)
    · have hi2 : (i : Int) < (mc 97 6).toInt := by omega
      obtain ⟨k1, k2⟩ := h3.2 i hi2
      have k9 := (h4 i hi2).2.2.2.1
      refine ⟨fun q hq => by rw [s8 _ _ (by omega) (by omega) z, t7 _ _ (by omega) (by omega) z]; exact k1 q hq, fun k hk => ?_⟩
      rw [s8 102 _ (by omega) (by omega) z] at hk
      rw [s9 _ (by omega), g3 _ (by omega)]
      exact k2 k hk
  · by_cases z : i = (mc 97 6).toInt.toNat
    · subst z
      refine ⟨by omega, by rw [c2]; omega, by omega, by omega, fun k hk => ?_⟩
      rw [s7 k (by omega), s2, show ((b : Nat) : Int).toNat = b by omega, s11 _ _ (by omega) (by omega) (by omega)]
      have q := hA k (by omega)
      have q1 := q.2.1
      unfold wrN at q1
      rw [show 4 + 7 * b + 1 = 5 + 7 * b by omega] at q1
      omega
    · have hi2 : (i : Int) < (mc 97 6).toInt := by omega
      obtain ⟨k1, k2, k3, k4, k5⟩ := h4 i hi2
      refine ⟨by rw [s8 98 _ (by omega) (by omega) z]; exact k1, by rw [s8 98 _ (by omega) (by omega) z, c2]; exact k2, by rw [s8 102 _ (by omega) (by omega) z]; exact k3, by rw [s8 102 _ (by omega) (by omega) z]; exact k4, fun k hk => ?_⟩
      rw [s8 102 _ (by omega) (by omega) z] at hk
      rw [s8 98 _ (by omega) (by omega) z, s9 _ (by omega), s11 _ _ (by omega) (by omega) (by omega)]
      exact k5 k hk
end RE
