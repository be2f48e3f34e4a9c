/-! all the other calls that both sides remember: DAY, tape, DEEDS, LAWS, BLANKS -/
theorem wPd_isR {a i : Nat} (h : isR a i = true) : wPd a i = false := wg_no (K := lR) (by decide) h
theorem wPb_hi {a i : Nat} (h : 123 ≤ a) (h2 : a ≤ 168) : wPb a i = false := by
  refine wg_no (K := [(123, 168, none)]) (by decide) ?_
  simp only [wl, wl1, Bool.or_eq_true, Bool.and_eq_true, Nat.ble_eq, and_true, or_false, Bool.false_eq_true]
  omega
theorem wl_cr {l : List (Nat × Nat × Option Nat)} {a i : Nat} (h : (([(136, 140, none)] : List (Nat × Nat × Option Nat)).all (fun p => l.all (fun q => dsj p q))) = true) (h1 : 136 ≤ a) (h2 : a ≤ 140) : wl l a i = false := by
  refine wl_no h ?_
  simp only [wl, wl1, Bool.or_eq_true, Bool.and_eq_true, Nat.ble_eq, and_true, or_false, Bool.false_eq_true]
  omega
theorem wl_br {l : List (Nat × Nat × Option Nat)} {a i : Nat} (h : (([(143, 148, none)] : List (Nat × Nat × Option Nat)).all (fun p => l.all (fun q => dsj p q))) = true) (h1 : 143 ≤ a) (h2 : a ≤ 148) : wl l a i = false := by
  refine wl_no h ?_
  simp only [wl, wl1, Bool.or_eq_true, Bool.and_eq_true, Nat.ble_eq, and_true, or_false, Bool.false_eq_true]
  omega
theorem wl_1 {c k a i : Nat} (h : ¬ (a = c ∧ i = k)) : wl [(c, c, some k)] a i = false := by
  cases hc : wl [(c, c, some k)] a i with
  | false => rfl
  | true =>
    simp only [wl, wl1, Bool.or_eq_true, Bool.and_eq_true, Nat.ble_eq, beq_iff_eq, and_true, or_false, Bool.false_eq_true] at hc
    omega
theorem wl_blk {a i : Nat} (h1 : ¬ (a = 123 ∧ i = 0)) (h2 : ¬ (a = 123 ∧ i = 11)) (h3 : a ≠ 124) (h4 : a ≠ 125) : wl [(123, 123, some 0), (123, 123, some 11), (124, 124, none), (125, 125, none)] a i = false := by
  cases hc : wl [(123, 123, some 0), (123, 123, some 11), (124, 124, none), (125, 125, none)] a i with
  | false => rfl
  | true =>
    simp only [wl, wl1, Bool.or_eq_true, Bool.and_eq_true, Nat.ble_eq, beq_iff_eq, and_true, or_false, Bool.false_eq_true] at hc
    omega
section EA2
variable {la lb : Nat} {m m1 m2 : Nat → Nat → Int32}
theorem EA_isR (I : IV BB m) (hl : la = 77 ∨ la = 88) (h : EQA la lb m) (e : EQW m2) (r : ∀ a i, isR a i = true → m2 a i = m a i) : EQA la lb m2 :=
  ⟨e, REST_k hl (I 0 2).2 h.2 (fun a i _ q => r a i q) (fun a i _ q => r a i q)⟩
theorem blank_EA {n w : Int} (I : IV BB m) (hl : la = 77 ∨ la = 88) (h : EQA la lb m) (e : EQW m2) (b : BLK n (m 0 2).toInt (m 1 1).toInt (LET 2 m n) w (m1 0 2).toInt (m1 1 1).toInt) (k1 : (m1 0 2).toInt = (m 0 2).toInt + 1 → RST m1 (4 + 7 * (m 0 2).toInt.toNat)) (k2 : ∀ a i, 5 ≤ a → a ≤ 59 → ((m1 0 2).toInt = (m 0 2).toInt ∨ a < 4 + 7 * (m 0 2).toInt.toNat ∨ 4 + 7 * (m 0 2).toInt.toNat + 6 < a) → m1 a i = m a i)
    (f : fr wPb m m1) (d : ∀ a i, ¬ (a = 123 ∧ i = 0) → ¬ (a = 123 ∧ i = 11) → a ≠ 124 → a ≠ 125 → m2 a i = m1 a i) : EQA la lb m2 := by
  obtain ⟨h1, h2, h3, h4, h5, h6, h7⟩ := h.2
  have b8 : (m 0 2).toInt ≤ 8 := (I 0 2).2
  have b0 : 0 ≤ (m 0 2).toInt := (I 0 2).1
  have hc : (m1 0 2).toInt = (m 0 2).toInt + 1 ∨ (m1 0 2).toInt = (m 0 2).toInt := by
    rcases b with ⟨a1, a2, a3, a4, a5, ⟨a6, a7, a8⟩ | ⟨a6, a7, a8⟩⟩ | ⟨a1, a2, a3, a4⟩ <;> omega
  have c2 : m2 0 2 = m1 0 2 := d 0 2 (by omega) (by omega) (by omega) (by omega)
  have gr : ∀ a i, 126 ≤ a → a ≤ 168 → m2 a i = m a i := fun a i q1 q2 => (d a i (by omega) (by omega) (by omega) (by omega)).trans (f a i (wPb_hi (by omega) q2))
  have g3 : ∀ i, i ≠ 0 → i ≠ 11 → m2 123 i = m 123 i := fun i q1 q2 => (d 123 i (by omega) (by omega) (by omega) (by omega)).trans (f 123 i (wPb_hi (by omega) (by omega)))
  have gk : ∀ a i, 97 ≤ a → a ≤ 103 → m2 a i = m a i := fun a i q1 q2 => (d a i (by omega) (by omega) (by omega) (by omega)).trans (f a i (wg_no (K := [(97, 103, none)]) (by decide) (by
    simp only [wl, wl1, Bool.or_eq_true, Bool.and_eq_true, Nat.ble_eq, and_true, or_false, Bool.false_eq_true]
    omega)))
  have hcell : ∀ x : Nat, (x : Int) < (m 0 2).toInt → ∀ a i, 4 + 7 * x < a → a ≤ 4 + 7 * x + 6 → m2 a i = m a i := fun x hx a i q1 q2 => (d a i (by omega) (by omega) (by omega) (by omega)).trans (k2 a i (by omega) (by omega) (Or.inr (Or.inl (by omega))))
  refine ⟨e, fun x w' hx hw => ?_, fun x hx => ?_, BKE_k h3 gk (fun a i q1 q2 => gr a i (by omega) (by omega)) (g3 3 (by omega) (by omega)), BKI_k h4 gk (fun x hx => hcell x hx _ _ (by omega) (by omega)) (by rw [c2]; omega), LWE_k hl h5 ?_ ?_ ?_ (fun a i q1 q2 => gr a i (by omega) (by omega)) (g3 20 (by omega) (by omega)), h6, ?_⟩
  · have z : m2 (4 + 7 * x + 6) w' = m (4 + 7 * x + 6) w' := by
      refine (d _ _ (by omega) (by omega) (by omega) (by omega)).trans ?_
      have : x = 0 ∨ x = 1 ∨ x = 2 ∨ x = 3 ∨ x = 4 ∨ x = 5 ∨ x = 6 ∨ x = 7 := by omega
      rcases this with rfl | rfl | rfl | rfl | rfl | rfl | rfl | rfl <;> exact f _ _ rfl
    rw [z, gr 128 _ (by omega) (by omega)]
    exact h1 x w' hx hw
  · rw [c2] at hx
    by_cases z : (x : Int) < (m 0 2).toInt
    · exact RST_eq (h2 x z) (fun a j q1 q2 => hcell x z a j (by omega) (by omega))
    · have hc1 : (m1 0 2).toInt = (m 0 2).toInt + 1 := by omega
      have hx2 : x = (m 0 2).toInt.toNat := by omega
      subst hx2
      exact RST_eq (k1 hc1) (fun a j q1 q2 => d a j (by omega) (by omega) (by omega) (by omega))
  · rcases hl with rfl | rfl <;> exact (d _ _ (by omega) (by omega) (by omega) (by omega)).trans (f _ _ rfl)
  · rcases hl with rfl | rfl <;> exact (d _ _ (by omega) (by omega) (by omega) (by omega)).trans (f _ _ rfl)
  · intro a i q1 q2
    refine (d a i (by omega) (by omega) (by omega) (by omega)).trans (f a i (wg_no (K := [(78, 83, none), (89, 94, none)]) (by decide) ?_))
    simp only [wl, wl1, Bool.or_eq_true, Bool.and_eq_true, Nat.ble_eq, and_true, or_false, Bool.false_eq_true]
    omega
  · rw [d 0 8 (by omega) (by omega) (by omega) (by omega), f 0 8 rfl, g3 2 (by omega) (by omega)]
    exact h7
theorem wPl_no {a i : Nat} (h : (5 ≤ a ∧ a ≤ 59) ∨ (97 ≤ a ∧ a ≤ 103) ∨ (123 ≤ a ∧ a ≤ 168)) : wPl a i = false := by
  refine wg_no (K := [(5, 59, none), (97, 103, none), (123, 168, none)]) (by decide) ?_
  simp only [wl, wl1, Bool.or_eq_true, Bool.and_eq_true, Nat.ble_eq, and_true, or_false, Bool.false_eq_true]
  omega
theorem law_EA {n : Int} {v w : Int32} {r r1 : Nat → Value} (I : IV BB m) (hl : la = 77 ∨ la = 88) (hb : lb = 77 ∨ lb = 88) (h : EQA la lb m) (e : EQW m2) (r1a : r 1 = .ref la) (r3a : r 3 = .ref lb) (c1 : LWV n (m 1 1).toInt (tK (m 2) n) v.toInt) (z : LWZ m m1 la lb (tK (m 2) n) r r1 v.toInt) (c2 : LWV n (m1 123 11).toInt (tN (m1 129) n) w.toInt) (rd : RDR (tN (m1 129) n) m1 m2 w.toInt)
    (f : fr wPl m m1) (dl : ∀ a i, a ≤ 122 → m2 a i = m1 a i) (d8 : ∀ j, m2 128 j = m1 128 j) (d3 : m2 123 3 = m1 123 3) (d2 : m2 123 2 = m1 123 2) (db : ∀ a i, 143 ≤ a → a ≤ 148 → m2 a i = m1 a i) : w = v ∧ ∀ la' lb', r1 1 = .ref la' → r1 3 = .ref lb' → EQA la' lb' m2 := by
  have ev : w.toInt = v.toInt := law_A h.1.1 (f 123 11 rfl) (fun j => f 129 j rfl) c1 c2
  refine ⟨Int32.toInt_inj.mp ev, fun la' lb' q1 q3 => ?_⟩
  obtain ⟨h1, h2, h3, h4, h5, h6, h7⟩ := h.2
  have b8 : (m 0 2).toInt ≤ 8 := (I 0 2).2
  have lo : ∀ a i, 5 ≤ a → a ≤ 59 → m2 a i = m a i := fun a i q1 q2 => (dl a i (by omega)).trans (f a i (wPl_no (by omega)))
  have bk : ∀ a i, 97 ≤ a → a ≤ 103 → m2 a i = m a i := fun a i q1 q2 => (dl a i (by omega)).trans (f a i (wPl_no (by omega)))
  have x2 : m2 0 2 = m 0 2 := (dl 0 2 (by omega)).trans (f 0 2 rfl)
  have x8 : m2 0 8 = m2 123 2 := by rw [dl 0 8 (by omega), f 0 8 rfl, d2, f 123 2 rfl]; exact h7
  have hS : STA m2 m2 := STA_k h1 lo (fun j => (d8 j).trans (f 128 j rfl))
  have hR : RSA m2 := RSA_k h2 lo x2 b8
  have hB : BKE m2 m2 := BKE_k h3 bk (fun a i q1 q2 => (db a i q1 q2).trans (f a i (wPl_no (by omega)))) (d3.trans (f 123 3 rfl))
  have hI : BKI m2 := BKI_k h4 bk (fun b hb => lo _ _ (by omega) (by omega)) (by rw [x2]; exact Int.le_refl _)
  rcases z with ⟨z1, z2, z3, z4, z5, z6⟩ | ⟨z1, z2, z3, z4, z5⟩
  · rw [z2, r1a] at q1
    rw [z3, r3a] at q3
    cases q1
    cases q3
    have s := rd.2 (by omega)
    exact ⟨e, hS, hR, hB, hI, LWE_k hl h5 ((dl _ _ (by omega)).trans z4) ((dl _ _ (by omega)).trans z5) (fun a i q1 q2 => (dl a i (by omega)).trans (z6 a i q1 q2)) (fun a i q1 q2 => (s.1 a i q1 q2).trans (f a i (wPl_no (by omega)))) (s.2.trans (f 123 20 rfl)), h6, x8⟩
  · rw [z2] at q1
    rw [z3] at q3
    cases q1
    cases q3
    have hn : 1 ≤ n ∧ n ≤ (m 1 1).toInt := by
      rcases c1 with ⟨a1, a2, a3, a4⟩ | ⟨a1, a2⟩
      · exact ⟨a1, a3⟩
      · omega
    have et : tN (m1 129) n = tK (m 2) n := by
      rw [show m1 129 = m 129 from funext fun j => f 129 j rfl]
      exact (tK_N h.1.1 hn.1 hn.2).symm
    rw [et] at rd
    have s := rd.1 (by omega)
    have e7 : (m2 lb 7).toInt = v.toInt := by rw [dl _ _ (by omega)]; exact z5
    refine ⟨e, hS, hR, hB, hI, ⟨tK (m 2) n, ?_, ?_, by rw [e7, s.2, ev]⟩, fun q => h6 q.symm, x8⟩
    · rw [e7]
      exact LAWc_m z4 (dl _ _ (by omega)) (fun a j q1 q2 => dl a j (by omega))
    · rw [s.2]
      exact s.1
end EA2
