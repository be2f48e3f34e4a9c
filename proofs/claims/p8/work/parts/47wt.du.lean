/-! done: the reference's, and both sides together -/
theorem FCr_m {m mp : Nat → Nat → Int32} {b p : Nat} {k : Int} {fa : Nat → Int32} (h : FCr mp b p k fa) (h8 : ∀ j, mp 128 j = m 128 j) (h5 : ∀ j, mp 125 j = m 125 j) (h4 : ∀ j, mp 124 j = m 124 j) (h1 : mp 123 1 = m 123 1) : FCr m b p k fa := by
  unfold FCr at h ⊢
  rw [show mp 128 = m 128 from funext h8, show mp 125 = m 125 from funext h5, h4, h1] at h
  exact h
theorem CKr_m {m mp : Nat → Nat → Int32} {t : Int → Int} {b n0 : Nat} {k : Int} {c : Nat → Option Int} {pr : Nat → Int32} (h : CKr mp t b k n0 c pr) (h8 : ∀ j, mp 128 j = m 128 j) (h5 : ∀ j, mp 125 j = m 125 j) (h4 : ∀ j, mp 124 j = m 124 j) (h1 : mp 123 1 = m 123 1) (h20 : mp 123 20 = m 123 20) : CKr m t b k n0 c pr := fun p hp => by
  rcases h p hp with ⟨⟨fa, a1, a2⟩, ⟨ga, b1, b2⟩, c1⟩ | ⟨⟨fa, a1, a2⟩, c1⟩
  · exact Or.inl ⟨⟨fa, FCr_m a1 h8 h5 h4 h1, by rw [← h20]; exact a2⟩, ⟨ga, FCr_m b1 h8 h5 h4 h1, by rw [← h20]; exact b2⟩, c1⟩
  · exact Or.inr ⟨⟨fa, FCr_m a1 h8 h5 h4 h1, by rw [← h20]; exact a2⟩, c1⟩
theorem enc_lt {x : Option Int} {v : Int} (h : v = enc 1000000000 x) (hv : v < 1000000000) : ∃ u, x = some u := by
  cases x with
  | none => have h : v = 1000000000 := h; omega
  | some u => exact ⟨u, rfl⟩
theorem enc_ge {x : Option Int} {v : Int} (h : v = enc 1000000000 x) (hv : 1000000000 ≤ v) (hx : ∀ w, x = some w → w ≤ 3960) : x = none := by
  cases x with
  | none => rfl
  | some u => have h : v = u := h; have := hx u rfl; omega
section ST
variable {r dd r2 dd2 : Nat → Int32} {c c2 : Nat → Option Int} {n0 n1 : Nat}
theorem kpp_eq (hr : ∀ p, p < n0 → r2 p = r p) (hd : ∀ j, j < n1 → dd2 j = dd j) (hc : ∀ p, p < n0 → c2 p = c p) {p j : Nat} (hp : p < n0) : kpp r2 dd2 c2 n0 n1 p j ↔ kpp r dd c n0 n1 p j := by
  unfold kpp
  rw [ctv_eq hr hd hc _ (by omega), ctv_eq hr hd hc _ (by omega), hr p hp]
  constructor
  · rintro ⟨a1, a2, a3⟩; exact ⟨a1, by rw [← hd _ a1]; exact a2, a3⟩
  · rintro ⟨a1, a2, a3⟩; exact ⟨a1, by rw [hd _ a1]; exact a2, a3⟩
theorem jtp_eq (hr : ∀ p, p < n0 → r2 p = r p) (hd : ∀ j, j < n1 → dd2 j = dd j) (hc : ∀ p, p < n0 → c2 p = c p) : ∀ p, p ≤ n0 → jtp r2 dd2 c2 n0 n1 p = jtp r dd c n0 n1 p
  | 0, _ => rfl
  | p + 1, h => by
    have ih := jtp_eq hr hd hc p (by omega)
    by_cases z : kpp r dd c n0 n1 p (jtp r dd c n0 n1 p)
    · have z2 : kpp r2 dd2 c2 n0 n1 p (jtp r2 dd2 c2 n0 n1 p) := by rw [ih]; exact (kpp_eq hr hd hc (by omega)).mpr z
      rw [jtp_y z, jtp_y z2, ih]
    · have z2 : ¬ kpp r2 dd2 c2 n0 n1 p (jtp r2 dd2 c2 n0 n1 p) := by rw [ih]; exact fun q => z ((kpp_eq hr hd hc (by omega)).mp q)
      rw [jtp_n z, jtp_n z2, ih]
theorem STS_q (hr : ∀ p, p < n0 → r2 p = r p) (hd : ∀ j, j < n1 → dd2 j = dd j) (hc : ∀ p, p < n0 → c2 p = c p) {f : Nat → Int32} (h : STS r2 dd2 c2 n0 n1 f) : STS r dd c n0 n1 f := fun p hp hk => by
  have e := jtp_eq hr hd hc p (by omega)
  have q := h p hp (by rw [e]; exact (kpp_eq hr hd hc hp).mpr hk)
  rw [e] at q
  exact q
end ST
/-- what CHEAPEST finds, the reference's -/
def CHE (m M : Nat → Nat → Int32) (t : Int → Int) (b : Nat) (cl : Int) (n0 n1 i : Nat) (v : Int) : Prop := ∃ (c : Nat → Option Int) (r dd : Nat → Int32), CKr m t b cl n0 c (M 152) ∧ (∀ p, p < n0 → ∃ w, IsN (m 128) (40 * b) (m 124 b).toInt.toNat p w ∧ r p = m 125 (40 * b + w)) ∧ (∀ k, k < n1 → dd k = m 127 (16 * i + k)) ∧ ((ctv r dd c n0 n1 n0 0 = none ∧ v = -2) ∨ ∃ u, ctv r dd c n0 n1 n0 0 = some u ∧ 0 ≤ u ∧ v = u ∧ STS r dd c n0 n1 (M 154))
/-- done's answers, the reference's -/
def DONr (ok same : Prop) (m M : Nat → Nat → Int32) (t : Int → Int) (b : Nat) (cl : Int32) (n0 n1 i : Nat) (v : Int) : Prop := (¬ ok ∧ v = -1 ∧ same) ∨ (ok ∧ ∃ (c : Nat → Option Int) (pr r dd : Nat → Int32), CKr m t b cl.toInt n0 c pr ∧ (∀ p, p < n0 → ∃ w, IsN (m 128) (40 * b) (m 124 b).toInt.toNat p w ∧ r p = m 125 (40 * b + w)) ∧ (∀ k, k < n1 → dd k = m 127 (16 * i + k)) ∧ ((ctv r dd c n0 n1 n0 0 = none ∧ v = -2 ∧ same) ∨ (∃ (u : Int) (f : Nat → Int32), ctv r dd c n0 n1 n0 0 = some u ∧ STS r dd c n0 n1 f ∧ ((60 < (m 123 3).toInt + (dn (fun k => (f k).toInt.toNat) n1 n0).length ∧ v = -3 ∧ same) ∨ ((m 123 3).toInt + (dn (fun k => (f k).toInt.toNat) n1 n0).length ≤ 60 ∧ v = (dn (fun k => (f k).toInt.toNat) n1 n0).length ∧ ∃ mq, (∀ a i, isR a i = true → mq a i = m a i) ∧ mq 123 1 = m 123 1 ∧ (∀ j, mq 125 j = m 125 j) ∧ SQr b cl pr (dn (fun k => (f k).toInt.toNat) n1 n0) mq M)))))
theorem mk_frK {a i : Nat} (h2 : ¬ (a = 123 ∧ i = 3)) (h1 : a ≠ 128) (h3 : a < 143 ∨ 148 < a) : wl [(123, 123, some 3), (128, 128, none), (143, 143, none), (144, 144, none), (145, 145, none), (146, 146, none), (147, 147, none), (148, 148, none)] a i = false := by
  cases hc : wl [(123, 123, some 3), (128, 128, none), (143, 143, none), (144, 144, none), (145, 145, none), (146, 146, none), (147, 147, none), (148, 148, none)] a i with
  | false => rfl
  | true =>
    simp only [wl, wl1, Bool.or_eq_true, Bool.and_eq_true, Nat.ble_eq, beq_iff_eq, and_true, or_false, Bool.false_eq_true] at hc
    omega
theorem SQr_n {b : Nat} {cl : Int32} {pr : Nat → Int32} : ∀ {L : List (Nat × Nat)} {m M : Nat → Nat → Int32}, SQr b cl pr L m M → (M 123 3).toInt = (m 123 3).toInt + L.length
  | [], _, _, h => by have h : _ = _ := h; subst h; show _ = _ + ((0 : Nat) : Int); omega
  | _ :: _, _, _, ⟨M1, h1, h2, h3⟩ => by
    have b := SQr_n h3
    have := h1.2.1
    rw [List.length_cons]
    omega
theorem SQr_pr {b : Nat} {cl : Int32} {pr qr : Nat → Int32} : ∀ {L : List (Nat × Nat)} {m M : Nat → Nat → Int32}, (∀ q ∈ L, ∀ i, i < q.2 → qr (q.1 + i) = pr (q.1 + i)) → SQr b cl pr L m M → SQr b cl qr L m M
  | [], _, _, _, h => h
  | q :: L, _, _, e, ⟨M1, h1, h2, h3⟩ => ⟨M1, by rw [smc_eq (f := fun i => pr (q.1 + i)) q.2 (fun i hi => e q (List.mem_cons_self ..) i hi)]; exact h1, h2, SQr_pr (fun x hx => e x (List.mem_cons_of_mem _ hx)) h3⟩
theorem CGI_e0 {st : Nat → Nat} {k n : Nat} {tot fr g tot2 : Int} (h : CGI st k tot fr) (hg : g = ((n : Int) - fr + 8) / 9) (h0 : 0 ≤ (n : Int) - fr) (ht : tot2 = tot + g) : tot2 = (dn st k n).length := by
  rcases h with ⟨h1, h2, h3⟩ | ⟨j, h1, h2, h3⟩
  · subst h1
    show _ = ((gp 0 n).length : Int)
    rw [gp_len _ _ (Nat.le_refl _)]
    omega
  · subst h1
    rw [dn_s, List.length_append, gp_len _ _ (Nat.le_refl _)]
    omega
/-- while a gap is struck, the reference -/
def DGR (m M : Nat → Nat → Int32) (b : Nat) (cl : Int32) (pr : Nat → Int32) (st : Nat → Nat) (n1 n0 : Nat) (j : Int) (a stop : Nat) : Prop := (∃ L, dn st n1 n0 = L ++ (gp a stop ++ (if j < 0 then [] else dn st j.toNat (st j.toNat))) ∧ SQr b cl pr L m M) ∧ (stop : Int) ≤ nu M b 0
/-- between gaps -/
def DNR (m M : Nat → Nat → Int32) (b : Nat) (cl : Int32) (pr : Nat → Int32) (st : Nat → Nat) (n1 n0 : Nat) (j t : Int) : Prop := (-1 ≤ j → 0 ≤ t ∧ (∃ L, dn st n1 n0 = L ++ dn st (j + 1).toNat t.toNat ∧ SQr b cl pr L m M) ∧ t ≤ nu M b 0) ∧ (j < -1 → SQr b cl pr (dn st n1 n0) m M)
section DG
variable {m M M2 : Nat → Nat → Int32} {b : Nat} {cl : Int32} {pr : Nat → Int32} {st : Nat → Nat} {n1 n0 : Nat} {j t : Int} {a stop : Nat}
theorem DNR_0 (hj : j = (n1 : Int) - 1) (ht : t = n0) (h : (n0 : Int) ≤ nu m b 0) : DNR m m b cl pr st n1 n0 j t := ⟨fun _ => ⟨by omega, ⟨[], by rw [show (j + 1).toNat = n1 by omega, show t.toNat = n0 by omega]; rfl, rfl⟩, by omega⟩, fun q => by omega⟩
theorem DGR_in (h : DNR m M b cl pr st n1 n0 j t) (hj : -1 ≤ j) (ha : (j < 0 ∧ a = 0) ∨ (0 ≤ j ∧ a = st j.toNat + 1)) (hs : (stop : Int) = t) : DGR m M b cl pr st n1 n0 j a stop := by
  obtain ⟨t0, ⟨L, l1, l2⟩, t1⟩ := h.1 hj
  refine ⟨⟨L, ?_, l2⟩, by omega⟩
  rw [l1, show t.toNat = stop by omega]
  congr 1
  rcases ha with ⟨h1, h2⟩ | ⟨h1, h2⟩
  · rw [if_pos h1, show (j + 1).toNat = 0 by omega, h2, List.append_nil]; rfl
  · rw [if_neg (by omega), show (j + 1).toNat = j.toNat + 1 by omega, dn_s, h2]
theorem DGR_s {stop2 p n : Nat} {c : Int32} (h : DGR m M b cl pr st n1 n0 j a stop) (hs : a < stop) (hp : (a + 9 ≤ stop ∧ p + 9 = stop) ∨ (stop < a + 9 ∧ p = a)) (hn : p + n = stop) (s : STKr M M2 b p n cl c) (hc : c = smc (fun i => pr (p + i)) n) (f : frK M M2) (hu : nu M2 b 0 = nu M b 0 - n) (h2 : stop2 = p) : DGR m M2 b cl pr st n1 n0 j a stop2 := by
  obtain ⟨⟨L, l1, l2⟩, r⟩ := h
  subst hc
  refine ⟨⟨L ++ [(p, n)], ?_, SQr_app l2 ⟨M2, s, f, rfl⟩⟩, by omega⟩
  rw [l1, List.append_assoc, ← List.append_assoc [(p, n)]]
  congr 2
  subst h2
  by_cases y : a + 9 ≤ stop
  · rw [gp_9 y, show stop2 = stop - 9 by omega, show n = 9 by omega]; rfl
  · rw [gp_1 hs (by omega), gp_0 (t := stop2) (by omega), show stop2 = a by omega, show n = stop - a by omega]; rfl
theorem DGR_out {j2 t2 : Int} (h : DGR m M b cl pr st n1 n0 j a stop) (hj : -1 ≤ j) (ha : (j < 0 ∧ a = 0) ∨ (0 ≤ j ∧ a = st j.toNat + 1)) (hs : stop = a) (hj2 : j2 = j - 1) (ht : t2 = (a : Int) - 1) : DNR m M b cl pr st n1 n0 j2 t2 := by
  obtain ⟨⟨L, l1, l2⟩, r⟩ := h
  rw [gp_0 (by omega), List.nil_append] at l1
  rcases ha with ⟨h1, h2⟩ | ⟨h1, h2⟩
  · rw [if_pos h1, List.append_nil] at l1
    exact ⟨fun q => by omega, fun _ => by rw [l1]; exact l2⟩
  · rw [if_neg (by omega)] at l1
    exact ⟨fun _ => ⟨by omega, ⟨L, by rw [l1, show (j2 + 1).toNat = j.toNat by omega, show t2.toNat = st j.toNat by omega], l2⟩, by omega⟩, fun q => by omega⟩
theorem DGR_room (h : DGR m M b cl pr st n1 n0 j a stop) (hs : a < stop) (hr : (m 123 3).toInt + (dn st n1 n0).length ≤ 60) : (M 123 3).toInt ≤ 59 := by
  obtain ⟨⟨L, l1, l2⟩, _⟩ := h
  have q := SQr_n l2
  have l := congrArg List.length l1
  rw [List.length_append, List.length_append] at l
  have : 1 ≤ (gp a stop).length := by rw [gp_len stop stop (Nat.le_refl _)]; omega
  omega
end DG
theorem dn_eq {st st2 : Nat → Nat} : ∀ (k t : Nat), (∀ j, j < k → st2 j = st j) → dn st2 k t = dn st k t
  | 0, _, _ => rfl
  | k + 1, t, h => by rw [dn_s, dn_s, h k (by omega), dn_eq k (st k) (fun j hj => h j (by omega))]
theorem inc_le {st : Nat → Nat} {n : Nat} (h : ∀ j, j + 1 < n → st j < st (j + 1)) {j : Nat} : ∀ d, j + d < n → st j ≤ st (j + d)
  | 0, _ => Nat.le_refl _
  | d + 1, hd => by
    have a := inc_le (j := j) h d (by omega)
    have b := h (j + d) (by omega)
    rw [← Nat.add_assoc]
    omega
theorem dn_in {st : Nat → Nat} : ∀ (k t : Nat), (∀ j, j + 1 < k → st j < st (j + 1)) → (∀ j, j < k → st j < t) → ∀ q ∈ dn st k t, ∀ i, i < q.2 → q.1 + i < t ∧ ∀ j, j < k → st j ≠ q.1 + i
  | 0, t, _, _, q, hq, i, hi => by
    have z := gp_ge t t (Nat.le_refl _) q hq
    exact ⟨by omega, fun j hj => absurd hj (Nat.not_lt_zero _)⟩
  | k + 1, t, h1, h2, q, hq, i, hi => by
    rw [dn_s] at hq
    have hk := h2 k (by omega)
    rcases List.mem_append.mp hq with hq | hq
    · have z := gp_ge t t (Nat.le_refl _) q hq
      refine ⟨by omega, fun j hj => ?_⟩
      have y := inc_le h1 (j := j) (k - j) (by omega)
      rw [show j + (k - j) = k by omega] at y
      omega
    · have z := dn_in k (st k) (fun j hj => h1 j (by omega)) (fun j hj => by
        have y := inc_le h1 (j := j) (k - 1 - j) (by omega)
        rw [show j + (k - 1 - j) = k - 1 by omega] at y
        have y2 := h1 (k - 1) (by omega)
        rw [show k - 1 + 1 = k by omega] at y2
        omega) q hq i hi
      refine ⟨by omega, fun j hj => ?_⟩
      by_cases y : j = k
      · subst y; omega
      · exact z.2 j (by omega)
section DE
variable {la lb : Nat} {m m1 m2 : Nat → Nat → Int32}
/-- DEEDS as written, in both sides' places -/
theorem dd_1 {x : Int32} (I : IV BB m) (h : EQW m) : (ddv m x).toInt = 1 ↔ (idr m x).toInt = 1 := by
  obtain ⟨hE, hD, hB⟩ := h
  have e1 : (ddv m x).toInt = 1 ↔ (0 ≤ x.toInt ∧ x.toInt ≤ 7 ∧ 0 < (m (61 + 2 * x.toInt.toNat) 1).toInt) := by
    unfold ddv
    split
    · rename_i q; exact ⟨fun _ => q, fun _ => by decide⟩
    · rename_i q; exact ⟨fun z => absurd z (by decide), fun z => absurd z q⟩
  have e2 : (idr m x).toInt = 1 ↔ (0 ≤ x.toInt ∧ x.toInt ≤ 7 ∧ (amv (m 123 4) x).toInt = 1) := by
    unfold idr
    split
    · rename_i q; exact ⟨fun _ => q, fun _ => by decide⟩
    · rename_i q; exact ⟨fun z => absurd z (by decide), fun z => absurd z q⟩
  have e3 : 0 ≤ x.toInt → x.toInt ≤ 7 → ((amv (m 123 4) x).toInt = 1 ↔ 0 < (m (61 + 2 * x.toInt.toNat) 1).toInt) := fun h0 h7 => by
    obtain ⟨a1, a2, a3⟩ := hD x.toInt.toNat (by omega)
    rw [ofn h0] at a3
    rw [a3, a1]
  rw [e1, e2]
  exact ⟨fun q => ⟨q.1, q.2.1, (e3 q.1 q.2.1).mpr q.2.2⟩, fun q => ⟨q.1, q.2.1, (e3 q.1 q.2.1).mp q.2.2⟩⟩
theorem dd_row {i : Nat} (h : EQW m) (hi : i < 8) : (m (61 + 2 * i) 1).toInt = (m 126 i).toInt ∧ ∀ k : Nat, (k : Int) < (m 126 i).toInt → m 127 (16 * i + k) = m (62 + 2 * i) k := by
  obtain ⟨a1, a2, _⟩ := h.2.1 i hi
  exact ⟨a1, fun k hk => (Int32.toInt_inj.mp (a2 k hk)).symm⟩
theorem FGH_ok {x : Int32} (h : (idr m x).toInt = 1) : 0 ≤ x.toInt ∧ x.toInt ≤ 7 := by
  unfold idr at h
  split at h
  · rename_i q; exact ⟨q.1, q.2.1⟩
  · exact absurd h (by decide)
/-- what is LEFT as a row, in both sides' places -/
theorem left_row {b : Nat} {mc mr : Nat → Nat → Int32} {r : Nat → Int32} (hS : SB2 mc mr) (h : REST la lb mc mr) (hb : (b : Int) < (mc 0 2).toInt) {p : Nat} (hp : (p : Int) < (mc (4 + 7 * b + 3) 1).toInt) (hr : ∃ w, IsN (mr 128) (40 * b) (mr 124 b).toInt.toNat p w ∧ r p = mr 125 (40 * b + w)) : r p = mc (4 + 7 * b + 4) p := by
  obtain ⟨w, w1, w2⟩ := hr
  obtain ⟨hA, hR, _⟩ := h
  obtain ⟨b1, b2, b8, b3⟩ := hS
  obtain ⟨⟨n0, n40⟩, n1, n2⟩ := b3 b hb
  have q := RST_at (p := (p : Int)) (hR b hb) (by omega) hp
  rw [show ((p : Nat) : Int).toNat = p by omega] at q
  obtain ⟨q1, q2, q3⟩ := q
  have eN : (mr 124 b).toInt.toNat = wrN mc (4 + 7 * b) := by unfold wrN; rw [show 4 + 7 * b + 1 = 5 + 7 * b by omega, ← n1]
  have wn40 : wrN mc (4 + 7 * b) ≤ 40 := by unfold wrN; rw [show 4 + 7 * b + 1 = 5 + 7 * b by omega]; omega
  rw [eN] at w1
  have w1' : IsN (mc (4 + 7 * b + 6)) 0 (wrN mc (4 + 7 * b)) p w := IsN_eq (f := mr 128) (b := 40 * b) (c := 0) (fun j hj => by rw [Nat.zero_add]; exact hA b j (by omega) (by omega)) w1
  have e : w = (mc (4 + 7 * b + 5) p).toInt.toNat := IsN_one w1' q2
  have hw : w < wrN mc (4 + 7 * b) := w1'.1
  rw [w2, q3, ← e, show 4 + 7 * b + 2 = 6 + 7 * b by omega]
  refine (Int32.toInt_inj.mp (n2 w ?_)).symm
  rw [← n1]
  unfold wrN at hw
  rw [show 4 + 7 * b + 1 = 5 + 7 * b by omega] at hw
  omega
/-- costs of both sides -/
theorem CKcr_eq {mc mr : Nat → Nat → Int32} {t : Int → Int} {b n0 : Nat} {k : Int} {c c2 : Nat → Option Int} {pr pr2 : Nat → Int32} (hS : SB2 mc mr) (hA : STA mc mr) (hn : (mc la 7).toInt = (mr 123 20).toInt) (hb : (b : Int) < (mc 0 2).toInt) (h : CKc mc la t b k n0 c pr) (h2 : CKr mr t b k n0 c2 pr2) {p : Nat} (hp : p < n0) : c2 p = c p ∧ (c p ≠ none → pr2 p = pr p) := by
  obtain ⟨a1, a2, a3⟩ := h p hp
  rcases h2 p hp with ⟨d1, d2, d3⟩ | ⟨d1, d3⟩ <;> rcases a3 with ⟨a3, a4⟩ | ⟨a3, a4⟩
  · have e := PR_eq hS hA hn hb a1 d2
    exact ⟨by rw [d3, a4, e], fun _ => e.symm⟩
  · exact (FB_FF hS hA hn hb a3 d1).elim
  · exact (FF_FB hS hA hn hb a3 d1).elim
  · exact ⟨by rw [d3, a4], fun q => absurd a4 q⟩
theorem done_EA {x0 x1 x2 v w : Int32} {t : Int → Int} (I : IV BB m) (hl : la = 77 ∨ la = 88) (h : EQA la lb m)
    (c : DONc ((0 ≤ x0.toInt ∧ x0.toInt < (m 0 2).toInt) ∧ (ddv m x1).toInt = 1 ∧ 0 ≤ x2.toInt ∧ x2.toInt ≤ 7) m m1 la t x0.toInt.toNat x2 (m (4 + 7 * x0.toInt.toNat + 4)) (m (62 + 2 * x1.toInt.toNat)) (m (4 + 7 * x0.toInt.toNat + 3) 1).toInt.toNat (m (61 + 2 * x1.toInt.toNat) 1).toInt.toNat v.toInt)
    (r : DONr ((0 ≤ x0.toInt ∧ x0.toInt < (m1 123 0).toInt) ∧ (idr m1 x1).toInt = 1 ∧ 0 ≤ x2.toInt ∧ x2.toInt ≤ 7) (∀ a j, isR a j = true → m2 a j = m1 a j) m1 m2 t x0.toInt.toNat x2 (nu m1 x0.toInt 0).toNat (m1 126 x1.toInt.toNat).toInt.toNat x1.toInt.toNat w.toInt)
    (fo : fr wO m m1) (rl : ∀ a i, a ≤ 122 → m2 a i = m1 a i) (rf : ∀ a i, isF a i = true → m2 a i = m1 a i) (r0 : m2 123 0 = m1 123 0) (r4 : ∀ j, m2 124 j = m1 124 j) : w = v ∧ EQA la lb m2 := by
  have hR := REST_m I hl h fo
  have hS := SB2_m I h fo
  have hn : (m la 7).toInt = (m1 123 20).toInt := by obtain ⟨_, _, _, q⟩ := hR.2.2.2.2.1; exact q
  have hbk : (m 97 6).toInt = (m1 123 3).toInt := hR.2.2.1.1
  have hc0 : (m 0 2).toInt = (m1 123 0).toInt := hS.2.1
  have hdd : (ddv m x1).toInt = 1 ↔ (idr m1 x1).toInt = 1 := by
    have e : idr m1 x1 = idr m x1 := by unfold idr; rw [fo 123 4 rfl]
    rw [e]
    exact dd_1 I h.1
  rcases c with ⟨c1, c2, c3⟩ | ⟨c1, cc, pc, cK, c2⟩ <;> rcases r with ⟨r1, r2, r3⟩ | ⟨r1, cr, pr, rr, dr, rK, rR, rD, r2⟩
  · exact ⟨Int32.toInt_inj.mp (r2.trans c2.symm), EQA_k I hl h (fun a i q => (r3 a i q).trans (c3 a i (wN_isR q))) (fun a i q => (rf a i q).trans (c3 a i (wN_isF q)))⟩
  · exact absurd ⟨⟨r1.1.1, by rw [hc0]; exact r1.1.2⟩, hdd.mpr r1.2.1, r1.2.2⟩ c1
  · exact absurd ⟨⟨c1.1.1, by rw [← hc0]; exact c1.1.2⟩, hdd.mp c1.2.1, c1.2.2⟩ r1
  · have c10 := c1.1
    have ex : ((x0.toInt.toNat : Nat) : Int) = x0.toInt := by omega
    have hb : ((x0.toInt.toNat : Nat) : Int) < (m 0 2).toInt := by omega
    have hx1 := FGH_ok r1.2.1
    have hz := SZ_nu (b := x0.toInt.toNat) hS hR hb
    rw [ex] at hz
    have hn0 : (nu m1 x0.toInt 0).toNat = (m (4 + 7 * x0.toInt.toNat + 3) 1).toInt.toNat := by rw [hz]
    have d1 := dd_row (i := x1.toInt.toNat) h.1 (by omega)
    have hn1 : (m1 126 x1.toInt.toNat).toInt.toNat = (m (61 + 2 * x1.toInt.toNat) 1).toInt.toNat := by rw [fo 126 _ rfl, d1.1]
    rw [hn0] at rK rR r2
    rw [hn1] at rD r2
    have hr : ∀ p, p < (m (4 + 7 * x0.toInt.toNat + 3) 1).toInt.toNat → rr p = m (4 + 7 * x0.toInt.toNat + 4) p := fun p hp => left_row hS hR hb (by omega) (rR p hp)
    have hd : ∀ k, k < (m (61 + 2 * x1.toInt.toNat) 1).toInt.toNat → dr k = m (62 + 2 * x1.toInt.toNat) k := fun k hk => by
      rw [rD k hk, fo 127 _ rfl]
      exact d1.2 k (by have := d1.1; omega)
    have hc : ∀ p, p < (m (4 + 7 * x0.toInt.toNat + 3) 1).toInt.toNat → cr p = cc p := fun p hp => (CKcr_eq hS hR.1 hn hb cK rK hp).1
    rw [ctv_eq hr hd hc _ (Nat.le_refl _)] at r2
    rcases c2 with ⟨c2, c3, c4⟩ | ⟨u, f, c2, c3, c4⟩ <;> rcases r2 with ⟨r2, r3, r5⟩ | ⟨u2, f2, r2, r3, r5⟩
    · exact ⟨Int32.toInt_inj.mp (r3.trans c3.symm), EQA_k I hl h (fun a i q => (r5 a i q).trans (c4 a i (wN_isR q))) (fun a i q => (rf a i q).trans (c4 a i (wN_isF q)))⟩
    · rw [c2] at r2; cases r2
    · rw [c2] at r2; cases r2
    · have hne : ctv (m (4 + 7 * x0.toInt.toNat + 4)) (m (62 + 2 * x1.toInt.toNat)) cc (m (4 + 7 * x0.toInt.toNat + 3) 1).toInt.toNat (m (61 + 2 * x1.toInt.toNat) 1).toInt.toNat (m (4 + 7 * x0.toInt.toNat + 3) 1).toInt.toNat 0 ≠ none := by rw [c2]; exact fun q => by cases q
      have hf : ∀ j, j < (m (61 + 2 * x1.toInt.toNat) 1).toInt.toNat → f2 j = f j := fun j hj => STS_det hne (STS_q hr hd hc r3) c3 hj
      have hL : dn (fun k => (f2 k).toInt.toNat) (m (61 + 2 * x1.toInt.toNat) 1).toInt.toNat (m (4 + 7 * x0.toInt.toNat + 3) 1).toInt.toNat = dn (fun k => (f k).toInt.toNat) (m (61 + 2 * x1.toInt.toNat) 1).toInt.toNat (m (4 + 7 * x0.toInt.toNat + 3) 1).toInt.toNat := dn_eq _ _ (fun j hj => by show (f2 j).toInt.toNat = (f j).toInt.toNat; rw [hf j hj])
      rw [hL] at r5
      rcases c4 with ⟨c4, c5, c6⟩ | ⟨c4, c5, mq, c6, c7⟩ <;> rcases r5 with ⟨r5, r6, r7⟩ | ⟨r5, r6, mq2, r7, r8, r9, r10⟩
      · exact ⟨Int32.toInt_inj.mp (r6.trans c5.symm), EQA_k I hl h (fun a i q => (r7 a i q).trans (c6 a i (wN_isR q))) (fun a i q => (rf a i q).trans (c6 a i (wN_isF q)))⟩
      · omega
      · omega
      · refine ⟨Int32.toInt_inj.mp (r6.trans c5.symm), ?_⟩
        have hup : ∀ j, j + 1 < (m (61 + 2 * x1.toInt.toNat) 1).toInt.toNat → (fun k => (f k).toInt.toNat) j < (fun k => (f k).toInt.toNat) (j + 1) := fun j hj => by
          show (f j).toInt.toNat < (f (j + 1)).toInt.toNat
          have q := STS_up hne c3 hj
          obtain ⟨p, p1, _, _, p4⟩ := STS_at hne c3 (j := j) (by omega)
          omega
        have hlt : ∀ j, j < (m (61 + 2 * x1.toInt.toNat) 1).toInt.toNat → (fun k => (f k).toInt.toNat) j < (m (4 + 7 * x0.toInt.toNat + 3) 1).toInt.toNat := fun j hj => by
          show (f j).toInt.toNat < _
          obtain ⟨p, p1, _, _, p4⟩ := STS_at hne c3 hj
          omega
        have r11 : SQr x0.toInt.toNat x2 pc (dn (fun k => (f k).toInt.toNat) (m (61 + 2 * x1.toInt.toNat) 1).toInt.toNat (m (4 + 7 * x0.toInt.toNat + 3) 1).toInt.toNat) mq2 m2 := SQr_pr (fun q hq i hi => by
          obtain ⟨z1, z2⟩ := dn_in _ _ hup hlt q hq i hi
          exact ((CKcr_eq hS hR.1 hn hb cK rK z1).2 (STS_gap hne c3 z1 (fun j hj y => z2 j hj (by show (f j).toInt.toNat = _; omega)))).symm) r10
        have b8 : (m 0 2).toInt ≤ 8 := (I 0 2).2
        have s0 : 0 ≤ (m (4 + 7 * x0.toInt.toNat + 3) 1).toInt := by rw [hz]; exact nu_ge _ _ _
        have hR2 : REST la lb mq mq2 := REST_k hl (I 0 2).2 hR (fun a i _ q => c6 a i (wN_isR q)) (fun a i _ q => r7 a i q)
        have hS2 : SB2 mq mq2 := SB2_k hS (c6 0 7 rfl) (c6 0 2 rfl) (fun a i q _ => (isW_RF q).elim (fun z => c6 a i (wN_isR z)) (fun z => c6 a i (wN_isF z))) (r7 123 0 rfl) r8 (fun j => r7 124 j rfl) r9
        exact EQA_end I hl h (SQ_RE hl _ hS2 hR2 (by rw [c6 0 2 rfl]; exact hb) (dn_dsn _ _ hup hlt) (by rw [c6 (4 + 7 * x0.toInt.toNat + 3) 1 (wN_lo (by omega) (by omega))]; omega) c7 r11) fo rl rf r0 r4
end DE
