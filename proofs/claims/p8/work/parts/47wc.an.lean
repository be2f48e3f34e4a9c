/-! what a LAW says of a PLACE, on both sides -/
def FCc (m : Nat → Nat → Int32) (b p : Nat) (k : Int) (fa : Nat → Int32) : Prop := FCT fa (m (4 + 7 * b + 6)) (m (4 + 7 * b + 2)) 0 0 (wrN m (4 + 7 * b)) p k (m 0 7).toInt b ∧ ∀ j, 10 ≤ j → fa j = 0
def FCr (m : Nat → Nat → Int32) (b p : Nat) (k : Int) (fa : Nat → Int32) : Prop := FCT fa (m 128) (m 125) (40 * b) (40 * b) (m 124 b).toInt.toNat p k (m 123 1).toInt b ∧ ∀ j, 10 ≤ j → fa j = 0
def FBc (m : Nat → Nat → Int32) (la : Nat) (t : Int → Int) (b p : Nat) (k : Int) : Prop := ∃ fa, FCc m b p k fa ∧ FRB t (m la 7).toInt.toNat fa
def FFc (m : Nat → Nat → Int32) (la : Nat) (t : Int → Int) (b p : Nat) (k : Int) : Prop := ∃ fa, FCc m b p k fa ∧ ¬ FRB t (m la 7).toInt.toNat fa
def PRc (m : Nat → Nat → Int32) (la : Nat) (t : Int → Int) (b p : Nat) (k : Int) (v : Int32) : Prop := ∃ fa, FCc m b p k fa ∧ v.toInt = prc t fa (m la 7).toInt.toNat 0
def FBr (m : Nat → Nat → Int32) (t : Int → Int) (b p : Nat) (k : Int) : Prop := ∃ fa, FCr m b p k fa ∧ FRB t (m 123 20).toInt.toNat fa
def FFr (m : Nat → Nat → Int32) (t : Int → Int) (b p : Nat) (k : Int) : Prop := ∃ fa, FCr m b p k fa ∧ ¬ FRB t (m 123 20).toInt.toNat fa
def PRr (m : Nat → Nat → Int32) (t : Int → Int) (b p : Nat) (k : Int) (v : Int32) : Prop := ∃ fa, FCr m b p k fa ∧ v.toInt = prc t fa (m 123 20).toInt.toNat 0
def ASK (m : Nat → Nat → Int32) (la : Nat) (t : Int → Int) (b p : Nat) (k : Int) (f v : Int32) : Prop := ((f.toInt = 1 ∧ FFc m la t b p k) ∨ (f.toInt = 0 ∧ FBc m la t b p k)) ∧ PRc m la t b p k v
theorem FCT_G {F G S L : Nat → Int32} {b c n : Nat} {p k d bn : Int} (h : FCT F S L b c n p k d bn) (e : ∀ j, j < 10 → G j = F j) : FCT G S L b c n p k d bn := by
  obtain ⟨w, a0, a1, a2, a3, a4, a5, a6, a7, a8, a9, a10⟩ := h
  exact ⟨w, a0, by rw [e 0 (by omega)]; exact a1, by rw [e 1 (by omega)]; exact a2, by rw [e 2 (by omega)]; exact a3, by rw [e 3 (by omega)]; exact a4, by rw [e 4 (by omega)]; exact a5, by rw [e 5 (by omega)]; exact a6, by rw [e 6 (by omega)]; exact a7, by rw [e 7 (by omega)]; exact a8, by rw [e 8 (by omega)]; exact a9, by rw [e 9 (by omega)]; exact a10⟩
theorem fsn_lt {m : Nat → Nat → Int32} {a j : Nat} (h : j < 10) : fsn m a j = m (a + 7) j := if_pos h
theorem frn_lt {m : Nat → Nat → Int32} {j : Nat} (h : j < 10) : frn m j = m 142 j := if_pos h
theorem FCc_of {m mp M : Nat → Nat → Int32} {b p e la : Nat} {pi k d bn : Int} (h : FCT (M (la + 7)) (mp (e + 6)) (mp (e + 2)) 0 0 (wrN mp e) pi k d bn) (he : e = 4 + 7 * b) (hb : b < 8) (hf : ∀ a i, 5 ≤ a → a ≤ 59 → mp a i = m a i) (hp : pi = p) (hd : d = (m 0 7).toInt) (hn : bn = b) : FCc m b p k (fsn M la) := by
  subst he; subst hp; subst hd; subst hn
  refine ⟨FCT_G ?_ (fun j hj => fsn_lt hj), fun j hj => if_neg (by omega)⟩
  have e1 : mp (4 + 7 * b + 6) = m (4 + 7 * b + 6) := funext fun j => hf _ j (by omega) (by omega)
  have e2 : mp (4 + 7 * b + 2) = m (4 + 7 * b + 2) := funext fun j => hf _ j (by omega) (by omega)
  have e3 : wrN mp (4 + 7 * b) = wrN m (4 + 7 * b) := by unfold wrN; rw [hf _ _ (by omega) (by omega)]
  rw [e1, e2, e3] at h
  exact h
theorem FCr_of {m mp M : Nat → Nat → Int32} {b p : Nat} {xb pi k d : Int} (h : FCT (M 142) (mp 128) (mp 125) (40 * xb.toNat) (40 * xb.toNat) (mp 124 xb.toNat).toInt.toNat pi k d xb) (hb : xb.toNat = b) (h0 : 0 ≤ xb) (hf : ∀ j, mp 128 j = m 128 j) (hf2 : ∀ j, mp 125 j = m 125 j) (hf3 : ∀ j, mp 124 j = m 124 j) (hp : pi = p) (hd : d = (m 123 1).toInt) : FCr m b p k (frn M) := by
  subst hb; subst hp; subst hd
  refine ⟨FCT_G ?_ (fun j hj => frn_lt hj), fun j hj => if_neg (by omega)⟩
  rw [show mp 128 = m 128 from funext hf, show mp 125 = m 125 from funext hf2, hf3] at h
  rw [show ((xb.toNat : Nat) : Int) = xb by omega]
  exact h
section AN
variable {la lb : Nat} {mc mr : Nat → Nat → Int32} {t : Int → Int} {b p : Nat} {k : Int}
theorem FC_eq {fa ga : Nat → Int32} (hS : SB2 mc mr) (hA : STA mc mr) (hb : (b : Int) < (mc 0 2).toInt) (h : FCc mc b p k fa) (h2 : FCr mr b p k ga) : ga = fa := by
  obtain ⟨b1, b2, b8, b3⟩ := hS
  obtain ⟨⟨w0, w40⟩, w1, w2⟩ := b3 b hb
  have eN : (mr 124 b).toInt.toNat = wrN mc (4 + 7 * b) := by unfold wrN; rw [show 4 + 7 * b + 1 = 5 + 7 * b by omega, ← w1]
  have wn40 : wrN mc (4 + 7 * b) ≤ 40 := by unfold wrN; rw [show 4 + 7 * b + 1 = 5 + 7 * b by omega]; omega
  obtain ⟨h, hz⟩ := h
  obtain ⟨h2, hz2⟩ := h2
  rw [eN, ← b1] at h2
  have q := FCT_eq h h2 (fun j hj => by rw [Nat.zero_add]; exact (hA b j (by omega) (by omega)).symm) (fun j hj => by
    rw [Nat.zero_add, show 4 + 7 * b + 2 = 6 + 7 * b by omega]
    exact (w2 j (by rw [← w1]; unfold wrN at hj; rw [show 4 + 7 * b + 1 = 5 + 7 * b by omega] at hj; omega)).symm)
  funext j
  by_cases z : j < 10
  · exact q j z
  · rw [hz j (by omega), hz2 j (by omega)]
theorem FB_FF (hS : SB2 mc mr) (hA : STA mc mr) (hn : (mc la 7).toInt = (mr 123 20).toInt) (hb : (b : Int) < (mc 0 2).toInt) (h : FBc mc la t b p k) (h2 : FFr mr t b p k) : False := by
  obtain ⟨fa, a1, a2⟩ := h
  obtain ⟨ga, c1, c2⟩ := h2
  rw [FC_eq hS hA hb a1 c1, ← hn] at c2
  exact c2 a2
theorem FF_FB (hS : SB2 mc mr) (hA : STA mc mr) (hn : (mc la 7).toInt = (mr 123 20).toInt) (hb : (b : Int) < (mc 0 2).toInt) (h : FFc mc la t b p k) (h2 : FBr mr t b p k) : False := by
  obtain ⟨fa, a1, a2⟩ := h
  obtain ⟨ga, c1, c2⟩ := h2
  rw [FC_eq hS hA hb a1 c1, ← hn] at c2
  exact a2 c2
theorem PR_eq {v w : Int32} (hS : SB2 mc mr) (hA : STA mc mr) (hn : (mc la 7).toInt = (mr 123 20).toInt) (hb : (b : Int) < (mc 0 2).toInt) (h : PRc mc la t b p k v) (h2 : PRr mr t b p k w) : v = w := by
  obtain ⟨fa, a1, a2⟩ := h
  obtain ⟨ga, c1, c2⟩ := h2
  rw [FC_eq hS hA hb a1 c1, ← hn] at c2
  exact Int32.toInt_inj.mp (a2.trans c2.symm)
end AN
theorem STKc_m {m mq M : Nat → Nat → Int32} {e b p n : Nat} {cl cost : Int32} (h : STKc mq M e b p n cl cost) (he : e ≤ 53) (c : ∀ a i, (5 ≤ a ∧ a ≤ 59) ∨ (97 ≤ a ∧ a ≤ 103) → mq a i = m a i) (c7 : mq 0 7 = m 0 7) (h5 : 0 < e) : STKc m M e b p n cl cost := by
  obtain ⟨s1, s2, s3, s4, s5, s6, s7, s8, s9, s10, s11, s12⟩ := h
  have c6 : mq 97 6 = m 97 6 := c _ _ (Or.inr ⟨by omega, by omega⟩)
  rw [c6] at s1 s2 s3 s4 s5 s6 s7 s8 s9
  have e5 : mq (e + 5) = m (e + 5) := funext fun j => c _ _ (Or.inl ⟨by omega, by omega⟩)
  have e6 : mq (e + 6) = m (e + 6) := funext fun j => c _ _ (Or.inl ⟨by omega, by omega⟩)
  rw [e5] at s7 s10
  rw [e6] at s10
  exact ⟨s1, s2, s3, s4.trans c7, s5, s6, s7, fun a j q1 q2 q3 => (s8 a j q1 q2 q3).trans (c _ _ (Or.inr ⟨by omega, by omega⟩)), fun j hj => (s9 j hj).trans (c _ _ (Or.inr ⟨by omega, by omega⟩)), s10, fun a i q1 q2 q3 => (s11 a i q1 q2 q3).trans (c _ _ (Or.inl ⟨q1, q2⟩)), s12⟩
/-- strike's answers -/
def STRK (ok : Prop) (fb ff : Nat → Prop) (pc : Nat → Int32 → Prop) (full : Prop) (n : Nat) (same : Prop) (stk : Int32 → Prop) (v : Int32) : Prop := (¬ ok ∧ v.toInt = -1 ∧ same) ∨ (ok ∧ (∃ k, k < n ∧ fb k) ∧ v.toInt = -2 ∧ same) ∨ (ok ∧ (∀ k, k < n → ff k) ∧ full ∧ v.toInt = -3 ∧ same) ∨ (ok ∧ (∀ k, k < n → ff k) ∧ ¬ full ∧ ∃ pr : Nat → Int32, (∀ k, k < n → pc k (pr k)) ∧ v = smc pr n ∧ stk v)
theorem STRK_det {ok ok2 full full2 same same2 : Prop} {fb ff fb2 ff2 : Nat → Prop} {pc pc2 : Nat → Int32 → Prop} {n : Nat} {stk stk2 : Int32 → Prop} {v w : Int32} (h : STRK ok fb ff pc full n same stk v) (h2 : STRK ok2 fb2 ff2 pc2 full2 n same2 stk2 w) (e : ok ↔ ok2) (ef : ok → (full ↔ full2)) (d1 : ok → ∀ k, k < n → fb k → ff2 k → False) (d2 : ok → ∀ k, k < n → ff k → fb2 k → False) (dp : ok → ∀ k x y, k < n → pc k x → pc2 k y → x = y) : v = w ∧ ((same ∧ same2) ∨ (ok ∧ stk v ∧ stk2 w)) := by
  rcases h with ⟨a1, a2, a3⟩ | ⟨a1, ⟨k, k1, k2⟩, a2, a3⟩ | ⟨a1, a4, a5, a2, a3⟩ | ⟨a1, a4, a5, pr, a6, a7, a8⟩ <;> rcases h2 with ⟨c1, c2, c3⟩ | ⟨c1, ⟨j, j1, j2⟩, c2, c3⟩ | ⟨c1, c4, c5, c2, c3⟩ | ⟨c1, c4, c5, ps, c6, c7, c8⟩
  · exact ⟨Int32.toInt_inj.mp (a2.trans c2.symm), Or.inl ⟨a3, c3⟩⟩
  · exact absurd (e.mpr c1) a1
  · exact absurd (e.mpr c1) a1
  · exact absurd (e.mpr c1) a1
  · exact absurd (e.mp a1) c1
  · exact ⟨Int32.toInt_inj.mp (a2.trans c2.symm), Or.inl ⟨a3, c3⟩⟩
  · exact (d1 a1 k k1 k2 (c4 k k1)).elim
  · exact (d1 a1 k k1 k2 (c4 k k1)).elim
  · exact absurd (e.mp a1) c1
  · exact (d2 a1 j j1 (a4 j j1) j2).elim
  · exact ⟨Int32.toInt_inj.mp (a2.trans c2.symm), Or.inl ⟨a3, c3⟩⟩
  · exact absurd ((ef a1).mp a5) c5
  · exact absurd (e.mp a1) c1
  · exact (d2 a1 j j1 (a4 j j1) j2).elim
  · exact absurd ((ef a1).mpr c5) a5
  · exact ⟨by rw [a7, c7]; exact smc_eq n (fun i hi => dp a1 i _ _ hi (a6 i hi) (c6 i hi)), Or.inr ⟨a1, a8, c8⟩⟩
theorem wN_lo {a i : Nat} (h1 : 1 ≤ a) (h : a ≤ 76) : wN a i = false := by
  refine wg_no (K := [(1, 76, none)]) (by decide) ?_
  simp only [wl, wl1, Bool.or_eq_true, Bool.and_eq_true, Nat.ble_eq, and_true, or_false, Bool.false_eq_true]
  exact ⟨h1, h⟩
theorem wN_la {la a i : Nat} (h : la = 77 ∨ la = 88) (h1 : la < a) (h2 : a ≤ la + 6) : wN a i = false := by
  have : wl [(78, 83, none), (89, 94, none)] a i = true := by
    simp only [wl, wl1, Bool.or_eq_true, Bool.and_eq_true, Nat.ble_eq, and_true, or_false, Bool.false_eq_true]
    omega
  exact wg_no (K := [(78, 83, none), (89, 94, none)]) (by decide) this
theorem wN_l2 {la : Nat} (h : la = 77 ∨ la = 88) : wN la 2 = false := by rcases h with rfl | rfl <;> rfl
theorem wN_l7 {la : Nat} (h : la = 77 ∨ la = 88) : wN la 7 = false := by rcases h with rfl | rfl <;> rfl
theorem wN_bk {a i : Nat} (h1 : 97 ≤ a) (h : a ≤ 103) : wN a i = false := by
  refine wg_no (K := [(97, 103, none)]) (by decide) ?_
  simp only [wl, wl1, Bool.or_eq_true, Bool.and_eq_true, Nat.ble_eq, and_true, or_false, Bool.false_eq_true]
  exact ⟨h1, h⟩
theorem wS_wg {L : List (Nat × Nat × Option Nat)} {la : Nat} (h : la = 77 ∨ la = 88) (hL : (lZN.all (fun q => Nat.ble 169 q.1 || L.any (fun p => wl_le p q))) = true) : ∀ c i, wg L c i = false → wS la c i = false := fun c i e => wsL_wg h hL c i e
theorem wS3_wO : ∀ c i, wO c i = false → wS3 c i = false := fun c i e => wg_l (L := lZN ++ lS ++ [(0, 0, some 8)]) (K := lS) (by decide) c i e
/-! the reference's STROKE -/
def WRI (m M : Nat → Nat → Int32) (x y z w : Int32) : Prop := (M 123 3).toInt = (m 123 3).toInt + 1 ∧ M 143 (m 123 3).toInt.toNat = x ∧ M 144 (m 123 3).toInt.toNat = y ∧ M 145 (m 123 3).toInt.toNat = m 123 1 ∧ M 146 (m 123 3).toInt.toNat = z ∧ M 147 (m 123 3).toInt.toNat = w ∧ ∀ a j, 143 ≤ a → a ≤ 147 → j ≠ (m 123 3).toInt.toNat → M a j = m a j
theorem STKr_of {m M M2 : Nat → Nat → Int32} {b p n : Nat} {x y z w : Int32} (h : MKI m M b p n) (e3 : M 123 3 = m 123 3) (e1 : M 123 1 = m 123 1) (eb : ∀ a j, 143 ≤ a → a ≤ 147 → M a j = m a j) (k : WRI M M2 x y z w) (f : ∀ a j, a = 128 ∨ a = 148 → M2 a j = M a j) (hx : x.toInt = b) (hw : w.toInt = n) : STKr m M2 b p n y z := by
  obtain ⟨g, g1, g2, g3, g4⟩ := h
  obtain ⟨k1, k2, k3, k4, k5, k6, k7⟩ := k
  rw [e3] at k1 k2 k3 k4 k5 k6 k7
  refine ⟨⟨g, g1, fun i hi => by rw [f 148 _ (Or.inr rfl)]; exact g2 i hi, fun j hj => by rw [f 148 _ (Or.inr rfl)]; exact g3 j hj, fun j => by rw [f 128 _ (Or.inl rfl)]; exact g4 j⟩, k1, by rw [k2]; exact hx, k3, k4.trans e1, k5, by rw [k6]; exact hw, fun a j q1 q2 q3 => (k7 a j q1 q2 q3).trans (eb a j q1 q2)⟩
theorem STKr_m {m mq M : Nat → Nat → Int32} {b p n : Nat} {cl cost : Int32} (h : STKr mq M b p n cl cost) (c : ∀ a i, isR a i = true → mq a i = m a i) (c1 : mq 123 1 = m 123 1) : STKr m M b p n cl cost := by
  obtain ⟨⟨g, g1, g2, g3, g4⟩, k1, k2, k3, k4, k5, k6, k7⟩ := h
  have e3 : mq 123 3 = m 123 3 := c _ _ rfl
  have e8 : mq 128 = m 128 := funext fun j => c _ _ rfl
  have e4 : mq 124 b = m 124 b := c _ _ rfl
  rw [e3] at g2 g3 k1 k2 k3 k4 k5 k6 k7
  rw [e8] at g4
  refine ⟨⟨g, fun i hi => by have q := g1 i hi; rw [e8, e4] at q; exact q, g2, fun j hj => (g3 j hj).trans (c _ _ (isR_br (by omega) (by omega))), g4⟩, k1, k2, k3, k4.trans c1, k5, k6, fun a j q1 q2 q3 => (k7 a j q1 q2 q3).trans (c _ _ (isR_br q1 (by omega)))⟩
def CST (m : Nat → Nat → Int32) (t : Int → Int) (b p : Nat) (k : Int) (n : Nat) (cost : Int32) : Prop := ∃ pr : Nat → Int32, (∀ i, i < n → PRr m t b (p + i) k (pr i)) ∧ cost = smc pr n
theorem CST_0 {m : Nat → Nat → Int32} {t : Int → Int} {b p : Nat} {k : Int} : CST m t b p k 0 0 := ⟨fun _ => 0, fun i hi => absurd hi (by omega), rfl⟩
theorem CST_s {m : Nat → Nat → Int32} {t : Int → Int} {b p n n2 : Nat} {k : Int} {c v c2 : Int32} (h : CST m t b p k n c) (hv : PRr m t b (p + n) k v) (hc : c2 = c + v) (hn : n2 = n + 1) : CST m t b p k n2 c2 := by
  subst hn; subst hc
  obtain ⟨pr, h1, h2⟩ := h
  refine ⟨fun i => if i = n then v else pr i, fun i hi => ?_, ?_⟩
  · show PRr m t b (p + i) k (if i = n then v else pr i)
    by_cases z : i = n
    · rw [if_pos z, z]; exact hv
    · rw [if_neg z]; exact h1 i (by omega)
  · rw [smc_s, h2]
    show _ = _ + (if n = n then v else pr n)
    rw [if_pos rfl, smc_eq n (fun i hi => if_neg (by omega))]
theorem wl_nR {l : List (Nat × Nat × Option Nat)} {a i : Nat} (h : (lR.all (fun p => l.all (fun q => dsj p q))) = true) (hk : isR a i = true) : wl l a i = false := wl_no h hk
theorem ASK_m {m mq : Nat → Nat → Int32} {la : Nat} {t : Int → Int} {b p : Nat} {k : Int} {f v : Int32} (h : ASK mq la t b p k f v) (hb : b < 8) (c : ∀ a i, 5 ≤ a → a ≤ 59 → mq a i = m a i) (c7 : mq 0 7 = m 0 7) (cl : mq la 7 = m la 7) : ASK m la t b p k f v := by
  have e1 : mq (4 + 7 * b + 6) = m (4 + 7 * b + 6) := funext fun j => c _ j (by omega) (by omega)
  have e2 : mq (4 + 7 * b + 2) = m (4 + 7 * b + 2) := funext fun j => c _ j (by omega) (by omega)
  have e3 : wrN mq (4 + 7 * b) = wrN m (4 + 7 * b) := by unfold wrN; rw [c _ _ (by omega) (by omega)]
  unfold ASK FFc FBc PRc FCc at h ⊢
  rw [e1, e2, e3, c7, cl] at h
  exact h
theorem wO_la {la a i : Nat} (h : la = 77 ∨ la = 88) (h1 : la < a) (h2 : a ≤ la + 6) : wO a i = false := by
  have : wl [(78, 83, none), (89, 94, none)] a i = true := by
    simp only [wl, wl1, Bool.or_eq_true, Bool.and_eq_true, Nat.ble_eq, and_true, or_false, Bool.false_eq_true]
    omega
  exact wg_no (K := [(78, 83, none), (89, 94, none)]) (by decide) this
theorem wO_l2 {la : Nat} (h : la = 77 ∨ la = 88) : wO la 2 = false := by rcases h with rfl | rfl <;> rfl
theorem wO_l7 {la : Nat} (h : la = 77 ∨ la = 88) : wO la 7 = false := by rcases h with rfl | rfl <;> rfl
theorem and65535 (z : Int32) : (z &&& 65535).toInt = z.toInt % 65536 := by
  have h := i32_cond (z &&& 65535)
  have h2 := i32_cond z
  have e : (z &&& 65535).toBitVec.toNat = z.toBitVec.toNat % 65536 := by
    show (z.toBitVec &&& 65535#32).toNat = _
    rw [BitVec.toNat_and]
    exact Nat.and_two_pow_sub_one_eq_mod z.toBitVec.toNat 16
  rw [e] at h
  omega
theorem sz40 {m : Nat → Nat → Int32} {b : Nat} (I : IV BB m) (h : b < 8) : 0 ≤ (m (4 + 7 * b + 3) 1).toInt ∧ (m (4 + 7 * b + 3) 1).toInt ≤ 40 := by
  have : b = 0 ∨ b = 1 ∨ b = 2 ∨ b = 3 ∨ b = 4 ∨ b = 5 ∨ b = 6 ∨ b = 7 := by omega
  rcases this with rfl | rfl | rfl | rfl | rfl | rfl | rfl | rfl
  · exact I 7 1
  · exact I 14 1
  · exact I 21 1
  · exact I 28 1
  · exact I 35 1
  · exact I 42 1
  · exact I 49 1
  · exact I 56 1
