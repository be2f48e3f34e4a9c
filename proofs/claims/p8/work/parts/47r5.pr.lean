/-! the reference's reader: what it reads, what waits -/
def tR (m : Nat → Nat → Int32) (p : Int) : Int := if p < (m 123 13).toInt then (m 129 p.toNat &&& 255).toInt else -1
theorem tR_eq {m m2 : Nat → Nat → Int32} (e3 : m2 123 13 = m 123 13) (e9 : ∀ j, m2 129 j = m 129 j) : tR m2 = tR m := by
  funext p
  unfold tR
  rw [e3, e9]
theorem TXT_R {m : Nat → Nat → Int32} (I : IV BB m) : TXT (tR m) (m 123 13).toInt := ⟨(I 123 13).2, fun q hq => by unfold tR; rw [if_neg (by omega)]⟩
def eo (o : Int) : Nat := (6 - o).toNat
theorem eo_s {o o2 : Int} (h : o ≤ 5) (e : o2 = o + 1) : eo o = eo o2 + 1 := by unfold eo; omega
theorem sumF_0 {g : Int32 → Int} {f : Nat → Int32} {n : Nat} : ∀ k : Nat, (∀ j, n ≤ j → j < n + k → g (f j) = 0) → sumF g f (n + k) = sumF g f n
  | 0, _ => rfl
  | k + 1, h => by
    show sumF g f (n + k) + g (f (n + k)) = _
    rw [sumF_0 k (fun j h1 h2 => h j h1 (by omega)), h (n + k) (by omega) (by omega)]
    omega
theorem sumF_up {g : Int32 → Int} {f : Nat → Int32} (hg : ∀ v, 0 ≤ g v) {n : Nat} : ∀ k : Nat, sumF g f n ≤ sumF g f (n + k)
  | 0 => Int.le_refl _
  | k + 1 => by
    show _ ≤ sumF g f (n + k) + g (f (n + k))
    have := sumF_up (f := f) hg (n := n) k
    have := hg (f (n + k))
    omega
def g14 (v : Int32) : Int := if opv v = 14 then 1 else 0
theorem g14_ge (v : Int32) : 0 ≤ g14 v := by unfold g14; split <;> omega
def C14 (m : Nat → Nat → Int32) : Int := sumF g14 (m 131) (m 123 17).toInt.toNat
theorem C14_csi {cb c : Int} {m m' : Nat → Nat → Int32} (h : CSI cb c m m') : C14 m' = C14 m := by
  obtain ⟨_, _, _, a4, a5, a6, a7⟩ := h
  unfold C14
  rw [show m' 131 = m 131 from funext a6]
  have e := sumF_0 (g := g14) (f := m 131) (n := (m' 123 17).toInt.toNat) ((m 123 17).toInt.toNat - (m' 123 17).toInt.toNat) (fun j h1 h2 => by
    have q := a7 j (by omega) (by omega)
    unfold g14
    rw [if_neg (by omega)])
  rw [show (m' 123 17).toInt.toNat + ((m 123 17).toInt.toNat - (m' 123 17).toInt.toNat) = (m 123 17).toInt.toNat by omega] at e
  exact e.symm
theorem C14_lo {cb c : Int} {m M : Nat → Nat → Int32} (h : RLs cb c m M) (h0 : 0 ≤ (m 123 17).toInt) : C14 m = sumF g14 (M 131) (m 123 17).toInt.toNat := by
  unfold C14
  exact (sumF_eq _ (fun j hj => h.2.2.2.2.2.1 j (by omega))).symm
theorem C14_has {cb c : Int} {m M : Nat → Nat → Int32} {j : Nat} (h : RLs cb c m M) (h0 : 0 ≤ (m 123 17).toInt) (j1 : (m 123 17).toInt ≤ j) (j2 : (j : Int) < (M 123 17).toInt) (j3 : opv (M 131 j) = 14) : C14 m + 1 ≤ C14 M := by
  rw [C14_lo h h0]
  unfold C14
  have e1 := sumF_up (g := g14) (f := M 131) g14_ge (n := (m 123 17).toInt.toNat) (j - (m 123 17).toInt.toNat)
  rw [show (m 123 17).toInt.toNat + (j - (m 123 17).toInt.toNat) = j by omega] at e1
  have e2 := sumF_up (g := g14) (f := M 131) g14_ge (n := j + 1) ((M 123 17).toInt.toNat - (j + 1))
  rw [show j + 1 + ((M 123 17).toInt.toNat - (j + 1)) = (M 123 17).toInt.toNat by omega] at e2
  have e3 : sumF g14 (M 131) (j + 1) = sumF g14 (M 131) j + 1 := by
    show sumF g14 (M 131) j + g14 (M 131 j) = _
    unfold g14
    rw [if_pos j3]
  omega
theorem C14_hasnt {cb c : Int} {m M : Nat → Nat → Int32} (h : RLs cb c m M) (h0 : 0 ≤ (m 123 17).toInt) (hn : ∀ j : Nat, (m 123 17).toInt ≤ j → (j : Int) < (M 123 17).toInt → opv (M 131 j) ≠ 14) : C14 M = C14 m := by
  rw [C14_lo h h0]
  unfold C14
  have a4 := h.2.2.2.1
  have e := sumF_0 (g := g14) (f := M 131) (n := (m 123 17).toInt.toNat) ((M 123 17).toInt.toNat - (m 123 17).toInt.toNat) (fun j h1 h2 => by
    have q := hn j (by omega) (by omega)
    unfold g14
    rw [if_neg q])
  rw [show (m 123 17).toInt.toNat + ((M 123 17).toInt.toNat - (m 123 17).toInt.toNat) = (M 123 17).toInt.toNat by omega] at e
  exact e
/-- one more waits; the last one goes -/
theorem C14_push {m m' : Nat → Nat → Int32} {v : Int32} (h0 : 0 ≤ (m 123 17).toInt) (e1 : ∀ j : Nat, (j : Int) < (m 123 17).toInt → m' 131 j = m 131 j) (e2 : m' 131 (m 123 17).toInt.toNat = v) (e3 : (m' 123 17).toInt = (m 123 17).toInt + 1) : C14 m' = C14 m + g14 v := by
  unfold C14
  rw [show (m' 123 17).toInt.toNat = (m 123 17).toInt.toNat + 1 by omega]
  show sumF g14 (m' 131) (m 123 17).toInt.toNat + g14 (m' 131 (m 123 17).toInt.toNat) = _
  rw [sumF_eq _ (fun j hj => e1 j (by omega)), e2]
theorem C14_pop {m m' : Nat → Nat → Int32} (h0 : 1 ≤ (m 123 17).toInt) (e1 : ∀ j, m' 131 j = m 131 j) (e3 : (m' 123 17).toInt = (m 123 17).toInt - 1) : C14 m = C14 m' + g14 (m 131 ((m 123 17).toInt - 1).toNat) := by
  unfold C14
  rw [show m' 131 = m 131 from funext e1, show (m 123 17).toInt.toNat = (m' 123 17).toInt.toNat + 1 by omega]
  show sumF g14 (m 131) (m' 123 17).toInt.toNat + g14 (m 131 (m' 123 17).toInt.toNat) = _
  rw [show (m' 123 17).toInt.toNat = ((m 123 17).toInt - 1).toNat by omega]
/-! a factor, a sum -/
def FPQ (t : Int → Int) (o0 p0 o1 p1 : Int) : Prop := o0 ≤ o1 ∧ o1 ≤ 6 ∧ ∀ b : Nat, bnd (FA t (eo o0) p0) (KSu t b (eo o0)) = bnd (FA t (eo o1) p1) (KSu t (b + (o1 - o0).toNat) (eo o1))
def FPR (t : Int → Int) (o0 p0 o1 p1 : Int) : Prop := o0 ≤ o1 ∧ o1 ≤ 6 ∧ ∀ b : Nat, bnd (FA t (eo o0) p0) (KSu t b (eo o0)) = KSu t (b + (o1 - o0).toNat) (eo o1) p1
def FPF (t : Int → Int) (o0 p0 f : Int) : Prop := ∃ r, FLT r f ∧ ∀ b : Nat, bnd (FA t (eo o0) p0) (KSu t b (eo o0)) = r
section FP
variable {t : Int → Int} {o0 p0 o1 p1 o2 p2 f en : Int}
theorem FPQ_0 (h : o0 ≤ 6) : FPQ t o0 p0 o0 p0 := ⟨Int.le_refl _, h, fun b => by rw [show (o0 - o0).toNat = 0 by omega]; rfl⟩
theorem FPQ_opn (h : FPQ t o0 p0 o1 p1) (ht : t p1 = 91) (h6 : o1 ≠ 6) (e1 : o2 = o1 + 1) (e2 : p2 = p1 + 1) : FPQ t o0 p0 o2 p2 := by
  obtain ⟨a1, a2, a3⟩ := h
  refine ⟨by omega, by omega, fun b => ?_⟩
  rw [a3 b, eo_s (o := o1) (o2 := o2) (by omega) e1, KSu_opn ht, e2, show b + (o2 - o0).toNat = b + (o1 - o0).toNat + 1 by omega]
theorem FPQ_deep (h : FPQ t o0 p0 o1 p1) (h6 : o1 = 6) (ht : t p1 = 91) (hf : f = -5000 - p1) : FPF t o0 p0 f := by
  obtain ⟨a1, a2, a3⟩ := h
  refine ⟨(5, p1), ⟨pr_ne (by decide), by show f = -1000 * 5 - p1; omega⟩, fun b => ?_⟩
  rw [a3 b, show eo o1 = 0 by unfold eo; omega, FA_deep ht]
  exact bnd_no (pr_ne (by decide))
theorem FPQ_at (h : FPQ t o0 p0 o1 p1) (hn : t p1 ≠ 91) (ha : atom t p1 = (0, p2)) : FPR t o0 p0 o1 p2 := by
  obtain ⟨a1, a2, a3⟩ := h
  refine ⟨a1, a2, fun b => ?_⟩
  rw [a3 b, FA_atom hn, ha, bnd_ok]
theorem FPQ_fl (h : FPQ t o0 p0 o1 p1) (hn : t p1 ≠ 91) (ha : FLT (atom t p1) f) : FPF t o0 p0 f := by
  obtain ⟨a1, a2, a3⟩ := h
  refine ⟨atom t p1, ha, fun b => ?_⟩
  rw [a3 b, FA_atom hn]
  exact bnd_no ha.1
/-- inside a sum -/
def KI (t : Int → Int) (o0 p0 o p : Int) : Prop := o0 ≤ o ∧ o ≤ 6 ∧ SU t (eo o0) p0 = KSu t (o - o0).toNat (eo o) p
theorem KI_0 (h : FPR t o0 p0 o1 p1) : KI t o0 p0 o1 p1 := by
  obtain ⟨a1, a2, a3⟩ := h
  have := a3 0
  rw [Nat.zero_add] at this
  exact ⟨a1, a2, this⟩
theorem KI_sign (h : KI t o0 p0 o1 p1) (ht : TXT t en) (hp : 0 ≤ p1) (hs : isS (t p1) = true) (k : FPR t o1 (p1 + 1) o2 p2) : KI t o0 p0 o2 p2 := by
  obtain ⟨a1, a2, a3⟩ := h
  obtain ⟨b1, b2, b3⟩ := k
  refine ⟨by omega, b2, ?_⟩
  rw [a3, KSu_sign ht hp hs, b3, show (o1 - o0).toNat + (o2 - o1).toNat = (o2 - o0).toNat by omega]
theorem KI_sfl (h : KI t o0 p0 o1 p1) (ht : TXT t en) (hp : 0 ≤ p1) (hs : isS (t p1) = true) (k : FPF t o1 (p1 + 1) f) : FLT (SU t (eo o0) p0) f := by
  obtain ⟨a1, a2, a3⟩ := h
  obtain ⟨r, b1, b2⟩ := k
  rw [a3, KSu_sign ht hp hs, b2]
  exact b1
theorem KI_close (h : KI t o0 p0 o1 p1) (hs : t p1 = 93) (ho : o0 < o1) (e1 : o2 = o1 - 1) (e2 : p2 = p1 + 1) : KI t o0 p0 o2 p2 := by
  obtain ⟨a1, a2, a3⟩ := h
  refine ⟨by omega, by omega, ?_⟩
  rw [a3, show (o1 - o0).toNat = (o2 - o0).toNat + 1 by omega, KSu_close hs, ← eo_s (o := o2) (o2 := o1) (by omega) (by omega), e2]
theorem KI_wrong (h : KI t o0 p0 o1 p1) (h0 : isS (t p1) = false) (hs : t p1 ≠ 93) (ho : o0 < o1) (hf : f = -1000 - p1) : FLT (SU t (eo o0) p0) f := by
  obtain ⟨a1, a2, a3⟩ := h
  refine FLT_of (a := 1) (p := p1) ?_ (by decide) (by omega)
  rw [a3, show (o1 - o0).toNat = (o1 - o0).toNat - 1 + 1 by omega]
  exact KSu_wrong h0 hs
theorem KI_end (h : KI t o0 p0 o1 p1) (h0 : isS (t p1) = false) (ho : o1 = o0) : SU t (eo o0) p0 = (0, p1) := by
  obtain ⟨a1, a2, a3⟩ := h
  rw [a3, show (o1 - o0).toNat = 0 by omega]
  exact KSu_end h0
theorem KI_f0 (k : FPF t o0 p0 f) : FLT (SU t (eo o0) p0) f := by
  obtain ⟨r, b1, b2⟩ := k
  have e : SU t (eo o0) p0 = r := b2 0
  rw [e]
  exact b1
end FP
/-! a condition -/
def gON (v : Int32) : Int := if opv v = 10 ∨ opv v = 13 then 1 else 0
theorem gON_ge (v : Int32) : 0 ≤ gON v := by unfold gON; split <;> omega
def CON (m : Nat → Nat → Int32) : Int := sumF gON (m 131) (m 123 17).toInt.toNat
theorem CON_ge (m : Nat → Nat → Int32) : 0 ≤ CON m := sumF_ge gON_ge _
theorem CON_push {m m' : Nat → Nat → Int32} (h0 : 0 ≤ (m 123 17).toInt) (e1 : ∀ j : Nat, (j : Int) < (m 123 17).toInt → m' 131 j = m 131 j) (e3 : (m' 123 17).toInt = (m 123 17).toInt + 1) : CON m' = CON m + gON (m' 131 (m 123 17).toInt.toNat) := by
  unfold CON
  rw [show (m' 123 17).toInt.toNat = (m 123 17).toInt.toNat + 1 by omega]
  show sumF gON (m' 131) (m 123 17).toInt.toNat + gON (m' 131 (m 123 17).toInt.toNat) = _
  rw [sumF_eq _ (fun j hj => e1 j (by omega))]
theorem CON_pop {m m' : Nat → Nat → Int32} (h0 : 1 ≤ (m 123 17).toInt) (e1 : ∀ j : Nat, (j : Int) < (m' 123 17).toInt → m' 131 j = m 131 j) (e3 : (m' 123 17).toInt = (m 123 17).toInt - 1) : CON m = CON m' + gON (m 131 ((m 123 17).toInt - 1).toNat) := by
  unfold CON
  rw [sumF_eq (f := m 131) (f' := m' 131) _ (fun j hj => e1 j (by omega)), show (m 123 17).toInt.toNat = (m' 123 17).toInt.toNat + 1 by omega]
  show sumF gON (m 131) (m' 123 17).toInt.toNat + gON (m 131 (m' 123 17).toInt.toNat) = _
  rw [show (m' 123 17).toInt.toNat = ((m 123 17).toInt - 1).toNat by omega]
/-- some that are no brackets go -/
theorem CON_eq {m m' : Nat → Nat → Int32} (h0 : 0 ≤ (m' 123 17).toInt) (h1 : (m' 123 17).toInt ≤ (m 123 17).toInt) (e1 : ∀ j : Nat, (j : Int) < (m' 123 17).toInt → m' 131 j = m 131 j) (hz : ∀ j : Nat, (m' 123 17).toInt ≤ j → (j : Int) < (m 123 17).toInt → ifv (m 131 j)) : CON m' = CON m := by
  unfold CON
  rw [sumF_eq (f := m 131) (f' := m' 131) _ (fun j hj => e1 j (by omega))]
  have e := sumF_0 (g := gON) (f := m 131) (n := (m' 123 17).toInt.toNat) ((m 123 17).toInt.toNat - (m' 123 17).toInt.toNat) (fun j h2 h3 => by
    have q := hz j (by omega) (by omega)
    unfold ifv at q
    unfold gON
    rw [if_neg (by omega)])
  rw [show (m' 123 17).toInt.toNat + ((m 123 17).toInt.toNat - (m' 123 17).toInt.toNat) = (m 123 17).toInt.toNat by omega] at e
  exact e.symm
/-- NOTs go -/
theorem CON_nots {m m' : Nat → Nat → Int32} (h0 : 0 ≤ (m' 123 17).toInt) (e1 : ∀ j : Nat, (j : Int) < (m' 123 17).toInt → m' 131 j = m 131 j) : ∀ k : Nat, (m 123 17).toInt = (m' 123 17).toInt + k → (∀ j : Nat, (m' 123 17).toInt ≤ j → (j : Int) < (m 123 17).toInt → opv (m 131 j) = 10) → CON m = CON m' + k := by
  intro k hk hz
  unfold CON
  rw [sumF_eq (f := m 131) (f' := m' 131) _ (fun j hj => e1 j (by omega)), show (m 123 17).toInt.toNat = (m' 123 17).toInt.toNat + k by omega]
  have : ∀ i : Nat, i ≤ k → sumF gON (m 131) ((m' 123 17).toInt.toNat + i) = sumF gON (m 131) (m' 123 17).toInt.toNat + i := by
    intro i
    induction i with
    | zero => intro _; show sumF gON (m 131) (m' 123 17).toInt.toNat = _; simp
    | succ i ih =>
      intro hi
      have q := hz ((m' 123 17).toInt.toNat + i) (by omega) (by omega)
      show sumF gON (m 131) ((m' 123 17).toInt.toNat + i) + gON (m 131 ((m' 123 17).toInt.toNat + i)) = _
      have e : gON (m 131 ((m' 123 17).toInt.toNat + i)) = 1 := by unfold gON; rw [if_pos (Or.inl q)]
      rw [ih (by omega), e]
      omega
  exact this k (Nat.le_refl _)
def KQ (t : Int → Int) (r : Int × Int) (f : Nat → Int32) (w o p : Int) : Prop := o ≤ 6 ∧ r = bnd (PI t (eo o) p) (KC t f w.toNat (eo o))
def KP (t : Int → Int) (r : Int × Int) (f : Nat → Int32) (w o p : Int) : Prop := o ≤ 6 ∧ r = KC t f w.toNat (eo o) p
section KQS
variable {t : Int → Int} {r : Int × Int} {f g : Nat → Int32} {w o p w2 o2 p2 q en x : Int}
theorem KCf {a : Nat} {e : Nat} (h : ∀ j, j < a → g j = f j) : KC t g a e = KC t f a e := funext fun p => KC_eq a e p h
theorem KQ_not (h : KQ t r f w o p) (h0 : 0 ≤ w) (ht : t p = 33) (h6 : o ≠ 6) (hg : ∀ j : Nat, (j : Int) < w → g j = f j) (hn : opv (g w.toNat) = 10) (e1 : w2 = w + 1) (e2 : o2 = o + 1) (e3 : p2 = p + 1) : KQ t r g w2 o2 p2 := by
  obtain ⟨a1, a2⟩ := h
  refine ⟨by omega, ?_⟩
  have ef : KC t g (w.toNat + 1) (eo o2) = KC t f w.toNat (eo o) := by
    funext y
    rw [KC_not hn, ← eo_s (o := o) (o2 := o2) (by omega) e2]
    exact KC_eq _ _ _ (fun j hj => hg j (by omega))
  rw [a2, show w2.toNat = w.toNat + 1 by omega, ef, eo_s (o := o) (o2 := o2) (by omega) e2, PI_not ht, e3]
theorem KQ_opn (h : KQ t r f w o p) (h0 : 0 ≤ w) (ht : t p = 40) (h6 : o ≠ 6) (hg : ∀ j : Nat, (j : Int) < w → g j = f j) (hn : opv (g w.toNat) = 13) (e1 : w2 = w + 1) (e2 : o2 = o + 1) (e3 : p2 = p + 1) : KQ t r g w2 o2 p2 := by
  obtain ⟨a1, a2⟩ := h
  refine ⟨by omega, ?_⟩
  have ee := eo_s (o := o) (o2 := o2) (by omega) e2
  have ef : KC t g (w.toNat + 1) (eo o2) = fun q => bnd (LB t (eo o2) q) (fun q => bnd (cls t 41 q) (KC t f w.toNat (eo o))) := by
    funext y
    rw [KC_opn hn, ← ee, KCf (f := f) (g := g) (fun j hj => hg j (by omega))]
  rw [a2, show w2.toNat = w.toNat + 1 by omega, ef, ee, PI_opn ht, e3]
  unfold CN
  rw [bnd_as, bnd_as, ← ee]
theorem KQ_deep (h : KQ t r f w o p) (ht : t p = 33 ∨ t p = 40) (h6 : o = 6) (hx : x = -5000 - p) : FLT r x := by
  obtain ⟨a1, a2⟩ := h
  rw [a2, show eo o = 0 by unfold eo; omega, PI_deep ht]
  rw [bnd_no (pr_ne (by decide))]
  exact ⟨pr_ne (by decide), by show x = -1000 * 5 - p; omega⟩
theorem KQ_cm (h : KQ t r f w o p) (h1 : t p ≠ 33) (h2 : t p ≠ 40) (k : CM t (eo o) p = (0, q)) : KP t r f w o q := by
  obtain ⟨a1, a2⟩ := h
  exact ⟨a1, by rw [a2, PI_cm h1 h2, k, bnd_ok]⟩
theorem KQ_fl (h : KQ t r f w o p) (h1 : t p ≠ 33) (h2 : t p ≠ 40) (k : FLT (CM t (eo o) p) x) : FLT r x := by
  obtain ⟨a1, a2⟩ := h
  rw [a2, PI_cm h1 h2]
  exact FLT_b k
theorem KP_f (h : KP t r f w o p) (hg : ∀ j : Nat, (j : Int) < w → g j = f j) : KP t r g w o p := ⟨h.1, by rw [h.2]; exact (KC_eq _ _ _ (fun j hj => hg j (by omega))).symm⟩
theorem KP_nots : ∀ (k : Nat) {w o : Int}, KP t r f w o p → 0 ≤ w - k → (∀ j : Nat, w - k ≤ j → (j : Int) < w → opv (f j) = 10) → KP t r f (w - k) (o - k) p
  | 0, w, o, h, _, _ => by rw [show w - ((0 : Nat) : Int) = w by omega, show o - ((0 : Nat) : Int) = o by omega]; exact h
  | k + 1, w, o, h, h0, hz => by
    have e : KP t r f (w - 1) (o - 1) p := by
      obtain ⟨a1, a2⟩ := h
      refine ⟨by omega, ?_⟩
      rw [a2, show w.toNat = (w - 1).toNat + 1 by omega, KC_not (hz (w - 1).toNat (by omega) (by omega)), ← eo_s (o := o - 1) (o2 := o) (by omega) (by omega)]
    have := KP_nots k e (by omega) (fun j h1 h2 => hz j (by omega) (by omega))
    rw [show w - ((k + 1 : Nat) : Int) = w - 1 - k by omega, show o - ((k + 1 : Nat) : Int) = o - 1 - k by omega]
    exact this
theorem KP_ifs : ∀ (k : Nat) {w : Int}, KP t r f w o p → 0 ≤ w - k → (∀ j : Nat, w - k ≤ j → (j : Int) < w → ifv (f j)) → KP t r f (w - k) o p
  | 0, w, h, _, _ => by rw [show w - ((0 : Nat) : Int) = w by omega]; exact h
  | k + 1, w, h, h0, hz => by
    have e : KP t r f (w - 1) o p := by
      obtain ⟨a1, a2⟩ := h
      refine ⟨a1, ?_⟩
      rw [a2, show w.toNat = (w - 1).toNat + 1 by omega, KC_if (hz (w - 1).toNat (by omega) (by omega))]
    have := KP_ifs k e (by omega) (fun j h1 h2 => hz j (by omega) (by omega))
    rw [show w - ((k + 1 : Nat) : Int) = w - 1 - k by omega]
    exact this
theorem KP_close (h : KP t r f w o p) (h1 : 1 ≤ w) (ht : t p = 41) (hz : opv (f (w - 1).toNat) = 13) (e1 : w2 = w - 1) (e2 : o2 = o - 1) (e3 : p2 = p + 1) : KP t r f w2 o2 p2 := by
  obtain ⟨a1, a2⟩ := h
  refine ⟨by omega, ?_⟩
  rw [a2, show w.toNat = (w - 1).toNat + 1 by omega, KC_close ht hz, ← eo_s (o := o2) (o2 := o) (by omega) (by omega), e1, e3]
theorem KP_done (h : KP t r f w o p) (hw : w = 0) : r = (0, p) := by rw [h.2, hw]; rfl
theorem KP_amp (h : KP t r f w o p) (h1 : 1 ≤ w) (ht : TXT t en) (hp : 0 ≤ p) (hb : isB (t p) = true) (hW : WS f w.toNat) (hz : opv (f (w - 1).toNat) ≠ 10) (hg : ∀ j : Nat, (j : Int) < w → g j = f j) (hn : ifv (g w.toNat)) (e1 : w2 = w + 1) (e3 : p2 = p + 1) : KQ t r g w2 o p2 := by
  obtain ⟨a1, a2⟩ := h
  refine ⟨a1, ?_⟩
  have ef : KC t g (w.toNat + 1) (eo o) = KC t f w.toNat (eo o) := by
    funext y
    rw [KC_if hn]
    exact KC_eq _ _ _ (fun j hj => hg j (by omega))
  rw [a2, show w2.toNat = w.toNat + 1 by omega, ef, e3, show w.toNat = (w - 1).toNat + 1 by omega]
  exact KC_amp ht hp hb _ _ (by rw [show (w - 1).toNat + 1 = w.toNat by omega]; exact hW) hz
theorem KP_wrong (h : KP t r f w o p) (h1 : 1 ≤ w) (hb : isB (t p) = false) (h41 : t p ≠ 41) (hW : WS f w.toNat) (hz : opv (f (w - 1).toNat) ≠ 10) (hx : x = -1000 - p) : FLT r x := by
  obtain ⟨a1, a2⟩ := h
  refine FLT_of (a := 1) (p := p) ?_ (by decide) (by omega)
  rw [a2, show w.toNat = (w - 1).toNat + 1 by omega]
  exact KC_wrong hb h41 _ _ (by rw [show (w - 1).toNat + 1 = w.toNat by omega]; exact hW) hz
theorem WS_dn (h : WS f w.toNat) (h2 : w2 ≤ w) (hg : ∀ j : Nat, (j : Int) < w2 → g j = f j) : WS g w2.toNat := by
  refine ⟨fun j hj => by rw [hg j (by omega)]; exact h.1 j (by omega), fun j hj hi => ?_⟩
  rw [hg j (by omega)] at hi
  have q := h.2 j (by omega) hi
  exact ⟨q.1, by rw [hg (j - 1) (by omega)]; exact q.2⟩
theorem WS_up (h : WS f w.toNat) (h0 : 0 ≤ w) (hg : ∀ j : Nat, (j : Int) < w → g j = f j) (hv : (opv (g w.toNat) = 10 ∨ opv (g w.toNat) = 13) ∨ (ifv (g w.toNat) ∧ 1 ≤ w ∧ opv (f (w - 1).toNat) ≠ 10)) (e1 : w2 = w + 1) : WS g w2.toNat := by
  refine ⟨fun j hj => ?_, fun j hj hi => ?_⟩
  · by_cases z : (j : Int) < w
    · rw [hg j z]; exact h.1 j (by omega)
    · rw [show j = w.toNat by omega]; unfold ifv at hv; omega
  · by_cases z : (j : Int) < w
    · rw [hg j z] at hi
      have q := h.2 j (by omega) hi
      exact ⟨q.1, by rw [hg (j - 1) (by omega)]; exact q.2⟩
    · rw [show j = w.toNat by omega] at hi ⊢
      rcases hv with hv | ⟨h1, h2, h3⟩
      · omega
      · have b := h.1 (w - 1).toNat (by omega)
        refine ⟨by omega, ?_⟩
        rw [show w.toNat - 1 = (w - 1).toNat by omega, hg (w - 1).toNat (by omega)]
        omega
end KQS
theorem C14_e {m m' : Nat → Nat → Int32} (e1 : ∀ j, m' 131 j = m 131 j) (e2 : m' 123 17 = m 123 17) : C14 m' = C14 m := by
  unfold C14
  rw [e2, show m' 131 = m 131 from funext e1]
theorem RLs_top {cb c : Int} {m m2 : Nat → Nat → Int32} (h : RLs cb c m m2) (h0 : 0 ≤ (m 123 17).toInt) (hw : (m 123 17).toInt < (m2 123 17).toInt) (ht : (m2 123 17).toInt = 0 ∨ ¬ (2 ≤ opv (m2 131 ((m2 123 17).toInt - 1).toNat) ∧ opv (m2 131 ((m2 123 17).toInt - 1).toNat) ≤ 6)) : g14 (m2 131 ((m2 123 17).toInt - 1).toNat) = 1 := by
  have h14 : opv (m2 131 ((m2 123 17).toInt - 1).toNat) = 14 := by
    rcases h.2.2.2.2.2.2.1 ((m2 123 17).toInt - 1).toNat (by omega) (by omega) with q | q
    · rcases ht with t | t
      · omega
      · exact absurd q t
    · exact q
  unfold g14
  rw [if_pos h14]
theorem isS_no {x : Int} (h1 : x ≠ 43) (h2 : x ≠ 45) (h3 : x ≠ 42) (h4 : x ≠ 47) (h5 : x ≠ 37) : isS x = false := isS_n (isT_no h3 h4 h5) h1 h2
/-! a condition: the reader's places -/
def CND (t : Int → Int) (p : Int) : Int × Int := if t p = 40 then bnd (CN t 5 (p + 1)) (cls t 41) else (1, p)
def QS (t : Int → Int) (r : Int × Int) (m : Nat → Nat → Int32) : Prop := KQ t r (m 131) (m 123 17).toInt (m 123 15).toInt (m 123 12).toInt ∧ WS (m 131) (m 123 17).toInt.toNat ∧ CON m = (m 123 15).toInt
def PSs (t : Int → Int) (r : Int × Int) (m : Nat → Nat → Int32) : Prop := KP t r (m 131) (m 123 17).toInt (m 123 15).toInt (m 123 12).toInt ∧ WS (m 131) (m 123 17).toInt.toNat ∧ CON m = (m 123 15).toInt
def OPD (what : Int) (m m' : Nat → Nat → Int32) : Prop := ∃ o u w z : Int32, m' = up2 (up2 (up2 (up2 m 123 15 o) 131 (m 123 17).toInt.toNat u) 123 17 w) 123 12 z ∧ u.toInt = 1048576 * what ∧ w.toInt = (m 123 17).toInt + 1 ∧ z.toInt = (m 123 12).toInt + 1
theorem OPD_u {what : Int} {m m' : Nat → Nat → Int32} (h : OPD what m m') : (∀ j : Nat, j ≠ (m 123 17).toInt.toNat → m' 131 j = m 131 j) ∧ opv (m' 131 (m 123 17).toInt.toNat) = what ∧ (m' 123 17).toInt = (m 123 17).toInt + 1 ∧ (m' 123 12).toInt = (m 123 12).toInt + 1 := by
  obtain ⟨o, u, w, z, e, hu, hw, hz⟩ := h
  refine ⟨fun j hj => by rw [e, up2_ne (by omega), up2_ne (by omega), up2_ne (by omega), up2_ne (by omega)], ?_, ?_, ?_⟩
  · rw [e, up2_ne (by omega), up2_ne (by omega), up2_f]
    unfold opv
    omega
  · rw [e, up2_ne (by omega), up2_f]; exact hw
  · rw [e, up2_f]; exact hz
section QSS
variable {t : Int → Int} {r : Int × Int} {m m2 m3 : Nat → Nat → Int32} {cb c x en : Int}
theorem bnd_id {r : Int × Int} : bnd r (fun q => (0, q)) = r := by
  by_cases h : r.1 = 0
  · rw [show bnd r (fun q => (0, q)) = (0, r.2) from if_pos h, ← h]
  · exact bnd_no h
theorem QS_start (h17 : (m2 123 17).toInt = 0) (h15 : (m2 123 15).toInt = 0) (ho : OPD 13 m2 m3) (hO : (m3 123 15).toInt = (m2 123 15).toInt + 1) (ht : t (m2 123 12).toInt = 40) : QS t (CND t (m2 123 12).toInt) m3 := by
  obtain ⟨a1, a2, a3, a4⟩ := OPD_u ho
  rw [h17] at a2
  have e0 : opv (m3 131 0) = 13 := a2
  have e1 : (m3 123 17).toInt.toNat = 1 := by omega
  refine ⟨⟨by omega, ?_⟩, ⟨fun j hj => ?_, fun j hj hi => ?_⟩, ?_⟩
  · rw [e1, show eo (m3 123 15).toInt = 5 by unfold eo; omega, a4]
    have ef : KC t (m3 131) (0 + 1) 5 = fun q => bnd (LB t 5 q) (cls t 41) := by
      funext q
      rw [KC_opn e0]
      congr 1
      funext y
      exact bnd_id
    rw [show (1 : Nat) = 0 + 1 from rfl, ef]
    unfold CND
    rw [if_pos ht]
    unfold CN
    rw [bnd_as]
  · rw [show j = 0 by omega, e0]; omega
  · rw [show j = 0 by omega, e0] at hi; omega
  · unfold CON
    rw [e1]
    show sumF gON (m3 131) 0 + gON (m3 131 0) = _
    have : gON (m3 131 0) = 1 := by unfold gON; rw [if_pos (Or.inr e0)]
    rw [this]
    show 0 + 1 = _
    omega
theorem QS_open {what : Int} (h : QS t r m) (h0 : 0 ≤ (m 123 17).toInt) (ho : OPD what m m2) (hO : (m2 123 15).toInt = (m 123 15).toInt + 1) (h6 : (m 123 15).toInt ≠ 6) (hw : (what = 10 ∧ t (m 123 12).toInt = 33) ∨ (what = 13 ∧ t (m 123 12).toInt = 40)) : QS t r m2 := by
  obtain ⟨a1, a2, a3, a4⟩ := OPD_u ho
  obtain ⟨k1, k2, k3⟩ := h
  have hg : ∀ j : Nat, (j : Int) < (m 123 17).toInt → m2 131 j = m 131 j := fun j hj => a1 j (by omega)
  refine ⟨?_, WS_up k2 h0 hg (Or.inl (by omega)) a3, ?_⟩
  · rcases hw with ⟨w1, w2⟩ | ⟨w1, w2⟩
    · exact KQ_not k1 h0 w2 h6 hg (by rw [a2]; exact w1) a3 hO a4
    · exact KQ_opn k1 h0 w2 h6 hg (by rw [a2]; exact w1) a3 hO a4
  · have e := CON_push h0 hg a3
    have : gON (m2 131 (m 123 17).toInt.toNat) = 1 := by unfold gON; rw [if_pos (by omega)]
    omega
theorem QS_deep (h : QS t r m) (ht : t (m 123 12).toInt = 33 ∨ t (m 123 12).toInt = 40) (h6 : (m 123 15).toInt = 6) (hx : x = -5000 - (m 123 12).toInt) : FLT r x := KQ_deep h.1 ht h6 hx
theorem QS_fl (h : QS t r m) (h1 : t (m 123 12).toInt ≠ 33) (h2 : t (m 123 12).toInt ≠ 40) (k : FLT (CM t (eo (m 123 15).toInt) (m 123 12).toInt) x) : FLT r x := KQ_fl h.1 h1 h2 k
/-- NOTs that wait go -/
theorem PSs_nots (h : PSs t r m) (h0 : 0 ≤ (m2 123 17).toInt) (hl : (m2 123 17).toInt ≤ (m 123 17).toInt) (e1 : ∀ j : Nat, (j : Int) < (m2 123 17).toInt → m2 131 j = m 131 j) (hz : ∀ j : Nat, (m2 123 17).toInt ≤ j → (j : Int) < (m 123 17).toInt → opv (m 131 j) = 10) (hO : (m2 123 15).toInt - (m2 123 17).toInt = (m 123 15).toInt - (m 123 17).toInt) (hP : (m2 123 12).toInt = (m 123 12).toInt) : PSs t r m2 := by
  obtain ⟨k1, k2, k3⟩ := h
  have ek : (m 123 17).toInt = (m2 123 17).toInt + (((m 123 17).toInt - (m2 123 17).toInt).toNat : Nat) := by omega
  have q := KP_nots ((m 123 17).toInt - (m2 123 17).toInt).toNat k1 (by omega) (fun j h1 h2 => hz j (by omega) h2)
  rw [show (m 123 17).toInt - (((m 123 17).toInt - (m2 123 17).toInt).toNat : Nat) = (m2 123 17).toInt by omega, show (m 123 15).toInt - (((m 123 17).toInt - (m2 123 17).toInt).toNat : Nat) = (m2 123 15).toInt by omega, ← hP] at q
  refine ⟨KP_f q e1, WS_dn k2 hl e1, ?_⟩
  have := CON_nots h0 e1 _ ek hz
  omega
theorem QS_cmp (h : QS t r m) (h1 : t (m 123 12).toInt ≠ 33) (h2 : t (m 123 12).toInt ≠ 40) (k : CM t (eo (m 123 15).toInt) (m 123 12).toInt = (0, (m2 123 12).toInt)) (hR : RC cb m m2) (hO : (m2 123 15).toInt - (m2 123 17).toInt = (m 123 15).toInt - (m 123 17).toInt) : PSs t r m2 := by
  obtain ⟨k1, k2, k3⟩ := h
  obtain ⟨_, _, _, b4, b5, b6, b7, _⟩ := hR
  have q0 := KQ_cm k1 h1 h2 k
  have ek : (m 123 17).toInt = (m2 123 17).toInt + (((m 123 17).toInt - (m2 123 17).toInt).toNat : Nat) := by omega
  have q := KP_nots ((m 123 17).toInt - (m2 123 17).toInt).toNat q0 (by omega) (fun j g1 g2 => b7 j (by omega) g2)
  rw [show (m 123 17).toInt - (((m 123 17).toInt - (m2 123 17).toInt).toNat : Nat) = (m2 123 17).toInt by omega, show (m 123 15).toInt - (((m 123 17).toInt - (m2 123 17).toInt).toNat : Nat) = (m2 123 15).toInt by omega] at q
  refine ⟨KP_f q b6, WS_dn k2 b4 b6, ?_⟩
  have := CON_nots b5 b6 _ ek b7
  omega
theorem PSs_lands (h : PSs t r m) (k : LDI cb c m m2) (hO : (m2 123 15).toInt = (m 123 15).toInt) (hP : (m2 123 12).toInt = (m 123 12).toInt) : PSs t r m2 := by
  obtain ⟨k1, k2, k3⟩ := h
  obtain ⟨_, _, _, b4, b5, b6, b7, _⟩ := k
  have q := KP_ifs ((m 123 17).toInt - (m2 123 17).toInt).toNat k1 (by omega) (fun j g1 g2 => b7 j (by omega) g2)
  rw [show (m 123 17).toInt - (((m 123 17).toInt - (m2 123 17).toInt).toNat : Nat) = (m2 123 17).toInt by omega, ← hO, ← hP] at q
  refine ⟨KP_f q (fun j _ => b6 j), WS_dn k2 b4 (fun j _ => b6 j), ?_⟩
  rw [CON_eq b5 b4 (fun j _ => b6 j) b7, k3, hO]
theorem PSs_pop (h : PSs t r m) (h1 : 1 ≤ (m 123 17).toInt) (hi : ¬ ifv (m 131 ((m 123 17).toInt - 1).toNat)) (h10 : opv (m 131 ((m 123 17).toInt - 1).toNat) ≠ 10) (ht : t (m 123 12).toInt = 41) (e1 : ∀ j, m2 131 j = m 131 j) (e2 : (m2 123 17).toInt = (m 123 17).toInt - 1) (e3 : (m2 123 15).toInt = (m 123 15).toInt - 1) (e4 : (m2 123 12).toInt = (m 123 12).toInt + 1) : PSs t r m2 := by
  obtain ⟨k1, k2, k3⟩ := h
  have b := k2.1 ((m 123 17).toInt - 1).toNat (by omega)
  have h13 : opv (m 131 ((m 123 17).toInt - 1).toNat) = 13 := by unfold ifv at hi; omega
  have q := KP_close k1 h1 ht h13 e2 e3 e4
  refine ⟨KP_f q (fun j _ => e1 j), WS_dn k2 (by omega) (fun j _ => e1 j), ?_⟩
  have e := CON_pop h1 (fun j _ => e1 j) e2
  have : gON (m 131 ((m 123 17).toInt - 1).toNat) = 1 := by unfold gON; rw [if_pos (Or.inr h13)]
  omega
theorem PSs_done (h : PSs t r m) (hw : (m 123 17).toInt = 0) : r = (0, (m 123 12).toInt) := KP_done h.1 hw
theorem PSs_jump (h : PSs t r m) (h1 : 1 ≤ (m 123 17).toInt) (ht : TXT t en) (hp : 0 ≤ (m 123 12).toInt) (hb : isB (t (m 123 12).toInt) = true) (h10 : opv (m 131 ((m 123 17).toInt - 1).toNat) ≠ 10) (k : JPI cb c m m2) (hO : (m2 123 15).toInt = (m 123 15).toInt) : QS t r m2 := by
  obtain ⟨k1, k2, k3⟩ := h
  obtain ⟨_, _, _, b4, b5, b6, b7, _⟩ := k
  refine ⟨by rw [hO]; exact KP_amp k1 h1 ht hp hb k2 h10 b5 b6 b4 b7, WS_up k2 (by omega) b5 (Or.inr ⟨b6, h1, h10⟩) b4, ?_⟩
  have e := CON_push (by omega) b5 b4
  have : gON (m2 131 (m 123 17).toInt.toNat) = 0 := by unfold gON; unfold ifv at b6; rw [if_neg (by omega)]
  omega
theorem PSs_wrong (h : PSs t r m) (h1 : 1 ≤ (m 123 17).toInt) (hb : isB (t (m 123 12).toInt) = false) (h41 : t (m 123 12).toInt ≠ 41) (h10 : opv (m 131 ((m 123 17).toInt - 1).toNat) ≠ 10) (hx : x = -1000 - (m 123 12).toInt) : FLT r x := KP_wrong h.1 h1 hb h41 h.2.1 h10 hx
end QSS
theorem LDI_top {cb c : Int} {m m2 : Nat → Nat → Int32} (hW : WS (m 131) (m 123 17).toInt.toNat) (h10 : opv (m 131 ((m 123 17).toInt - 1).toNat) ≠ 10) (k : LDI cb c m m2) : opv (m2 131 ((m2 123 17).toInt - 1).toNat) ≠ 10 ∨ (m2 123 17).toInt = 0 := by
  obtain ⟨_, _, _, b4, b5, b6, b7, _⟩ := k
  rw [b6]
  by_cases z : (m2 123 17).toInt = (m 123 17).toInt
  · left; rw [z]; exact h10
  · have q := b7 (m2 123 17).toInt.toNat (by omega) (by omega)
    have w := hW.2 (m2 123 17).toInt.toNat (by omega) q
    left
    rw [show ((m2 123 17).toInt - 1).toNat = (m2 123 17).toInt.toNat - 1 by omega]
    have := w.2
    omega
/-- a CLAUSE of the reference -/
theorem CLA_1 {t : Int → Int} {c p f : Int} (h1 : t p ≠ 110) (h2 : t p ≠ 112) (hf : f = -1000 - p) : FLT (CLA t c p) f := FLT_of (a := 1) (p := p) (if_neg (fun q => q.elim h1 h2)) (by decide) (by omega)
theorem CLA_4 {t : Int → Int} {c p f : Int} (h : t p = 110 ∨ t p = 112) (hc : 12 ≤ c) (hf : f = -4000 - p) : FLT (CLA t c p) f := by
  refine FLT_of (a := 4) (p := p) ?_ (by decide) (by omega)
  unfold CLA
  rw [if_pos h, if_pos hc]
theorem CLA_n {t : Int → Int} {c p : Int} (h : t p = 110) (hc : c < 12) : CLA t c p = CND t (p + 1) := by
  unfold CLA
  rw [if_pos (Or.inl h), if_neg (by omega), if_neg (by rw [h]; decide), bnd_ok]
  rfl
theorem CLA_p {t : Int → Int} {c p q : Int} (h : t p = 112) (hc : c < 12) (k : SU t 6 (p + 1) = (0, q)) : CLA t c p = CND t q := by
  unfold CLA
  rw [if_pos (Or.inr h), if_neg (by omega), if_pos h, k, bnd_ok]
  rfl
theorem CLA_pf {t : Int → Int} {c p f : Int} (h : t p = 112) (hc : c < 12) (k : FLT (SU t 6 (p + 1)) f) : FLT (CLA t c p) f := by
  unfold CLA
  rw [if_pos (Or.inr h), if_neg (by omega), if_pos h]
  exact FLT_b k
