/-! the TEXT of a LAW: where a piece of it ends, or the FAULT and its place -/
def bnd (r : Int × Int) (k : Int → Int × Int) : Int × Int := if r.1 = 0 then k r.2 else r
theorem bnd_ok {p : Int} {k : Int → Int × Int} : bnd (0, p) k = k p := if_pos rfl
theorem bnd_no {r : Int × Int} {k : Int → Int × Int} (h : r.1 ≠ 0) : bnd r k = r := if_neg h
theorem pr_ne {a q : Int} (h : a ≠ 0) : ¬ (a, q).1 = 0 := h
theorem bnd_as {r : Int × Int} {k l : Int → Int × Int} : bnd (bnd r k) l = bnd r (fun p => bnd (k p) l) := by
  by_cases h : r.1 = 0
  · simp only [bnd, if_pos h]
  · simp only [bnd, if_neg h]
theorem bnd_eq {r : Int × Int} {k l : Int → Int × Int} (h : r.1 = 0 → k r.2 = l r.2) : bnd r k = bnd r l := by
  by_cases z : r.1 = 0
  · simp only [bnd, if_pos z]; exact h z
  · simp only [bnd, if_neg z]
theorem bnd_le {r : Int × Int} {k : Int → Int × Int} {p : Int} (h1 : r.1 = 0 → p ≤ r.2) (h2 : ∀ q, p ≤ q → (k q).1 = 0 → p ≤ (k q).2) (h : (bnd r k).1 = 0) : p ≤ (bnd r k).2 := by
  by_cases z : r.1 = 0
  · have e : bnd r k = k r.2 := if_pos z
    rw [e] at h ⊢
    exact h2 _ (h1 z) h
  · rw [bnd_no z] at h; exact absurd h z
/-- a row of like pieces -/
def lpx (t : Int → Int) (c : Int → Bool) (F : Int → Int × Int) : Nat → Int → Int × Int
  | 0, q => (0, q)
  | n + 1, q => if c (t q) = true then bnd (F (q + 1)) (lpx t c F n) else (0, q)
theorem lpx_le {t : Int → Int} {c : Int → Bool} {F : Int → Int × Int} (hF : ∀ q, (F q).1 = 0 → q ≤ (F q).2) : ∀ (n : Nat) (p q : Int), p ≤ q → (lpx t c F n q).1 = 0 → p ≤ (lpx t c F n q).2
  | 0, p, q, h, _ => h
  | n + 1, p, q, h, h0 => by
    simp only [lpx] at h0 ⊢
    by_cases z : c (t q) = true
    · rw [if_pos z] at h0 ⊢
      exact bnd_le (fun w => by have := hF _ w; omega) (fun u hu hw => lpx_le hF n p u hu hw) h0
    · rw [if_neg z]; exact h
theorem lpx_irr {t : Int → Int} {c : Int → Bool} {F : Int → Int × Int} {en : Int} (ht : ∀ q, en ≤ q → t q = -1) (hc : c (-1) = false) (hF : ∀ q, (F q).1 = 0 → q ≤ (F q).2) : ∀ (n m : Nat) (q : Int), en - q ≤ n → en - q ≤ m → lpx t c F n q = lpx t c F m q
  | 0, 0, q, _, _ => rfl
  | 0, m + 1, q, h, _ => by
    simp only [lpx]
    rw [ht q (by omega), hc, if_neg (by decide)]
  | n + 1, 0, q, _, h => by
    simp only [lpx]
    rw [ht q (by omega), hc, if_neg (by decide)]
  | n + 1, m + 1, q, h1, h2 => by
    simp only [lpx]
    by_cases z : c (t q) = true
    · rw [if_pos z, if_pos z]
      refine bnd_eq (fun h0 => ?_)
      have := hF (q + 1) h0
      exact lpx_irr ht hc hF n m _ (by omega) (by omega)
    · rw [if_neg z, if_neg z]
def RLp (t : Int → Int) (c : Int → Bool) (F : Int → Int × Int) (q : Int) : Int × Int := lpx t c F 200 q
/-- a TEXT: nothing behind its end -/
def TXT (t : Int → Int) (en : Int) : Prop := en ≤ 160 ∧ ∀ q, en ≤ q → t q = -1
theorem RLp_no {t : Int → Int} {c : Int → Bool} {F : Int → Int × Int} {q : Int} (h : c (t q) = false) : RLp t c F q = (0, q) := by
  show (if c (t q) = true then bnd (F (q + 1)) (lpx t c F 199) else (0, q)) = (0, q)
  rw [h, if_neg (by decide)]
theorem RLp_yes {t : Int → Int} {c : Int → Bool} {F : Int → Int × Int} {en q : Int} (ht : TXT t en) (hc : c (-1) = false) (hF : ∀ q, (F q).1 = 0 → q ≤ (F q).2) (hq : 0 ≤ q) (h : c (t q) = true) : RLp t c F q = bnd (F (q + 1)) (RLp t c F) := by
  show (if c (t q) = true then bnd (F (q + 1)) (lpx t c F 199) else (0, q)) = bnd (F (q + 1)) (lpx t c F 200)
  rw [if_pos h]
  refine bnd_eq (fun h0 => ?_)
  have := hF (q + 1) h0
  have := ht.1
  exact lpx_irr ht.2 hc hF 199 200 _ (by omega) (by omega)
theorem RLp_le {t : Int → Int} {c : Int → Bool} {F : Int → Int × Int} (hF : ∀ q, (F q).1 = 0 → q ≤ (F q).2) {p q : Int} (h : p ≤ q) (h0 : (RLp t c F q).1 = 0) : p ≤ (RLp t c F q).2 := lpx_le hF 200 p q h h0
/-- which signs -/
def isS (x : Int) : Bool := x == 43 || x == 45 || x == 42 || x == 47 || x == 37
def isT (x : Int) : Bool := x == 42 || x == 47 || x == 37
def isB (x : Int) : Bool := x == 38 || x == 124
def isC (x : Int) : Bool := x == 60 || x == 62 || x == 61
def dig (x : Int) : Bool := decide (48 ≤ x ∧ x ≤ 57)
def nam (x : Int) : Bool := x == 108 || x == 105 || x == 119 || x == 109 || x == 111 || x == 107 || x == 100 || x == 98 || x == 102 || x == 103
def nd (t : Int → Int) : Nat → Int → Int × Int
  | 0, q => if dig (t q) = true then (2, q) else (0, q)
  | k + 1, q => if dig (t q) = true then nd t k (q + 1) else (0, q)
theorem nd_le {t : Int → Int} : ∀ (k : Nat) (p q : Int), p ≤ q → (nd t k q).1 = 0 → p ≤ (nd t k q).2
  | 0, p, q, h, h0 => by
    simp only [nd] at h0 ⊢
    by_cases z : dig (t q) = true
    · rw [if_pos z] at h0; exact absurd h0 (pr_ne (by decide))
    · rw [if_neg z]; exact h
  | k + 1, p, q, h, h0 => by
    simp only [nd] at h0 ⊢
    by_cases z : dig (t q) = true
    · rw [if_pos z] at h0 ⊢; exact nd_le k p _ (by omega) h0
    · rw [if_neg z]; exact h
def atom (t : Int → Int) (p : Int) : Int × Int := if dig (t p) = true then nd t 5 p else if nam (t p) = true then (0, p + 1) else (1, p)
theorem atom_le {t : Int → Int} {p : Int} (h : (atom t p).1 = 0) : p + 1 ≤ (atom t p).2 := by
  unfold atom at h ⊢
  by_cases z : dig (t p) = true
  · rw [if_pos z] at h ⊢
    have e : nd t 5 p = nd t 4 (p + 1) := by show (if dig (t p) = true then nd t 4 (p + 1) else (0, p)) = _; rw [if_pos z]
    rw [e] at h ⊢
    exact nd_le 4 (p + 1) (p + 1) (Int.le_refl _) h
  · rw [if_neg z] at h ⊢
    by_cases y : nam (t p) = true
    · rw [if_pos y]; exact Int.le_refl _
    · rw [if_neg y] at h; exact absurd h (pr_ne (by decide))
def cls (t : Int → Int) (x q : Int) : Int × Int := if t q = x then (0, q + 1) else (1, q)
theorem cls_le {t : Int → Int} {x p q : Int} (h : p ≤ q) (h0 : (cls t x q).1 = 0) : p ≤ (cls t x q).2 := by
  unfold cls at h0 ⊢
  by_cases z : t q = x
  · rw [if_pos z]; show p ≤ q + 1; omega
  · rw [if_neg z]; exact h
/-- a factor, with so many that may still be opened -/
def FA (t : Int → Int) : Nat → Int → Int × Int
  | 0, p => if t p = 91 then (5, p) else atom t p
  | e + 1, p => if t p = 91 then bnd (bnd (FA t e (p + 1)) (RLp t isS (FA t e))) (cls t 93) else atom t p
theorem FA_le {t : Int → Int} : ∀ (e : Nat) (p : Int), (FA t e p).1 = 0 → p + 1 ≤ (FA t e p).2
  | 0, p, h => by
    simp only [FA] at h ⊢
    by_cases z : t p = 91
    · rw [if_pos z] at h; exact absurd h (pr_ne (by decide))
    · rw [if_neg z] at h ⊢; exact atom_le h
  | e + 1, p, h => by
    have hF : ∀ q, (FA t e q).1 = 0 → q ≤ (FA t e q).2 := fun q hq => by have := FA_le e q hq; omega
    simp only [FA] at h ⊢
    by_cases z : t p = 91
    · rw [if_pos z] at h ⊢
      exact bnd_le (fun w => bnd_le (fun w2 => by have := FA_le e (p + 1) w2; omega) (fun u hu hw => RLp_le hF hu hw) w) (fun u hu hw => cls_le hu hw) h
    · rw [if_neg z] at h ⊢; exact atom_le h
theorem FA_l {t : Int → Int} (e : Nat) : ∀ q, (FA t e q).1 = 0 → q ≤ (FA t e q).2 := fun q hq => by have := FA_le e q hq; omega
theorem FA_atom {t : Int → Int} {e : Nat} {p : Int} (h : t p ≠ 91) : FA t e p = atom t p := by
  cases e with
  | zero => simp only [FA]; rw [if_neg h]
  | succ e => simp only [FA]; rw [if_neg h]
theorem FA_deep {t : Int → Int} {p : Int} (h : t p = 91) : FA t 0 p = (5, p) := by simp only [FA]; rw [if_pos h]
def LSu (t : Int → Int) (e : Nat) : Int → Int × Int := RLp t isS (FA t e)
def SU (t : Int → Int) (e : Nat) (p : Int) : Int × Int := bnd (FA t e p) (LSu t e)
theorem LSu_yes {t : Int → Int} {en q : Int} {e : Nat} (ht : TXT t en) (hq : 0 ≤ q) (h : isS (t q) = true) : LSu t e q = bnd (FA t e (q + 1)) (LSu t e) := RLp_yes ht (by decide) (FA_l e) hq h
theorem LSu_no {t : Int → Int} {q : Int} {e : Nat} (h : isS (t q) = false) : LSu t e q = (0, q) := RLp_no h
theorem SU_le {t : Int → Int} {e : Nat} {p : Int} (h : (SU t e p).1 = 0) : p + 1 ≤ (SU t e p).2 := bnd_le (fun w => FA_le e p w) (fun _ hu hw => RLp_le (FA_l e) hu hw) h
def CM (t : Int → Int) (e : Nat) (p : Int) : Int × Int := bnd (SU t e p) (fun q => if isC (t q) = true then SU t e (q + 1) else (1, q))
theorem CM_le {t : Int → Int} {e : Nat} {p : Int} (h : (CM t e p).1 = 0) : p + 1 ≤ (CM t e p).2 := by
  refine bnd_le (fun w => SU_le w) (fun u hu hw => ?_) h
  by_cases z : isC (t u) = true
  · rw [if_pos z] at hw ⊢; have := SU_le hw; omega
  · rw [if_neg z] at hw; exact absurd hw (pr_ne (by decide))
/-- a piece of a condition -/
def PI (t : Int → Int) : Nat → Int → Int × Int
  | 0, p => if t p = 33 ∨ t p = 40 then (5, p) else CM t 0 p
  | e + 1, p => if t p = 33 then PI t e (p + 1) else if t p = 40 then bnd (bnd (PI t e (p + 1)) (RLp t isB (PI t e))) (cls t 41) else CM t (e + 1) p
theorem PI_le {t : Int → Int} : ∀ (e : Nat) (p : Int), (PI t e p).1 = 0 → p + 1 ≤ (PI t e p).2
  | 0, p, h => by
    simp only [PI] at h ⊢
    by_cases z : t p = 33 ∨ t p = 40
    · rw [if_pos z] at h; exact absurd h (pr_ne (by decide))
    · rw [if_neg z] at h ⊢; exact CM_le h
  | e + 1, p, h => by
    have hF : ∀ q, (PI t e q).1 = 0 → q ≤ (PI t e q).2 := fun q hq => by have := PI_le e q hq; omega
    simp only [PI] at h ⊢
    by_cases z : t p = 33
    · rw [if_pos z] at h ⊢; have := PI_le e (p + 1) h; omega
    · rw [if_neg z] at h ⊢
      by_cases y : t p = 40
      · rw [if_pos y] at h ⊢
        exact bnd_le (fun w => bnd_le (fun w2 => by have := PI_le e (p + 1) w2; omega) (fun u hu hw => RLp_le hF hu hw) w) (fun u hu hw => cls_le hu hw) h
      · rw [if_neg y] at h ⊢; exact CM_le h
theorem PI_l {t : Int → Int} (e : Nat) : ∀ q, (PI t e q).1 = 0 → q ≤ (PI t e q).2 := fun q hq => by have := PI_le e q hq; omega
theorem PI_cm {t : Int → Int} {e : Nat} {p : Int} (h1 : t p ≠ 33) (h2 : t p ≠ 40) : PI t e p = CM t e p := by
  cases e with
  | zero => simp only [PI]; rw [if_neg (fun z => z.elim h1 h2)]
  | succ e => simp only [PI]; rw [if_neg h1, if_neg h2]
theorem PI_deep {t : Int → Int} {p : Int} (h : t p = 33 ∨ t p = 40) : PI t 0 p = (5, p) := by simp only [PI]; rw [if_pos h]
theorem PI_not {t : Int → Int} {e : Nat} {p : Int} (h : t p = 33) : PI t (e + 1) p = PI t e (p + 1) := by simp only [PI]; rw [if_pos h]
def LB (t : Int → Int) (e : Nat) : Int → Int × Int := RLp t isB (PI t e)
def CN (t : Int → Int) (e : Nat) (p : Int) : Int × Int := bnd (PI t e p) (LB t e)
theorem PI_opn {t : Int → Int} {e : Nat} {p : Int} (h : t p = 40) : PI t (e + 1) p = bnd (CN t e (p + 1)) (cls t 41) := by
  simp only [PI]
  rw [if_neg (by rw [h]; decide), if_pos h]
  rfl
theorem FA_opn {t : Int → Int} {e : Nat} {p : Int} (h : t p = 91) : FA t (e + 1) p = bnd (SU t e (p + 1)) (cls t 93) := by
  simp only [FA]
  rw [if_pos h]
  rfl
theorem LB_yes {t : Int → Int} {en q : Int} {e : Nat} (ht : TXT t en) (hq : 0 ≤ q) (h : isB (t q) = true) : LB t e q = bnd (PI t e (q + 1)) (LB t e) := RLp_yes ht (by decide) (PI_l e) hq h
theorem LB_no {t : Int → Int} {q : Int} {e : Nat} (h : isB (t q) = false) : LB t e q = (0, q) := RLp_no h
/-- what is to come behind a factor, with b brackets of sums open -/
def KSu (t : Int → Int) : Nat → Nat → Int → Int × Int
  | 0, e, q => LSu t e q
  | b + 1, e, q => bnd (LSu t e q) (fun q => bnd (cls t 93 q) (KSu t b (e + 1)))
theorem KSu_sign {t : Int → Int} {en q : Int} (ht : TXT t en) (hq : 0 ≤ q) (h : isS (t q) = true) : ∀ (b e : Nat), KSu t b e q = bnd (FA t e (q + 1)) (KSu t b e)
  | 0, e => LSu_yes ht hq h
  | b + 1, e => by
    simp only [KSu]
    rw [LSu_yes ht hq h, bnd_as]
theorem KSu_opn {t : Int → Int} {q : Int} {b e : Nat} (h : t q = 91) : bnd (FA t (e + 1) q) (KSu t b (e + 1)) = bnd (FA t e (q + 1)) (KSu t (b + 1) e) := by
  rw [FA_opn h]
  unfold SU
  rw [bnd_as, bnd_as]
  rfl
theorem KSu_close {t : Int → Int} {q : Int} {b e : Nat} (h : t q = 93) : KSu t (b + 1) e q = KSu t b (e + 1) (q + 1) := by
  simp only [KSu]
  rw [LSu_no (by rw [h]; decide), bnd_ok]
  have e2 : cls t 93 q = (0, q + 1) := if_pos h
  rw [e2, bnd_ok]
theorem KSu_wrong {t : Int → Int} {q : Int} {b e : Nat} (h0 : isS (t q) = false) (h : t q ≠ 93) : KSu t (b + 1) e q = (1, q) := by
  simp only [KSu]
  rw [LSu_no h0, bnd_ok]
  have e2 : cls t 93 q = (1, q) := if_neg h
  rw [e2]
  exact bnd_no (pr_ne (by decide))
theorem KSu_end {t : Int → Int} {q : Int} {e : Nat} (h0 : isS (t q) = false) : KSu t 0 e q = (0, q) := LSu_no h0
/-- what is to come behind a piece, by what waits -/
def KC (t : Int → Int) (f : Nat → Int32) : Nat → Nat → Int → Int × Int
  | 0, _, q => (0, q)
  | w + 1, e, q => if opv (f w) = 10 then KC t f w (e + 1) q else if opv (f w) = 13 then bnd (LB t e q) (fun q => bnd (cls t 41 q) (KC t f w (e + 1))) else KC t f w e q
theorem KC_eq {t : Int → Int} {f g : Nat → Int32} : ∀ (w e : Nat) (q : Int), (∀ j, j < w → g j = f j) → KC t g w e q = KC t f w e q
  | 0, _, _, _ => rfl
  | w + 1, e, q, h => by
    have h2 : ∀ j, j < w → g j = f j := fun j hj => h j (by omega)
    have e1 : KC t g w (e + 1) = KC t f w (e + 1) := funext fun p => KC_eq w (e + 1) p h2
    simp only [KC]
    rw [h w (by omega), e1, KC_eq w e q h2]
theorem KC_not {t : Int → Int} {f : Nat → Int32} {w e : Nat} {q : Int} (h : opv (f w) = 10) : KC t f (w + 1) e q = KC t f w (e + 1) q := by simp only [KC]; rw [if_pos h]
theorem KC_if {t : Int → Int} {f : Nat → Int32} {w e : Nat} {q : Int} (h : opv (f w) = 11 ∨ opv (f w) = 12) : KC t f (w + 1) e q = KC t f w e q := by simp only [KC]; rw [if_neg (by omega), if_neg (by omega)]
theorem KC_opn {t : Int → Int} {f : Nat → Int32} {w e : Nat} {q : Int} (h : opv (f w) = 13) : KC t f (w + 1) e q = bnd (LB t e q) (fun q => bnd (cls t 41 q) (KC t f w (e + 1))) := by simp only [KC]; rw [if_neg (by omega), if_pos h]
/-- what waits, in order: jumps stand on jumps, or on a bracket -/
def WS (f : Nat → Int32) (w : Nat) : Prop := (∀ j, j < w → 10 ≤ opv (f j) ∧ opv (f j) ≤ 13) ∧ ∀ j, j < w → (opv (f j) = 11 ∨ opv (f j) = 12) → 1 ≤ j ∧ 11 ≤ opv (f (j - 1))
theorem KC_amp0 {t : Int → Int} {f : Nat → Int32} {en q : Int} {w e : Nat} (ht : TXT t en) (hq : 0 ≤ q) (h : isB (t q) = true) (z : opv (f w) = 13) : KC t f (w + 1) e q = bnd (PI t e (q + 1)) (KC t f (w + 1) e) := by
  have ef : KC t f (w + 1) e = fun q => bnd (LB t e q) (fun q => bnd (cls t 41 q) (KC t f w (e + 1))) := funext fun p => KC_opn z
  rw [ef]
  show bnd (LB t e q) _ = _
  rw [LB_yes ht hq h, bnd_as]
theorem KC_amp {t : Int → Int} {f : Nat → Int32} {en q : Int} (ht : TXT t en) (hq : 0 ≤ q) (h : isB (t q) = true) (e : Nat) : ∀ w : Nat, WS f (w + 1) → opv (f w) ≠ 10 → KC t f (w + 1) e q = bnd (PI t e (q + 1)) (KC t f (w + 1) e) := by
  intro w
  induction w with
  | zero =>
    intro hw h10
    have b := hw.1 0 (by omega)
    by_cases z : opv (f 0) = 13
    · exact KC_amp0 ht hq h z
    · have c := (hw.2 0 (by omega) (by omega)).1
      omega
  | succ v ih =>
    intro hw h10
    have b := hw.1 (v + 1) (by omega)
    by_cases z : opv (f (v + 1)) = 13
    · exact KC_amp0 ht hq h z
    · have hi : opv (f (v + 1)) = 11 ∨ opv (f (v + 1)) = 12 := by omega
      have w2 := (hw.2 (v + 1) (by omega) hi).2
      rw [show v + 1 - 1 = v by omega] at w2
      have ef : KC t f (v + 1 + 1) e = KC t f (v + 1) e := funext fun p => KC_if hi
      rw [ef]
      exact ih ⟨fun j hj => hw.1 j (by omega), fun j hj => hw.2 j (by omega)⟩ (by omega)
theorem KC_wrong0 {t : Int → Int} {f : Nat → Int32} {q : Int} {w e : Nat} (h : isB (t q) = false) (h2 : t q ≠ 41) (z : opv (f w) = 13) : KC t f (w + 1) e q = (1, q) := by
  rw [KC_opn z, LB_no h, bnd_ok]
  have e2 : cls t 41 q = (1, q) := if_neg h2
  rw [e2]
  exact bnd_no (pr_ne (by decide))
theorem KC_wrong {t : Int → Int} {f : Nat → Int32} {q : Int} (h : isB (t q) = false) (h2 : t q ≠ 41) (e : Nat) : ∀ w : Nat, WS f (w + 1) → opv (f w) ≠ 10 → KC t f (w + 1) e q = (1, q) := by
  intro w
  induction w with
  | zero =>
    intro hw h10
    have b := hw.1 0 (by omega)
    by_cases z : opv (f 0) = 13
    · exact KC_wrong0 h h2 z
    · have c := (hw.2 0 (by omega) (by omega)).1
      omega
  | succ v ih =>
    intro hw h10
    have b := hw.1 (v + 1) (by omega)
    by_cases z : opv (f (v + 1)) = 13
    · exact KC_wrong0 h h2 z
    · have hi : opv (f (v + 1)) = 11 ∨ opv (f (v + 1)) = 12 := by omega
      have w2 := (hw.2 (v + 1) (by omega) hi).2
      rw [show v + 1 - 1 = v by omega] at w2
      rw [KC_if hi]
      exact ih ⟨fun j hj => hw.1 j (by omega), fun j hj => hw.2 j (by omega)⟩ (by omega)
theorem KC_close {t : Int → Int} {f : Nat → Int32} {q : Int} {w e : Nat} (h : t q = 41) (z : opv (f w) = 13) : KC t f (w + 1) e q = KC t f w (e + 1) (q + 1) := by
  rw [KC_opn z, LB_no (by rw [h]; decide), bnd_ok]
  have e2 : cls t 41 q = (0, q + 1) := if_pos h
  rw [e2, bnd_ok]
/-- a CLAUSE, the whole TEXT -/
def CLA (t : Int → Int) (c p : Int) : Int × Int := if t p = 110 ∨ t p = 112 then (if 12 ≤ c then (4, p) else bnd (if t p = 112 then SU t 6 (p + 1) else (0, p + 1)) (fun q => if t q = 40 then bnd (CN t 5 (q + 1)) (cls t 41) else (1, q))) else (1, p)
def LWA (t : Int → Int) (en : Int) : Nat → Int → Int → Int
  | 0, c, _ => c
  | n + 1, c, p => if (CLA t c p).1 = 0 then (if (CLA t c p).2 < en then (if t (CLA t c p).2 = 59 then LWA t en n (c + 1) ((CLA t c p).2 + 1) else -1000 - (CLA t c p).2) else c + 1) else -1000 * (CLA t c p).1 - (CLA t c p).2
/-- what a reader answers, leaves -/
def FLT (r : Int × Int) (f : Int) : Prop := r.1 ≠ 0 ∧ f = -1000 * r.1 - r.2
def RSX (r : Int × Int) (v a f : Int) : Prop := (v = 1 ∧ r = (0, a)) ∨ (v = 0 ∧ FLT r f)
theorem RSX_fl {r : Int × Int} {v a f : Int} (h : RSX r v a f) (hv : v = 0) : FLT r f := by
  rcases h with h | h
  · have := h.1; omega
  · exact h.2
theorem RSX_ok {r : Int × Int} {v a f : Int} (h : RSX r v a f) (hv : v ≠ 0) : r = (0, a) := by
  rcases h with h | h
  · exact h.2
  · exact absurd h.1 hv
def TRX (r : Int × Int) (L : Int → Int × Int) (P : Int → Prop) (v a f : Int) : Prop := (v = 1 ∧ r = L a ∧ P a) ∨ (v = 0 ∧ FLT r f)
theorem TRX_fl {r : Int × Int} {L : Int → Int × Int} {P : Int → Prop} {v a f : Int} (h : TRX r L P v a f) (hv : v = 0) : FLT r f := by
  rcases h with h | h
  · have := h.1; omega
  · exact h.2
theorem TRX_ok {r : Int × Int} {L : Int → Int × Int} {P : Int → Prop} {v a f : Int} (h : TRX r L P v a f) (hv : v ≠ 0) : r = L a ∧ P a := by
  rcases h with h | h
  · exact h.2
  · exact absurd h.1 hv
theorem FLT_b {r : Int × Int} {k : Int → Int × Int} {f : Int} (h : FLT r f) : FLT (bnd r k) f := by rw [bnd_no h.1]; exact h
theorem FLT_of {r : Int × Int} {a p f : Int} (e : r = (a, p)) (ha : a ≠ 0) (hf : f = -1000 * a - p) : FLT r f := by rw [e]; exact ⟨ha, hf⟩
/-! pieces -/
section PC
variable {t : Int → Int} {e : Nat} {en p q a f : Int}
theorem FX_deep (h : t p = 91) (hf : f = -5000 - p) : FLT (FA t 0 p) f := FLT_of (FA_deep h) (by decide) (by omega)
theorem FX_sum (h : t p = 91) (k : FLT (SU t e (p + 1)) f) : FLT (FA t (e + 1) p) f := by rw [FA_opn h]; exact FLT_b k
theorem FX_co (h : t p = 91) (k : SU t e (p + 1) = (0, q)) (hq : t q = 93) (ha : a = q + 1) : FA t (e + 1) p = (0, a) := by
  rw [FA_opn h, k, bnd_ok, ha]
  exact if_pos hq
theorem FX_cn (h : t p = 91) (k : SU t e (p + 1) = (0, q)) (hq : t q ≠ 93) (hf : f = -1000 - q) : FLT (FA t (e + 1) p) f := by
  refine FLT_of (a := 1) (p := q) ?_ (by decide) (by omega)
  rw [FA_opn h, k, bnd_ok]
  exact if_neg hq
theorem AT_num (h : dig (t p) = true) : atom t p = nd t 5 p := if_pos h
theorem AT_nam (h : dig (t p) = false) (k : nam (t p) = true) : atom t p = (0, p + 1) := by
  unfold atom
  rw [h, if_neg (by decide), if_pos k]
theorem AT_no (h : dig (t p) = false) (k : nam (t p) = false) : atom t p = (1, p) := by
  unfold atom
  rw [h, if_neg (by decide), k, if_neg (by decide)]
theorem SU_ok (h : FA t e p = (0, q)) : SU t e p = LSu t e q := by unfold SU; rw [h, bnd_ok]
theorem SU_fl (h : FLT (FA t e p) f) : FLT (SU t e p) f := FLT_b h
theorem LSu_ok (ht : TXT t en) (ha : 0 ≤ a) (h : isS (t a) = true) (k : FA t e (a + 1) = (0, q)) : LSu t e a = LSu t e q := by rw [LSu_yes ht ha h, k, bnd_ok]
theorem LSu_fl (ht : TXT t en) (ha : 0 ≤ a) (h : isS (t a) = true) (k : FLT (FA t e (a + 1)) f) : FLT (LSu t e a) f := by rw [LSu_yes ht ha h]; exact FLT_b k
theorem LSu_su (ht : TXT t en) (ha : 0 ≤ a) (h : isS (t a) = true) : LSu t e a = SU t e (a + 1) := LSu_yes ht ha h
theorem CN_ok (h : PI t e p = (0, q)) : CN t e p = LB t e q := by unfold CN; rw [h, bnd_ok]
theorem CN_fl (h : FLT (PI t e p) f) : FLT (CN t e p) f := FLT_b h
theorem LB_cn (ht : TXT t en) (ha : 0 ≤ a) (h : isB (t a) = true) : LB t e a = CN t e (a + 1) := LB_yes ht ha h
theorem PX_deep (h : t p = 33 ∨ t p = 40) (hf : f = -5000 - p) : FLT (PI t 0 p) f := FLT_of (PI_deep h) (by decide) (by omega)
theorem PX_con (h : t p = 40) (k : FLT (CN t e (p + 1)) f) : FLT (PI t (e + 1) p) f := by rw [PI_opn h]; exact FLT_b k
theorem PX_co (h : t p = 40) (k : CN t e (p + 1) = (0, q)) (hq : t q = 41) (ha : a = q + 1) : PI t (e + 1) p = (0, a) := by
  rw [PI_opn h, k, bnd_ok, ha]
  exact if_pos hq
theorem PX_cn (h : t p = 40) (k : CN t e (p + 1) = (0, q)) (hq : t q ≠ 41) (hf : f = -1000 - q) : FLT (PI t (e + 1) p) f := by
  refine FLT_of (a := 1) (p := q) ?_ (by decide) (by omega)
  rw [PI_opn h, k, bnd_ok]
  exact if_neg hq
theorem CM_fl (h : FLT (SU t e p) f) : FLT (CM t e p) f := FLT_b h
theorem CM_ok (h : SU t e p = (0, q)) (k : isC (t q) = true) : CM t e p = SU t e (q + 1) := by
  unfold CM
  rw [h, bnd_ok, if_pos k]
theorem CM_no (h : SU t e p = (0, q)) (k : isC (t q) = false) (hf : f = -1000 - q) : FLT (CM t e p) f := by
  refine FLT_of (a := 1) (p := q) ?_ (by decide) (by omega)
  unfold CM
  rw [h, bnd_ok, k, if_neg (by decide)]
end PC
theorem isT_S {x : Int} (h : isT x = true) : isS x = true := by
  unfold isT at h
  unfold isS
  simp only [Bool.or_eq_true, beq_iff_eq] at h ⊢
  omega
theorem isS_n {x : Int} (h : isT x = false) (h1 : x ≠ 43) (h2 : x ≠ 45) : isS x = false := by
  cases z : isS x with
  | false => rfl
  | true =>
    unfold isS at z
    unfold isT at h
    simp only [Bool.or_eq_true, beq_iff_eq] at z
    simp only [Bool.or_eq_false_iff, beq_eq_false_iff_ne] at h
    omega
theorem isS_y {x : Int} (h : x = 43 ∨ x = 45 ∨ x = 42 ∨ x = 47 ∨ x = 37) : isS x = true := by
  unfold isS
  simp only [Bool.or_eq_true, beq_iff_eq]
  omega
theorem isT_y {x : Int} (h : x = 42 ∨ x = 47 ∨ x = 37) : isT x = true := by
  unfold isT
  simp only [Bool.or_eq_true, beq_iff_eq]
  omega
theorem isT_no {x : Int} (h1 : x ≠ 42) (h2 : x ≠ 47) (h3 : x ≠ 37) : isT x = false := by
  unfold isT
  simp only [Bool.or_eq_false_iff, beq_eq_false_iff_ne]
  omega
theorem isB_y {x : Int} (h : x = 38 ∨ x = 124) : isB x = true := by
  unfold isB
  simp only [Bool.or_eq_true, beq_iff_eq]
  omega
theorem isB_no {x : Int} (h1 : x ≠ 38) (h2 : x ≠ 124) : isB x = false := by
  unfold isB
  simp only [Bool.or_eq_false_iff, beq_eq_false_iff_ne]
  omega
theorem isC_y {x : Int} (h : x = 60 ∨ x = 62 ∨ x = 61) : isC x = true := by
  unfold isC
  simp only [Bool.or_eq_true, beq_iff_eq]
  omega
theorem isC_no {x : Int} (h1 : x ≠ 60) (h2 : x ≠ 62) (h3 : x ≠ 61) : isC x = false := by
  unfold isC
  simp only [Bool.or_eq_false_iff, beq_eq_false_iff_ne]
  omega
theorem dig_y {x : Int} (h1 : 48 ≤ x) (h2 : x ≤ 57) : dig x = true := decide_eq_true ⟨h1, h2⟩
theorem dig_no {x : Int} (h : x < 48 ∨ 57 < x) : dig x = false := decide_eq_false (by omega)
/-- names -/
def nix (x : Int) : Int := if x = 108 then 0 else if x = 105 then 1 else if x = 119 then 2 else if x = 109 then 3 else if x = 111 then 4 else if x = 107 then 5 else if x = 100 then 6 else if x = 98 then 7 else if x = 102 then 8 else if x = 103 then 9 else -1
theorem nix_y {x : Int} (h : nix x ≠ -1) : nam x = true := by
  unfold nam
  simp only [Bool.or_eq_true, beq_iff_eq]
  unfold nix at h
  omega
theorem nix_no {x : Int} (h : nix x = -1) : nam x = false := by
  cases z : nam x with
  | false => rfl
  | true =>
    unfold nam at z
    simp only [Bool.or_eq_true, beq_iff_eq] at z
    unfold nix at h
    omega
