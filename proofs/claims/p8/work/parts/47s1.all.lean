/-! what a row of codes of the class comes to, on a stack; what it means -/
theorem ob_some {β : Type} {v : Int32} {k : Int32 → Option β} : (some v).bind k = k v := rfl
theorem ob_as {β : Type} {x : Option Int32} {f : Int32 → Option Int32} {g : Int32 → Option β} : (x.bind f).bind g = x.bind fun y => (f y).bind g := by
  cases x with
  | none => rfl
  | some v => rfl
def hd0 : List Int32 → Int32
  | [] => 0
  | v :: _ => v
def psh (v : Int32) (s : List Int32) : List Int32 := if s.length < 32 then v :: s else s
theorem psh_ok {v : Int32} {s : List Int32} (h : s.length < 32) : psh v s = v :: s := if_pos h
def b01 (p : Bool) : Int32 := if p = true then 1 else 0
def jnv (c : Int) (x y : Int32) : Int32 := if c = 43 then x + y else if c = 45 then x - y else if c = 42 then x * y else if c = 47 then x / y else if c = 37 then x - x / y * y else if c = 60 then b01 (decide (x < y)) else if c = 62 then b01 (decide (y < x)) else b01 (decide (x = y))
def evc (f : Nat → Int × Int32) (fa : Nat → Int32) (b : Nat) : Nat → Nat → List Int32 → Option Int32
  | 0, _, s => some (hd0 s)
  | n + 1, k, s =>
    if b ≤ k then some (hd0 s)
    else if (f k).1 = 124 ∨ (f k).1 = 38 then (if (hd0 s ≠ 0 ∧ (f k).1 = 124) ∨ (hd0 s = 0 ∧ (f k).1 = 38) then evc f fa b n (max (k + 1) (f k).2.toInt.toNat) (psh (hd0 s) s.tail) else evc f fa b n (k + 1) s.tail)
    else if (f k).1 = 35 then evc f fa b n (k + 1) (psh (f k).2 s)
    else if (f k).1 = 36 then evc f fa b n (k + 1) (psh (fa (f k).2.toInt.toNat) s)
    else if (f k).1 = 33 then evc f fa b n (k + 1) (psh (b01 (decide (hd0 s = 0))) s.tail)
    else if hd0 s = 0 ∧ ((f k).1 = 47 ∨ (f k).1 = 37) then none
    else evc f fa b n (k + 1) (psh (jnv (f k).1 (hd0 s.tail) (hd0 s)) s.tail.tail)
theorem evc_irr {f : Nat → Int × Int32} {fa : Nat → Int32} {b : Nat} : ∀ (n m k : Nat) (s : List Int32), b - k ≤ n → b - k ≤ m → evc f fa b n k s = evc f fa b m k s
  | 0, 0, _, _, _, _ => rfl
  | 0, m + 1, k, s, h, _ => by
    simp only [evc]
    rw [if_pos (by omega)]
  | n + 1, 0, k, s, _, h => by
    simp only [evc]
    rw [if_pos (by omega)]
  | n + 1, m + 1, k, s, h1, h2 => by
    by_cases hb : b ≤ k
    · simp only [evc]
      rw [if_pos hb, if_pos hb]
    · have e1 : ∀ u, evc f fa b n (k + 1) u = evc f fa b m (k + 1) u := fun u => evc_irr n m (k + 1) u (by omega) (by omega)
      have e2 : ∀ o u, evc f fa b n (max (k + 1) o) u = evc f fa b m (max (k + 1) o) u := fun o u => evc_irr n m _ u (by have := Nat.le_max_left (k + 1) o; omega) (by have := Nat.le_max_left (k + 1) o; omega)
      simp only [evc, e1, e2]
def ev (f : Nat → Int × Int32) (fa : Nat → Int32) (b k : Nat) (s : List Int32) : Option Int32 := evc f fa b b k s
section EV
variable {f g : Nat → Int × Int32} {fa : Nat → Int32} {a b c k : Nat} {s : List Int32} {v x y : Int32}
theorem ev_end (h : b ≤ k) : ev f fa b k s = some (hd0 s) := by
  unfold ev
  rw [evc_irr b 0 k s (by omega) (by omega)]
  rfl
theorem ev_st (h : k < b) : ev f fa b k s = if (f k).1 = 124 ∨ (f k).1 = 38 then (if (hd0 s ≠ 0 ∧ (f k).1 = 124) ∨ (hd0 s = 0 ∧ (f k).1 = 38) then ev f fa b (max (k + 1) (f k).2.toInt.toNat) (psh (hd0 s) s.tail) else ev f fa b (k + 1) s.tail)
    else if (f k).1 = 35 then ev f fa b (k + 1) (psh (f k).2 s)
    else if (f k).1 = 36 then ev f fa b (k + 1) (psh (fa (f k).2.toInt.toNat) s)
    else if (f k).1 = 33 then ev f fa b (k + 1) (psh (b01 (decide (hd0 s = 0))) s.tail)
    else if hd0 s = 0 ∧ ((f k).1 = 47 ∨ (f k).1 = 37) then none
    else ev f fa b (k + 1) (psh (jnv (f k).1 (hd0 s.tail) (hd0 s)) s.tail.tail) := by
  have e1 : ∀ u, ev f fa b (k + 1) u = evc f fa b (b - 1) (k + 1) u := fun u => evc_irr b (b - 1) (k + 1) u (by omega) (by omega)
  have e2 : ∀ o u, ev f fa b (max (k + 1) o) u = evc f fa b (b - 1) (max (k + 1) o) u := fun o u => evc_irr b (b - 1) _ u (by omega) (by have := Nat.le_max_left (k + 1) o; omega)
  simp only [e1, e2]
  have e3 : ev f fa b k s = evc f fa b (b - 1 + 1) k s := evc_irr b (b - 1 + 1) k s (by omega) (by omega)
  rw [e3]
  simp only [evc]
  rw [if_neg (by omega)]
theorem ev_num (h : k < b) (h1 : (f k).1 = 35) : ev f fa b k s = ev f fa b (k + 1) (psh (f k).2 s) := by rw [ev_st h, if_neg (by omega), if_pos h1]
theorem ev_nam (h : k < b) (h1 : (f k).1 = 36) : ev f fa b k s = ev f fa b (k + 1) (psh (fa (f k).2.toInt.toNat) s) := by rw [ev_st h, if_neg (by omega), if_neg (by omega), if_pos h1]
theorem ev_not (h : k < b) (h1 : (f k).1 = 33) : ev f fa b k s = ev f fa b (k + 1) (psh (b01 (decide (hd0 s = 0))) s.tail) := by rw [ev_st h, if_neg (by omega), if_neg (by omega), if_neg (by omega), if_pos h1]
def isO (c : Int) : Prop := c = 43 ∨ c = 45 ∨ c = 42 ∨ c = 47 ∨ c = 37 ∨ c = 60 ∨ c = 62 ∨ c = 61
theorem ev_op (h : k < b) (h1 : isO (f k).1) : ev f fa b k (y :: x :: s) = if y = 0 ∧ ((f k).1 = 47 ∨ (f k).1 = 37) then none else ev f fa b (k + 1) (psh (jnv (f k).1 x y) s) := by
  unfold isO at h1
  rw [ev_st h, if_neg (by omega), if_neg (by omega), if_neg (by omega), if_neg (by omega)]
  rfl
theorem ev_leap (h : k < b) (h1 : (v ≠ 0 ∧ (f k).1 = 124) ∨ (v = 0 ∧ (f k).1 = 38)) (h2 : (f k).2.toInt = c) (h3 : k < c) (h4 : s.length < 32) : ev f fa b k (v :: s) = ev f fa b c (v :: s) := by
  rw [ev_st h, if_pos (by omega)]
  show (if (v ≠ 0 ∧ (f k).1 = 124) ∨ (v = 0 ∧ (f k).1 = 38) then ev f fa b (max (k + 1) (f k).2.toInt.toNat) (psh v s) else _) = _
  rw [if_pos h1, psh_ok h4, h2, show max (k + 1) ((c : Int).toNat) = c by omega]
theorem ev_stay (h : k < b) (h1 : (v = 0 ∧ (f k).1 = 124) ∨ (v ≠ 0 ∧ (f k).1 = 38)) : ev f fa b k (v :: s) = ev f fa b (k + 1) s := by
  rw [ev_st h, if_pos (by omega)]
  show (if (v ≠ 0 ∧ (f k).1 = 124) ∨ (v = 0 ∧ (f k).1 = 38) then _ else ev f fa b (k + 1) s) = _
  rw [if_neg]
  rintro (⟨h2, h3⟩ | ⟨h2, h3⟩)
  · rcases h1 with h1 | h1
    · exact h2 h1.1
    · omega
  · rcases h1 with h1 | h1
    · omega
    · exact h1.1 h2
end EV
/-- a meaning -/
def MD : Type := (Nat → Int32) → Option Int32
def jD (c : Int) (D E : MD) : MD := fun fa => (D fa).bind fun x => (E fa).bind fun y => if y = 0 ∧ (c = 47 ∨ c = 37) then none else some (jnv c x y)
def nD (D : MD) : MD := fun fa => (D fa).bind fun x => some (b01 (decide (x = 0)))
def cD (v : Int32) : MD := fun _ => some v
def fD (i : Nat) : MD := fun fa => some (fa i)
def MNS (f : Nat → Int × Int32) (a b w : Nat) (D : MD) : Prop := a ≤ b ∧ ∀ g : Nat → Int × Int32, (∀ k, a ≤ k → k < b → g k = f k) → ∀ (fa : Nat → Int32) (s : List Int32) (c : Nat), b ≤ c → s.length + w ≤ 32 → ev g fa c a s = (D fa).bind (fun v => ev g fa c b (v :: s))
section MN
variable {f g : Nat → Int × Int32} {a b c k w u : Nat} {D E : MD} {op : Int}
theorem MNS_eq (h : ∀ k, a ≤ k → k < b → g k = f k) (m : MNS f a b w D) : MNS g a b w D := ⟨m.1, fun g2 h2 => m.2 g2 (fun k q1 q2 => (h2 k q1 q2).trans (h k q1 q2))⟩
theorem MNS_w (h : w ≤ u) (m : MNS f a b w D) : MNS f a b u D := ⟨m.1, fun g2 h2 fa s c hc hs => m.2 g2 h2 fa s c hc (by omega)⟩
theorem MNS_num (h : (f a).1 = 35) : MNS f a (a + 1) 1 (cD (f a).2) := ⟨by omega, fun g h2 fa s c hc hs => by
  have e := h2 a (Nat.le_refl _) (by omega)
  rw [ev_num (by omega) (by rw [e]; exact h), e, psh_ok (by omega)]
  rfl⟩
theorem MNS_nam {i : Nat} (h : (f a).1 = 36) (hi : (f a).2.toInt = i) : MNS f a (a + 1) 1 (fD i) := ⟨by omega, fun g h2 fa s c hc hs => by
  have e := h2 a (Nat.le_refl _) (by omega)
  rw [ev_nam (by omega) (by rw [e]; exact h), e, psh_ok (by omega), hi]
  rfl⟩
theorem MNS_op (m1 : MNS f a b w D) (m2 : MNS f b c u E) (h : (f c).1 = op) (ho : isO op) : MNS f a (c + 1) (max w (u + 1)) (jD op D E) := ⟨by have := m1.1; have := m2.1; omega, fun g h2 fa s d hd hs => by
  have b1 := m1.1
  have b2 := m2.1
  have e := h2 c (by omega) (by omega)
  rw [m1.2 g (fun k q1 q2 => h2 k q1 (by omega)) fa s d (by omega) (by omega)]
  unfold jD
  rw [ob_as]
  congr 1
  funext x
  rw [m2.2 g (fun k q1 q2 => h2 k (by omega) (by omega)) fa (x :: s) d (by omega) (by show s.length + 1 + u ≤ 32; omega)]
  rw [ob_as]
  congr 1
  funext y
  rw [ev_op (by omega) (by rw [e, h]; exact ho), e, h]
  by_cases z : y = 0 ∧ (op = 47 ∨ op = 37)
  · rw [if_pos z, if_pos z]
    rfl
  · rw [if_neg z, if_neg z, psh_ok (by omega)]
    rfl⟩
theorem MNS_not (m1 : MNS f a b w D) (h : (f b).1 = 33) (hw : 1 ≤ w) : MNS f a (b + 1) w (nD D) := ⟨by have := m1.1; omega, fun g h2 fa s d hd hs => by
  have b1 := m1.1
  have e := h2 b (by omega) (by omega)
  rw [m1.2 g (fun k q1 q2 => h2 k q1 (by omega)) fa s d (by omega) (by omega)]
  unfold nD
  rw [ob_as]
  congr 1
  funext x
  rw [ev_not (by omega) (by rw [e]; exact h)]
  show ev g fa d (b + 1) (psh (b01 (decide (x = 0))) s) = _
  rw [psh_ok (by omega)]
  rfl⟩
/-! a row whose leaps (sign c: 124 or 38) are not yet aimed: those of this row will all aim at e; D: what stands before the last leap, E: behind it -/
def AIM (f g : Nat → Int × Int32) (c : Int) (a b e : Nat) : Prop := ∀ k, a ≤ k → k < b → (g k).1 = (f k).1 ∧ (((f k).1 = c ∧ (f k).2.toInt = -1) → (g k).2.toInt = e) ∧ (¬ ((f k).1 = c ∧ (f k).2.toInt = -1) → (g k).2 = (f k).2)
def lD (c : Int) (D E : MD) : MD := fun fa => (D fa).bind fun x => if (x ≠ 0 ∧ c = 124) ∨ (x = 0 ∧ c = 38) then some x else E fa
def RWS (f : Nat → Int × Int32) (c : Int) (a b w : Nat) (D E : MD) : Prop := a ≤ b ∧ ∀ (e : Nat) (g : Nat → Int × Int32), b ≤ e → AIM f g c a b e → ∀ (fa : Nat → Int32) (s : List Int32) (d : Nat), e ≤ d → s.length + w ≤ 32 → ev g fa d a s = (D fa).bind (fun x => if (x ≠ 0 ∧ c = 124) ∨ (x = 0 ∧ c = 38) then ev g fa d e (x :: s) else (E fa).bind fun v => ev g fa d b (v :: s))
def NUN (f : Nat → Int × Int32) (a b : Nat) : Prop := ∀ k, a ≤ k → k < b → (f k).2.toInt ≠ -1
theorem AIM_un {e : Nat} (h : AIM f g op a b e) (n : NUN f a b) : ∀ k, a ≤ k → k < b → g k = f k := fun k q1 q2 => by
  obtain ⟨z1, -, z3⟩ := h k q1 q2
  exact Prod.ext z1 (z3 (fun z => n k q1 q2 z.2))
/-- the first piece of a row: nothing stands before -/
def dD (c : Int) : MD := cD (if c = 124 then 0 else 1)
theorem RWS_0 (hc : op = 124 ∨ op = 38) (m : MNS f a b w E) (n : NUN f a b) : RWS f op a b w (dD op) E := ⟨m.1, fun e g he ha fa s d hd hs => by
  have z : ¬ (((if op = 124 then (0 : Int32) else 1) ≠ 0 ∧ op = 124) ∨ ((if op = 124 then (0 : Int32) else 1) = 0 ∧ op = 38)) := by
    rcases hc with rfl | rfl <;> decide
  unfold dD cD
  rw [ob_some, if_neg z]
  exact m.2 g (AIM_un ha n) fa s d (by omega) hs⟩
theorem RWS_s {F : MD} (hc : op = 124 ∨ op = 38) (r : RWS f op a b w D E) (h1 : (f b).1 = op) (h2 : (f b).2.toInt = -1) (m : MNS f (b + 1) c w F) (n : NUN f (b + 1) c) (hw : 1 ≤ w) : RWS f op a c w (lD op D E) F := ⟨by have := r.1; have := m.1; omega, fun e g he ha fa s d hd hs => by
  have b1 := r.1
  have b2 := m.1
  rw [r.2 e g (by omega) (fun k q1 q2 => ha k q1 (by omega)) fa s d hd hs]
  unfold lD
  rw [ob_as]
  congr 1
  funext x
  obtain ⟨z1, z2, -⟩ := ha b (by omega) (by omega)
  have z2 := z2 ⟨h1, h2⟩
  by_cases y : (x ≠ 0 ∧ op = 124) ∨ (x = 0 ∧ op = 38)
  · rw [if_pos y, if_pos y, ob_some, if_pos y]
  · rw [if_neg y, if_neg y]
    congr 1
    funext v
    by_cases yv : (v ≠ 0 ∧ op = 124) ∨ (v = 0 ∧ op = 38)
    · rw [if_pos yv, ev_leap (c := e) (by omega) (by rw [z1, h1]; exact yv) z2 (by omega) (by omega)]
    · rw [if_neg yv, ev_stay (by omega) (by
        rw [z1, h1]
        rcases hc with hc | hc
        · refine Or.inl ⟨?_, hc⟩
          by_cases q : v = 0
          · exact q
          · exact absurd (Or.inl ⟨q, hc⟩) yv
        · refine Or.inr ⟨fun q => yv (Or.inr ⟨q, hc⟩), hc⟩)]
      exact m.2 g (AIM_un (fun k q1 q2 => ha k (by omega) q2) n) fa s d (by omega) hs⟩
/-- all leaps of the row are aimed at its end -/
theorem RWS_e (r : RWS f op a b w D E) (ha : AIM f g op a b b) : MNS g a b w (lD op D E) := ⟨r.1, fun g2 h2 fa s d hd hs => by
  have q := r.2 b g2 (Nat.le_refl _) (fun k q1 q2 => by rw [h2 k q1 q2]; exact ha k q1 q2) fa s d hd hs
  rw [q]
  unfold lD
  rw [ob_as]
  congr 1
  funext x
  by_cases y : (x ≠ 0 ∧ op = 124) ∨ (x = 0 ∧ op = 38)
  · rw [if_pos y, if_pos y, ob_some]
  · rw [if_neg y, if_neg y]⟩
end MN
/-! what a TEXT means -/
def glp {σ : Type} (t : Int → Int) (c : Int → Bool) (F : Int → Int × Int) (G : Int → MD) (st : Int → σ → MD → σ) : Nat → Int → σ → σ
  | 0, _, z => z
  | n + 1, q, z => if c (t q) = true then (if (F (q + 1)).1 = 0 then glp t c F G st n (F (q + 1)).2 (st (t q) z (G (q + 1))) else z) else z
theorem glp_irr {σ : Type} {t : Int → Int} {c : Int → Bool} {F : Int → Int × Int} {G : Int → MD} {st : Int → σ → MD → σ} {en : Int} (ht : ∀ q, en ≤ q → t q = -1) (hc : c (-1) = false) (hF : ∀ q, (F q).1 = 0 → q ≤ (F q).2) : ∀ (n m : Nat) (q : Int) (z : σ), en - q ≤ n → en - q ≤ m → glp t c F G st n q z = glp t c F G st m q z
  | 0, 0, _, _, _, _ => rfl
  | 0, m + 1, q, z, h, _ => by
    simp only [glp]
    rw [ht q (by omega), hc, if_neg (by decide)]
  | n + 1, 0, q, z, _, h => by
    simp only [glp]
    rw [ht q (by omega), hc, if_neg (by decide)]
  | n + 1, m + 1, q, z, h1, h2 => by
    simp only [glp]
    by_cases y : c (t q) = true
    · rw [if_pos y, if_pos y]
      by_cases w : (F (q + 1)).1 = 0
      · rw [if_pos w, if_pos w]
        have := hF (q + 1) w
        exact glp_irr ht hc hF n m _ _ (by omega) (by omega)
      · rw [if_neg w, if_neg w]
    · rw [if_neg y, if_neg y]
def GLP {σ : Type} (t : Int → Int) (c : Int → Bool) (F : Int → Int × Int) (G : Int → MD) (st : Int → σ → MD → σ) (q : Int) (z : σ) : σ := glp t c F G st 200 q z
section GP
variable {σ : Type} {t : Int → Int} {c : Int → Bool} {F : Int → Int × Int} {G : Int → MD} {st : Int → σ → MD → σ} {en q r : Int} {z : σ}
theorem GLP_no (h : c (t q) = false) : GLP t c F G st q z = z := by
  show (if c (t q) = true then _ else z) = z
  rw [h, if_neg (by decide)]
theorem GLP_yes (ht : TXT t en) (hc : c (-1) = false) (hF : ∀ q, (F q).1 = 0 → q ≤ (F q).2) (hq : 0 ≤ q) (h : c (t q) = true) (hr : F (q + 1) = (0, r)) : GLP t c F G st q z = GLP t c F G st r (st (t q) z (G (q + 1))) := by
  show (if c (t q) = true then (if (F (q + 1)).1 = 0 then glp t c F G st 199 (F (q + 1)).2 (st (t q) z (G (q + 1))) else z) else z) = glp t c F G st 200 r (st (t q) z (G (q + 1)))
  have h2 := hF (q + 1) (by rw [hr])
  have h3 := ht.1
  rw [hr] at h2
  rw [if_pos h, hr, if_pos rfl]
  exact glp_irr ht.2 hc hF 199 200 _ _ (by omega) (by omega)
end GP
def ndv (t : Int → Int) : Nat → Int → Int → Int
  | 0, _, v => v
  | k + 1, q, v => if dig (t q) = true then ndv t k (q + 1) (10 * v + t q - 48) else v
def atD (t : Int → Int) (p : Int) : MD := if dig (t p) = true then cD (Int32.ofInt (ndv t 5 p 0)) else fD (nix (t p)).toNat
/-- sums: what stands before the last term, the last term -/
def stS (x : Int) (z : (MD → MD) × MD) (F : MD) : (MD → MD) × MD := if isT x = true then (z.1, jD x z.2 F) else (fun y => jD x (z.1 z.2) y, F)
def LSD (t : Int → Int) (F : Int → Int × Int) (G : Int → MD) (q : Int) (z : (MD → MD) × MD) : MD := (GLP t isS F G stS q z).1 (GLP t isS F G stS q z).2
def FAD (t : Int → Int) : Nat → Int → MD
  | 0, p => atD t p
  | e + 1, p => if t p = 91 then LSD t (FA t e) (FAD t e) (FA t e (p + 1)).2 (fun y => y, FAD t e (p + 1)) else atD t p
def SUD (t : Int → Int) (e : Nat) (p : Int) : MD := LSD t (FA t e) (FAD t e) (FA t e p).2 (fun y => y, FAD t e p)
def CMD (t : Int → Int) (e : Nat) (p : Int) : MD := jD (t (SU t e p).2) (SUD t e p) (SUD t e ((SU t e p).2 + 1))
/-- conditions: the parts before, the pieces before in this part, the last piece -/
def stB (x : Int) (z : MD × MD × MD) (P : MD) : MD × MD × MD := if x = 38 then (z.1, lD 38 z.2.1 z.2.2, P) else (lD 124 z.1 (lD 38 z.2.1 z.2.2), dD 38, P)
def fnB (z : MD × MD × MD) : MD := lD 124 z.1 (lD 38 z.2.1 z.2.2)
def PID (t : Int → Int) : Nat → Int → MD
  | 0, p => CMD t 0 p
  | e + 1, p => if t p = 33 then nD (PID t e (p + 1)) else if t p = 40 then fnB (GLP t isB (PI t e) (PID t e) stB (PI t e (p + 1)).2 (dD 124, dD 38, PID t e (p + 1))) else CMD t (e + 1) p
def LBD (t : Int → Int) (e : Nat) (q : Int) (z : MD × MD × MD) : MD := fnB (GLP t isB (PI t e) (PID t e) stB q z)
def CND_ (t : Int → Int) (e : Nat) (p : Int) : MD := LBD t e (PI t e p).2 (dD 124, dD 38, PID t e p)
section DN
variable {t : Int → Int} {e : Nat} {en p q r a : Int}
theorem FAD_at (h : t p ≠ 91) : FAD t e p = atD t p := by
  cases e with
  | zero => rfl
  | succ e => simp only [FAD]; rw [if_neg h]
theorem FAD_opn (h : t p = 91) : FAD t (e + 1) p = SUD t e (p + 1) := by simp only [FAD]; rw [if_pos h]; rfl
theorem LSD_no {z : (MD → MD) × MD} (h : isS (t q) = false) : LSD t (FA t e) (FAD t e) q z = z.1 z.2 := by unfold LSD; rw [GLP_no h]
theorem LSD_t {z : (MD → MD) × MD} (ht : TXT t en) (hq : 0 ≤ q) (h : isT (t q) = true) (hr : FA t e (q + 1) = (0, r)) : LSD t (FA t e) (FAD t e) q z = LSD t (FA t e) (FAD t e) r (z.1, jD (t q) z.2 (FAD t e (q + 1))) := by
  unfold LSD
  rw [GLP_yes ht (by decide) (FA_l e) hq (isT_S h) hr]
  unfold stS
  rw [if_pos h]
theorem LSD_s {z : (MD → MD) × MD} (ht : TXT t en) (hq : 0 ≤ q) (h : isS (t q) = true) (h2 : isT (t q) = false) (hr : FA t e (q + 1) = (0, r)) : LSD t (FA t e) (FAD t e) q z = LSD t (FA t e) (FAD t e) r (fun y => jD (t q) (z.1 z.2) y, FAD t e (q + 1)) := by
  unfold LSD
  rw [GLP_yes ht (by decide) (FA_l e) hq h hr]
  unfold stS
  rw [h2, if_neg (by decide)]
theorem CMD_ok (h : SU t e p = (0, q)) : CMD t e p = jD (t q) (SUD t e p) (SUD t e (q + 1)) := by unfold CMD; rw [h]
theorem PID_cm (h1 : t p ≠ 33) (h2 : t p ≠ 40) : PID t e p = CMD t e p := by
  cases e with
  | zero => rfl
  | succ e => simp only [PID]; rw [if_neg h1, if_neg h2]
theorem PID_not (h : t p = 33) : PID t (e + 1) p = nD (PID t e (p + 1)) := by simp only [PID]; rw [if_pos h]
theorem PID_opn (h : t p = 40) : PID t (e + 1) p = CND_ t e (p + 1) := by simp only [PID]; rw [if_neg (by rw [h]; decide), if_pos h]; rfl
theorem LBD_no {z : MD × MD × MD} (h : isB (t q) = false) : LBD t e q z = fnB z := by unfold LBD; rw [GLP_no h]
theorem LBD_a {z : MD × MD × MD} (ht : TXT t en) (hq : 0 ≤ q) (h : t q = 38) (hr : PI t e (q + 1) = (0, r)) : LBD t e q z = LBD t e r (z.1, lD 38 z.2.1 z.2.2, PID t e (q + 1)) := by
  unfold LBD
  rw [GLP_yes ht (by decide) (PI_l e) hq (isB_y (Or.inl h)) hr]
  unfold stB
  rw [if_pos h]
theorem LBD_o {z : MD × MD × MD} (ht : TXT t en) (hq : 0 ≤ q) (h : t q = 124) (hr : PI t e (q + 1) = (0, r)) : LBD t e q z = LBD t e r (lD 124 z.1 (lD 38 z.2.1 z.2.2), dD 38, PID t e (q + 1)) := by
  unfold LBD
  rw [GLP_yes ht (by decide) (PI_l e) hq (isB_y (Or.inr h)) hr]
  unfold stB
  rw [if_neg (by rw [h]; decide)]
end DN
/-! what a row of codes of the reference comes to -/
def opc (x : Int) : Int := if x = 2 then 43 else if x = 3 then 45 else if x = 4 then 42 else if x = 5 then 47 else if x = 6 then 37 else if x = 7 then 60 else if x = 8 then 62 else 61
def erc (f : Nat → Int32) (fa : Nat → Int32) (b : Nat) : Nat → Nat → List Int32 → Option (List Int32)
  | 0, _, s => some s
  | n + 1, k, s =>
    if b ≤ k then some s
    else if opv (f k) = 11 ∨ opv (f k) = 12 then (if hd0 s = (if opv (f k) = 12 then 1 else 0) then erc f fa b n (max (k + 1) (agv (f k)).toNat) s else erc f fa b n (k + 1) s.tail)
    else if opv (f k) = 0 then erc f fa b n (k + 1) (Int32.ofInt (agv (f k)) :: s)
    else if opv (f k) = 1 then erc f fa b n (k + 1) (fa (agv (f k)).toNat :: s)
    else if opv (f k) = 10 then erc f fa b n (k + 1) ((1 - hd0 s) :: s.tail)
    else if hd0 s = 0 ∧ (opv (f k) = 5 ∨ opv (f k) = 6) then none
    else erc f fa b n (k + 1) (jnv (opc (opv (f k))) (hd0 s.tail) (hd0 s) :: s.tail.tail)
theorem erc_irr {f : Nat → Int32} {fa : Nat → Int32} {b : Nat} : ∀ (n m k : Nat) (s : List Int32), b - k ≤ n → b - k ≤ m → erc f fa b n k s = erc f fa b m k s
  | 0, 0, _, _, _, _ => rfl
  | 0, m + 1, k, s, h, _ => by
    simp only [erc]
    rw [if_pos (by omega)]
  | n + 1, 0, k, s, _, h => by
    simp only [erc]
    rw [if_pos (by omega)]
  | n + 1, m + 1, k, s, h1, h2 => by
    by_cases hb : b ≤ k
    · simp only [erc]
      rw [if_pos hb, if_pos hb]
    · have e1 : ∀ u, erc f fa b n (k + 1) u = erc f fa b m (k + 1) u := fun u => erc_irr n m (k + 1) u (by omega) (by omega)
      have e2 : ∀ o u, erc f fa b n (max (k + 1) o) u = erc f fa b m (max (k + 1) o) u := fun o u => erc_irr n m _ u (by have := Nat.le_max_left (k + 1) o; omega) (by have := Nat.le_max_left (k + 1) o; omega)
      simp only [erc, e1, e2]
def er (f : Nat → Int32) (fa : Nat → Int32) (b k : Nat) (s : List Int32) : Option (List Int32) := erc f fa b b k s
section ER
variable {f g : Nat → Int32} {fa : Nat → Int32} {a b c k : Nat} {s : List Int32} {v x y : Int32}
theorem er_end (h : b ≤ k) : er f fa b k s = some s := by
  unfold er
  rw [erc_irr b 0 k s (by omega) (by omega)]
  rfl
theorem er_st (h : k < b) : er f fa b k s = if opv (f k) = 11 ∨ opv (f k) = 12 then (if hd0 s = (if opv (f k) = 12 then 1 else 0) then er f fa b (max (k + 1) (agv (f k)).toNat) s else er f fa b (k + 1) s.tail)
    else if opv (f k) = 0 then er f fa b (k + 1) (Int32.ofInt (agv (f k)) :: s)
    else if opv (f k) = 1 then er f fa b (k + 1) (fa (agv (f k)).toNat :: s)
    else if opv (f k) = 10 then er f fa b (k + 1) ((1 - hd0 s) :: s.tail)
    else if hd0 s = 0 ∧ (opv (f k) = 5 ∨ opv (f k) = 6) then none
    else er f fa b (k + 1) (jnv (opc (opv (f k))) (hd0 s.tail) (hd0 s) :: s.tail.tail) := by
  have e1 : ∀ u, er f fa b (k + 1) u = erc f fa b (b - 1) (k + 1) u := fun u => erc_irr b (b - 1) (k + 1) u (by omega) (by omega)
  have e2 : ∀ o u, er f fa b (max (k + 1) o) u = erc f fa b (b - 1) (max (k + 1) o) u := fun o u => erc_irr b (b - 1) _ u (by omega) (by have := Nat.le_max_left (k + 1) o; omega)
  simp only [e1, e2]
  have e3 : er f fa b k s = erc f fa b (b - 1 + 1) k s := erc_irr b (b - 1 + 1) k s (by omega) (by omega)
  rw [e3]
  simp only [erc]
  rw [if_neg (by omega)]
theorem er_num (h : k < b) (h1 : opv (f k) = 0) : er f fa b k s = er f fa b (k + 1) (Int32.ofInt (agv (f k)) :: s) := by rw [er_st h, if_neg (by omega), if_pos h1]
theorem er_nam (h : k < b) (h1 : opv (f k) = 1) : er f fa b k s = er f fa b (k + 1) (fa (agv (f k)).toNat :: s) := by rw [er_st h, if_neg (by omega), if_neg (by omega), if_pos h1]
theorem er_not (h : k < b) (h1 : opv (f k) = 10) : er f fa b k (v :: s) = er f fa b (k + 1) ((1 - v) :: s) := by
  rw [er_st h, if_neg (by omega), if_neg (by omega), if_neg (by omega), if_pos h1]
  rfl
theorem er_op (h : k < b) (h1 : 2 ≤ opv (f k)) (h2 : opv (f k) ≤ 9) : er f fa b k (y :: x :: s) = if y = 0 ∧ (opv (f k) = 5 ∨ opv (f k) = 6) then none else er f fa b (k + 1) (jnv (opc (opv (f k))) x y :: s) := by
  rw [er_st h, if_neg (by omega), if_neg (by omega), if_neg (by omega), if_neg (by omega)]
  rfl
theorem er_leap {o : Int} (h : k < b) (ho : o = 11 ∨ o = 12) (h1 : opv (f k) = o) (hv : v = if o = 12 then 1 else 0) (h2 : agv (f k) = c) (h3 : k < c) : er f fa b k (v :: s) = er f fa b c (v :: s) := by
  rw [er_st h, if_pos (by omega), h1]
  show (if v = (if o = 12 then 1 else 0) then er f fa b (max (k + 1) (agv (f k)).toNat) (v :: s) else _) = _
  rw [if_pos hv, h2, show max (k + 1) ((c : Int).toNat) = c by omega]
theorem er_stay {o : Int} (h : k < b) (ho : o = 11 ∨ o = 12) (h1 : opv (f k) = o) (hv : v ≠ if o = 12 then 1 else 0) : er f fa b k (v :: s) = er f fa b (k + 1) s := by
  rw [er_st h, if_pos (by omega), h1]
  show (if v = (if o = 12 then 1 else 0) then _ else er f fa b (k + 1) s) = _
  rw [if_neg hv]
end ER
def MNR (f : Nat → Int32) (a b : Nat) (D : MD) : Prop := a ≤ b ∧ ∀ g : Nat → Int32, (∀ k, a ≤ k → k < b → g k = f k) → ∀ (fa : Nat → Int32) (s : List Int32) (c : Nat), b ≤ c → er g fa c a s = (D fa).bind (fun v => er g fa c b (v :: s))
/-- 0 or 1 -/
def B1 (D : MD) : Prop := ∀ fa v, D fa = some v → v = 0 ∨ v = 1
theorem b01_B (p : Bool) : b01 p = 0 ∨ b01 p = 1 := by
  cases p
  · exact Or.inl rfl
  · exact Or.inr rfl
theorem ob_in {β : Type} {x : Option Int32} {k l : Int32 → Option β} (h : ∀ v, x = some v → k v = l v) : x.bind k = x.bind l := by
  cases x with
  | none => rfl
  | some v => exact h v rfl
section MR
variable {f g : Nat → Int32} {a b c k : Nat} {D E F : MD} {op : Int}
theorem MNR_eq (h : ∀ k, a ≤ k → k < b → g k = f k) (m : MNR f a b D) : MNR g a b D := ⟨m.1, fun g2 h2 => m.2 g2 (fun k q1 q2 => (h2 k q1 q2).trans (h k q1 q2))⟩
theorem MNR_num (h : opv (f a) = 0) : MNR f a (a + 1) (cD (Int32.ofInt (agv (f a)))) := ⟨by omega, fun g h2 fa s c hc => by
  have e := h2 a (Nat.le_refl _) (by omega)
  rw [er_num (by omega) (by rw [e]; exact h), e]
  rfl⟩
theorem MNR_nam {i : Nat} (h : opv (f a) = 1) (hi : agv (f a) = i) : MNR f a (a + 1) (fD i) := ⟨by omega, fun g h2 fa s c hc => by
  have e := h2 a (Nat.le_refl _) (by omega)
  rw [er_nam (by omega) (by rw [e]; exact h), e, hi]
  rfl⟩
theorem opc_d {o : Int} (h1 : 2 ≤ o) (h2 : o ≤ 9) : (opc o = 47 ∨ opc o = 37) ↔ (o = 5 ∨ o = 6) := by
  unfold opc
  omega
theorem MNR_op {o : Int} (m1 : MNR f a b D) (m2 : MNR f b c E) (h : opv (f c) = o) (h3 : 2 ≤ o) (h4 : o ≤ 9) : MNR f a (c + 1) (jD (opc o) D E) := ⟨by have := m1.1; have := m2.1; omega, fun g h2 fa s d hd => by
  have b1 := m1.1
  have b2 := m2.1
  have e := h2 c (by omega) (by omega)
  rw [m1.2 g (fun k q1 q2 => h2 k q1 (by omega)) fa s d (by omega)]
  unfold jD
  rw [ob_as]
  congr 1
  funext x
  rw [m2.2 g (fun k q1 q2 => h2 k (by omega) (by omega)) fa (x :: s) d (by omega)]
  rw [ob_as]
  congr 1
  funext y
  rw [er_op (by omega) (by rw [e, h]; exact h3) (by rw [e, h]; exact h4), e, h]
  by_cases z : y = 0 ∧ (o = 5 ∨ o = 6)
  · rw [if_pos z, if_pos ⟨z.1, (opc_d h3 h4).mpr z.2⟩]
    rfl
  · rw [if_neg z, if_neg (fun q => z ⟨q.1, (opc_d h3 h4).mp q.2⟩)]
    rfl⟩
theorem MNR_not (m1 : MNR f a b D) (hB : B1 D) (h : opv (f b) = 10) : MNR f a (b + 1) (nD D) := ⟨by have := m1.1; omega, fun g h2 fa s d hd => by
  have b1 := m1.1
  have e := h2 b (by omega) (by omega)
  rw [m1.2 g (fun k q1 q2 => h2 k q1 (by omega)) fa s d (by omega)]
  unfold nD
  rw [ob_as]
  refine ob_in (fun x hx => ?_)
  rw [er_not (by omega) (by rw [e]; exact h), ob_some]
  congr 1
  congr 1
  rcases hB fa x hx with rfl | rfl <;> decide⟩
theorem B1_n : B1 (nD D) := by
  intro fa v h
  unfold nD at h
  cases z : D fa with
  | none => rw [z] at h; cases h
  | some x => rw [z, ob_some] at h; cases h; exact b01_B _
theorem B1_l (h1 : B1 D) (h2 : B1 E) : B1 (lD op D E) := by
  intro fa v h
  unfold lD at h
  cases z : D fa with
  | none => rw [z] at h; cases h
  | some x =>
    rw [z, ob_some] at h
    by_cases y : (x ≠ 0 ∧ op = 124) ∨ (x = 0 ∧ op = 38)
    · rw [if_pos y] at h; exact h1 fa v (z.trans h)
    · rw [if_neg y] at h; exact h2 fa v h
theorem B1_d : B1 (dD op) := by
  intro fa v h
  unfold dD cD at h
  cases h
  by_cases z : op = 124
  · rw [if_pos z]; exact Or.inl rfl
  · rw [if_neg z]; exact Or.inr rfl
/-- one open bracket of a condition: D the parts before (at the leap jx, if some waits), E the pieces before (at jy) -/
def LVL (f : Nat → Int32) (a b jx jy : Nat) (D E : MD) : Prop := (a ≤ b ∧ (jx < b → a ≤ jx) ∧ (jy < b → a ≤ jy ∧ jy ≠ jx)) ∧ ∀ (g : Nat → Int32) (tx ty : Nat), (∀ k, a ≤ k → k < b → k ≠ jx → k ≠ jy → g k = f k) → (jx < b → opv (g jx) = 12 ∧ agv (g jx) = tx) → (jy < b → opv (g jy) = 11 ∧ agv (g jy) = ty) → b ≤ tx → b ≤ ty → ∀ (fa : Nat → Int32) (s : List Int32) (c : Nat), tx ≤ c → ty ≤ c → er g fa c a s = (D fa).bind (fun x => if x ≠ 0 then er g fa c tx (x :: s) else (E fa).bind fun y => if y = 0 then er g fa c ty (y :: s) else er g fa c b s)
theorem LVL_0 (h : a ≤ 999) : LVL f a a 999 999 (dD 124) (dD 38) := ⟨⟨Nat.le_refl _, by omega, by omega⟩, fun g tx ty _ _ _ _ _ fa s c _ _ => rfl⟩
theorem lD_o (fa : Nat → Int32) : lD 124 D E fa = (D fa).bind (fun x => if x ≠ 0 then some x else E fa) := by
  unfold lD
  congr 1
  funext x
  by_cases y : x ≠ 0
  · rw [if_pos (Or.inl ⟨y, rfl⟩), if_pos y]
  · rw [if_neg (fun q => q.elim (fun q => y q.1) (fun q => absurd q.2 (by decide))), if_neg y]
theorem lD_a (fa : Nat → Int32) : lD 38 D E fa = (D fa).bind (fun x => if x = 0 then some x else E fa) := by
  unfold lD
  congr 1
  funext x
  by_cases y : x = 0
  · rw [if_pos (Or.inr ⟨y, rfl⟩), if_pos y]
  · rw [if_neg (fun q => q.elim (fun q => absurd q.2 (by decide)) (fun q => y q.1)), if_neg y]
theorem nz_1 {v : Int32} (h : v = 0 ∨ v = 1) (h0 : v ≠ 0) : v = 1 := h.resolve_left h0
/-- an & behind the piece -/
theorem LVL_a {jx jy : Nat} (r : LVL f a b jx jy D E) (m : MNR f b c F) (h : ∀ k, a ≤ k → k < c → k ≠ jx → k ≠ jy → g k = f k) (hy : jy < b → opv (g jy) = 11 ∧ agv (g jy) = c) (bx : jx < b ∨ c < jx) (bw : jy < b ∨ c < jy) : LVL g a (c + 1) jx c D (lD 38 E F) := by
  obtain ⟨⟨b1, bx2, bw2⟩, r⟩ := r
  have b2 := m.1
  refine ⟨⟨by omega, fun q => bx2 (by omega), fun _ => ⟨by omega, by omega⟩⟩, fun g2 tx ty k1 k2 k3 k4 k5 fa s d hd1 hd2 => ?_⟩
  have k3 := k3 (by omega)
  rw [r g2 tx c (fun k q1 q2 q3 q4 => (k1 k q1 (by omega) q3 (by omega)).trans (h k q1 (by omega) q3 q4)) (fun q => k2 (by omega)) (fun q => by
    have w := bw2 q
    rw [k1 jy w.1 (by omega) w.2 (by omega)]
    exact hy q) (by omega) (by omega) fa s d hd1 (by omega)]
  congr 1
  funext x
  by_cases zx : x ≠ 0
  · rw [if_pos zx, if_pos zx]
  · rw [if_neg zx, if_neg zx, lD_a, ob_as]
    congr 1
    funext y
    by_cases zy : y = 0
    · rw [if_pos zy, if_pos zy, ob_some, if_pos zy, er_leap (o := 11) (by omega) (Or.inl rfl) k3.1 (by rw [zy]; rfl) k3.2 (by omega)]
    · rw [if_neg zy, if_neg zy, m.2 g2 (fun k q1 q2 => (k1 k (by omega) (by omega) (by omega) (by omega)).trans (h k (by omega) q2 (by omega) (by omega))) fa s d (by omega)]
      congr 1
      funext v
      by_cases zv : v = 0
      · rw [if_pos zv, er_leap (o := 11) (by omega) (Or.inl rfl) k3.1 (by rw [zv]; rfl) k3.2 (by omega)]
      · rw [if_neg zv, er_stay (o := 11) (by omega) (Or.inl rfl) k3.1 (fun q => zv q)]
/-- where all that waits in a bracket lands: from its start on -/
theorem LVL_l {jx jy : Nat} (r : LVL f a b jx jy D E) (m : MNR f b c F) (h : ∀ k, a ≤ k → k < c → k ≠ jx → k ≠ jy → g k = f k) (hx : jx < b → opv (g jx) = 12 ∧ agv (g jx) = c) (hy : jy < b → opv (g jy) = 11 ∧ agv (g jy) = c) (bx : jx < b ∨ c < jx) (bw : jy < b ∨ c < jy) : MNR g a c (lD 124 D (lD 38 E F)) := by
  obtain ⟨⟨b1, bx2, bw2⟩, r⟩ := r
  have b2 := m.1
  refine ⟨by omega, fun g2 k1 fa s d hd => ?_⟩
  rw [r g2 c c (fun k q1 q2 q3 q4 => (k1 k q1 (by omega)).trans (h k q1 (by omega) q3 q4)) (fun q => by rw [k1 jx (bx2 q) (by omega)]; exact hx q) (fun q => by rw [k1 jy (bw2 q).1 (by omega)]; exact hy q) (by omega) (by omega) fa s d hd hd, lD_o, ob_as]
  congr 1
  funext x
  by_cases zx : x ≠ 0
  · rw [if_pos zx, if_pos zx, ob_some]
  · rw [if_neg zx, if_neg zx, lD_a, ob_as]
    congr 1
    funext y
    by_cases zy : y = 0
    · rw [if_pos zy, if_pos zy, ob_some]
    · rw [if_neg zy, if_neg zy]
      exact m.2 g2 (fun k q1 q2 => (k1 k (by omega) (by omega)).trans (h k (by omega) q2 (by omega) (by omega))) fa s d hd
/-- an | behind what has landed -/
theorem LVL_o (m : MNR f a c D) (hB : B1 D) (h9 : c < 999) : LVL f a (c + 1) c 999 D (dD 38) := by
  have b2 := m.1
  refine ⟨⟨by omega, fun _ => b2, by omega⟩, fun g2 tx ty k1 k2 k3 k4 k5 fa s d hd1 hd2 => ?_⟩
  have k2 := k2 (by omega)
  rw [m.2 g2 (fun k q1 q2 => k1 k q1 (by omega) (by omega) (by omega)) fa s d (by omega)]
  refine ob_in (fun x hx => ?_)
  by_cases zx : x ≠ 0
  · rw [if_pos zx, er_leap (o := 12) (by omega) (Or.inr rfl) k2.1 (by rw [nz_1 (hB fa x hx) zx]; rfl) k2.2 (by omega)]
  · rw [if_neg zx, er_stay (o := 12) (by omega) (Or.inr rfl) k2.1 (fun q => zx (by rw [q]; decide))]
    rfl
theorem LVL_eq {jx jy : Nat} (h : ∀ k, a ≤ k → k < b → k ≠ jx → k ≠ jy → g k = f k) (r : LVL f a b jx jy D E) : LVL g a b jx jy D E := ⟨r.1, fun g2 tx ty k1 => r.2 g2 tx ty (fun k q1 q2 q3 q4 => (k1 k q1 q2 q3 q4).trans (h k q1 q2 q3 q4))⟩
end MR
/-! the class's codes in memory, what its reader adds to them -/
def cdC (m : Nat → Nat → Int32) (lb k : Nat) : Int × Int32 := ((m (lb + 1) k).toInt, m (lb + 2) k)
def lnC (m : Nat → Nat → Int32) (lb : Nat) : Nat := (m lb 2).toInt.toNat
/-- omega looks at no meaning behind this -/
def IFZ (v : Int) (P : Prop) : Prop := v ≠ 0 → P
theorem IFZ.no {v : Int} {P : Prop} (h : v = 0) : IFZ v P := fun q => absurd h q
theorem IFZ.is {v : Int} {P : Prop} (h : P) : IFZ v P := fun _ => h
theorem IFZ.get {v : Int} {P : Prop} (h : IFZ v P) (q : v ≠ 0) : P := h q
def SAML (lb : Nat) (m m' : Nat → Nat → Int32) : Prop := m' lb 2 = m lb 2 ∧ (∀ j, m' (lb + 1) j = m (lb + 1) j) ∧ ∀ j, m' (lb + 2) j = m (lb + 2) j
def wz86 (c i : Nat) : Bool := c == 86 && (i == 3 || i == 4)
def wY (a c i : Nat) : Bool := (c == a && i == 2) || c == a + 1 || c == a + 2
def wZ (a c i : Nat) : Bool := (c == 86 && (i == 3 || i == 4)) || (c == a && i == 2) || c == a + 1 || c == a + 2
theorem wY_2 {a : Nat} : wY a a 2 = true := by unfold wY; simp
theorem wY_s {a i : Nat} : wY a (a + 1) i = true := by unfold wY; simp
theorem wY_o {a i : Nat} : wY a (a + 2) i = true := by unfold wY; simp
theorem wZ_wY {a : Nat} : ∀ c i, wZ a c i = false → wY a c i = false := by
  intro c i e
  cases h : wY a c i with
  | false => rfl
  | true =>
    unfold wZ at e
    unfold wY at h
    simp only [Bool.or_eq_true, Bool.or_eq_false_iff, Bool.and_eq_true] at e h
    rcases h with (h | h) | h
    · have q := e.1.1.2; rw [h.1, h.2] at q; cases q
    · have q := e.1.2; rw [h] at q; cases q
    · have q := e.2; rw [h] at q; cases q
theorem wZ_86 {a : Nat} : ∀ c i, wZ a c i = false → wz86 c i = false := by
  intro c i e
  unfold wZ at e
  simp only [Bool.or_eq_false_iff] at e
  exact e.1.1.1
theorem wY_out {a c i : Nat} (h1 : c ≠ a) (h2 : c ≠ a + 1) (h3 : c ≠ a + 2) : wY a c i = false := by
  unfold wY
  rw [beq_false_of_ne h1, beq_false_of_ne h2, beq_false_of_ne h3]
  rfl
theorem wZ_out {a c i : Nat} (h0 : c ≠ 86 ∨ (i ≠ 3 ∧ i ≠ 4)) (h1 : c ≠ a) (h2 : c ≠ a + 1) (h3 : c ≠ a + 2) : wZ a c i = false := by
  unfold wZ
  rw [beq_false_of_ne h1, beq_false_of_ne h2, beq_false_of_ne h3]
  rcases h0 with h | ⟨h, k⟩
  · rw [beq_false_of_ne h]; rfl
  · rw [beq_false_of_ne h, beq_false_of_ne k]; simp
theorem tC_fz {a : Nat} {m M : Nat → Nat → Int32} (hl : a = 77 ∨ a = 88) (h : fr (wZ a) m M) : tC M = tC m := tC_eq (h 86 2 (wZ_out (by omega) (by omega) (by omega) (by omega))) (fun j => h 87 j (wZ_out (by omega) (by omega) (by omega) (by omega)))
section SM
variable {lb : Nat} {m m1 m2 m3 : Nat → Nat → Int32} {w u : Nat} {D E F : MD} {da db dc : Int} {s : Int} {o : Int32}
theorem SAML.rf : SAML lb m m := ⟨rfl, fun _ => rfl, fun _ => rfl⟩
theorem SAML.trans (h : SAML lb m m1) (h2 : SAML lb m1 m2) : SAML lb m m2 := ⟨h2.1.trans h.1, fun j => (h2.2.1 j).trans (h.2.1 j), fun j => (h2.2.2 j).trans (h.2.2 j)⟩
theorem SAML.set {i : Nat} {v : Int32} (hl : lb = 77 ∨ lb = 88) (e : m2 = up2 m 86 i v) : SAML lb m m2 := ⟨by rw [e, up2_ne (by omega)], fun j => by rw [e, up2_ne (by omega)], fun j => by rw [e, up2_ne (by omega)]⟩
theorem SAML.fz (hl : lb = 77 ∨ lb = 88) (h : fr wz86 m m1) : SAML lb m m1 := by
  have z : ∀ c i, c ≠ 86 → wz86 c i = false := fun c i q => by
    unfold wz86
    rw [show (c == 86) = false from beq_false_of_ne q]
    rfl
  exact ⟨h _ _ (z _ _ (by omega)), fun j => h _ _ (z _ _ (by omega)), fun j => h _ _ (z _ _ (by omega))⟩
theorem SAML.cd (h : SAML lb m m1) : cdC m1 lb = cdC m lb := by
  funext k
  unfold cdC
  rw [h.2.1, h.2.2]
theorem SAML.ln (h : SAML lb m m1) : lnC m1 lb = lnC m lb := by unfold lnC; rw [h.1]
/-- one code was added -/
def EMT (lb : Nat) (m m' : Nat → Nat → Int32) (s : Int) (o : Int32) : Prop := (m' lb 2).toInt = (m lb 2).toInt + 1 ∧ cdC m' lb (lnC m lb) = (s, o) ∧ ∀ k, k ≠ lnC m lb → cdC m' lb k = cdC m lb k
/-- what was read adds codes that mean D -/
def CDS (lb : Nat) (m m' : Nat → Nat → Int32) (w : Nat) (D : MD) (da : Int) : Prop := 0 ≤ (m lb 2).toInt ∧ (m lb 2).toInt ≤ (m' lb 2).toInt ∧ (m' lb 2).toInt - (m lb 2).toInt ≤ da ∧ (∀ k, k < lnC m lb → cdC m' lb k = cdC m lb k) ∧ MNS (cdC m' lb) (lnC m lb) (lnC m' lb) w D ∧ NUN (cdC m' lb) (lnC m lb) (lnC m' lb)
theorem CDS.wk (h : CDS lb m m1 w D da) (hw : w ≤ u) (hd : da ≤ db) : CDS lb m m1 u D db := ⟨h.1, h.2.1, Int.le_trans h.2.2.1 hd, h.2.2.2.1, MNS_w hw h.2.2.2.2.1, h.2.2.2.2.2⟩
theorem CDS.pre (s : SAML lb m m1) (h : CDS lb m1 m2 w D da) (hd : da ≤ db) : CDS lb m m2 w D db := by
  unfold CDS at h ⊢
  rw [s.1, s.ln, s.cd] at h
  exact ⟨h.1, h.2.1, Int.le_trans h.2.2.1 hd, h.2.2.2⟩
theorem CDS.post (h : CDS lb m m1 w D da) (s : SAML lb m1 m2) : CDS lb m m2 w D da := by
  unfold CDS at h ⊢
  rw [s.1, s.ln, s.cd]
  exact h
theorem CDS.emit (h0 : 0 ≤ (m lb 2).toInt) (e : EMT lb m m1 s o) (hd : 1 ≤ da) (hm : MNS (cdC m1 lb) (lnC m lb) (lnC m lb + 1) w D) (ho : o.toInt ≠ -1) : CDS lb m m1 w D da := by
  obtain ⟨e1, e2, e3⟩ := e
  have el : lnC m1 lb = lnC m lb + 1 := by unfold lnC; omega
  refine ⟨h0, by omega, by omega, fun k hk => e3 k (by omega), by rw [el]; exact hm, fun k q1 q2 => ?_⟩
  rw [show k = lnC m lb by omega, e2]
  exact ho
theorem CDS.num (h0 : 0 ≤ (m lb 2).toInt) (e : EMT lb m m1 35 o) (hd : 1 ≤ da) (ho : o.toInt ≠ -1) : CDS lb m m1 1 (cD o) da := by
  have q := MNS_num (f := cdC m1 lb) (a := lnC m lb) (by rw [e.2.1])
  rw [e.2.1] at q
  exact CDS.emit h0 e hd q ho
theorem CDS.nam {i : Nat} (h0 : 0 ≤ (m lb 2).toInt) (e : EMT lb m m1 36 o) (hd : 1 ≤ da) (ho : o.toInt = i) : CDS lb m m1 1 (fD i) da :=
  CDS.emit h0 e hd (MNS_nam (f := cdC m1 lb) (a := lnC m lb) (by rw [e.2.1]) (by rw [e.2.1]; exact ho)) (by omega)
/-- one behind the other -/
theorem CDS.two (h1 : CDS lb m m1 w D da) (h2 : CDS lb m1 m2 u E db) : (∀ k, k < lnC m lb → cdC m2 lb k = cdC m lb k) ∧ MNS (cdC m2 lb) (lnC m lb) (lnC m1 lb) w D ∧ NUN (cdC m2 lb) (lnC m lb) (lnC m2 lb) := by
  obtain ⟨a0, a1, a2, a3, a4, a5⟩ := h1
  obtain ⟨b0, b1, b2, b3, b4, b5⟩ := h2
  have l1 : lnC m lb ≤ lnC m1 lb := by unfold lnC; omega
  refine ⟨fun k hk => (b3 k (by omega)).trans (a3 k hk), MNS_eq (fun k q1 q2 => b3 k q2) a4, fun k q1 q2 => ?_⟩
  by_cases z : k < lnC m1 lb
  · rw [b3 k z]; exact a5 k q1 z
  · exact b5 k (by omega) q2
theorem CDS.op (h1 : CDS lb m m1 w D da) (h2 : CDS lb m1 m2 u E db) (e : EMT lb m2 m3 s 0) (ho : isO s) (hd : da + db + 1 ≤ dc) (hw : w ≤ u + 1) : CDS lb m m3 (u + 1) (jD s D E) dc := by
  obtain ⟨t1, t2, t3⟩ := h1.two h2
  obtain ⟨e1, e2, e3⟩ := e
  have l1 := h1.2.1
  have l2 := h2.2.1
  have l3 := h1.2.2.1
  have l4 := h2.2.2.1
  have l0 := h1.1
  have el : lnC m3 lb = lnC m2 lb + 1 := by unfold lnC; omega
  have k1 : lnC m lb ≤ lnC m1 lb := by unfold lnC; omega
  have k2 : lnC m1 lb ≤ lnC m2 lb := by unfold lnC; omega
  refine ⟨l0, by omega, by omega, fun k hk => (e3 k (by omega)).trans (t1 k hk), ?_, fun k q1 q2 => ?_⟩
  · have q := MNS_op (op := s) (MNS_eq (g := cdC m3 lb) (fun k q1 q2 => e3 k (by omega)) t2) (MNS_eq (g := cdC m3 lb) (fun k q1 q2 => e3 k (by omega)) h2.2.2.2.2.1) (by rw [e2]) ho
    rw [el]
    exact MNS_w (by omega) q
  · by_cases z : k = lnC m2 lb
    · rw [z, e2]; show (0 : Int32).toInt ≠ -1; decide
    · rw [e3 k z]; exact t3 k q1 (by omega)
theorem CDS.not (h1 : CDS lb m m1 w D da) (e : EMT lb m1 m2 33 0) (hd : da + 1 ≤ db) (hw : 1 ≤ w) : CDS lb m m2 w (nD D) db := by
  obtain ⟨a0, a1, a2, a3, a4, a5⟩ := h1
  obtain ⟨e1, e2, e3⟩ := e
  have k1 : lnC m lb ≤ lnC m1 lb := by unfold lnC; omega
  have el : lnC m2 lb = lnC m1 lb + 1 := by unfold lnC; omega
  refine ⟨a0, by omega, by omega, fun k hk => (e3 k (by omega)).trans (a3 k hk), ?_, fun k q1 q2 => ?_⟩
  · rw [el]
    exact MNS_not (MNS_eq (g := cdC m2 lb) (fun k q1 q2 => e3 k (by omega)) a4) (by rw [e2]) hw
  · by_cases z : k = lnC m1 lb
    · rw [z, e2]; show (0 : Int32).toInt ≠ -1; decide
    · rw [e3 k z]; exact a5 k q1 (by omega)
/-! rows with leaps of one sign -/
def NUX (f : Nat → Int × Int32) (op : Int) (a b : Nat) : Prop := ∀ k, a ≤ k → k < b → (f k).2.toInt = -1 → (f k).1 = op
/-- ahead of a piece -/
def RWH (f : Nat → Int × Int32) (op : Int) (a c w : Nat) (D : MD) : Prop := a ≤ c ∧ ∀ (g : Nat → Int × Int32) (F : MD) (d : Nat), (∀ k, a ≤ k → k < c → g k = f k) → MNS g c d w F → NUN g c d → RWS g op a d w D F
theorem RWH_0 {f : Nat → Int × Int32} {op : Int} {a : Nat} (hc : op = 124 ∨ op = 38) : RWH f op a a w (dD op) := ⟨Nat.le_refl _, fun g F d _ hm hn => RWS_0 hc hm hn⟩
theorem RWS_eq {f g : Nat → Int × Int32} {op : Int} {a b : Nat} (h : ∀ k, a ≤ k → k < b → g k = f k) (r : RWS f op a b w D E) : RWS g op a b w D E := ⟨r.1, fun e g2 he ha fa s d hd hs => r.2 e g2 he (fun k q1 q2 => by
  have := ha k q1 q2
  rw [h k q1 q2] at this
  exact this) fa s d hd hs⟩
theorem RWH_s {f : Nat → Int × Int32} {op : Int} {a b : Nat} (hc : op = 124 ∨ op = 38) (r : RWS f op a b w D E) (h1 : (f b).1 = op) (h2 : (f b).2.toInt = -1) (hw : 1 ≤ w) : RWH f op a (b + 1) w (lD op D E) := ⟨by have := r.1; omega, fun g F d hg hm hn => by
  have eb := hg b r.1 (by omega)
  exact RWS_s hc (RWS_eq (fun k q1 q2 => hg k q1 (by omega)) r) (by rw [eb]; exact h1) (by rw [eb]; exact h2) hm hn hw⟩
/-- ahead of a piece; behind one -/
def RQ (op : Int) (lb : Nat) (m m' : Nat → Nat → Int32) (w : Nat) (D : MD) (da : Int) : Prop := 0 ≤ (m lb 2).toInt ∧ (m lb 2).toInt ≤ (m' lb 2).toInt ∧ (m' lb 2).toInt - (m lb 2).toInt ≤ da ∧ (∀ k, k < lnC m lb → cdC m' lb k = cdC m lb k) ∧ RWH (cdC m' lb) op (lnC m lb) (lnC m' lb) w D ∧ NUX (cdC m' lb) op (lnC m lb) (lnC m' lb)
def RP (op : Int) (lb : Nat) (m m' : Nat → Nat → Int32) (w : Nat) (D E : MD) (da : Int) : Prop := 0 ≤ (m lb 2).toInt ∧ (m lb 2).toInt ≤ (m' lb 2).toInt ∧ (m' lb 2).toInt - (m lb 2).toInt ≤ da ∧ (∀ k, k < lnC m lb → cdC m' lb k = cdC m lb k) ∧ RWS (cdC m' lb) op (lnC m lb) (lnC m' lb) w D E ∧ NUX (cdC m' lb) op (lnC m lb) (lnC m' lb)
theorem RQ.start {op : Int} (hc : op = 124 ∨ op = 38) (h0 : 0 ≤ (m lb 2).toInt) (hd : 0 ≤ da) : RQ op lb m m w (dD op) da := ⟨h0, Int.le_refl _, by omega, fun _ _ => rfl, RWH_0 hc, fun k q1 q2 => by omega⟩
theorem RQ.post {op : Int} (h : RQ op lb m m1 w D da) (s : SAML lb m1 m2) (hd : da ≤ db) : RQ op lb m m2 w D db := by
  unfold RQ at h ⊢
  rw [s.1, s.ln, s.cd]
  exact ⟨h.1, h.2.1, Int.le_trans h.2.2.1 hd, h.2.2.2⟩
theorem RQ.piece {op : Int} (h : RQ op lb m m1 w D da) (k : CDS lb m1 m2 w E db) (hd : da + db ≤ dc) : RP op lb m m2 w D E dc := by
  obtain ⟨a0, a1, a2, a3, a4, a5⟩ := h
  obtain ⟨b0, b1, b2, b3, b4, b5⟩ := k
  have k1 : lnC m lb ≤ lnC m1 lb := by unfold lnC; omega
  refine ⟨a0, by omega, by omega, fun k hk => (b3 k (by omega)).trans (a3 k hk), a4.2 _ _ _ (fun k q1 q2 => b3 k q2) b4 b5, fun k q1 q2 q3 => ?_⟩
  by_cases z : k < lnC m1 lb
  · rw [b3 k z] at q3 ⊢; exact a5 k q1 z q3
  · exact absurd q3 (b5 k (by omega) q2)
theorem RP.leap {op : Int} (hc : op = 124 ∨ op = 38) (h : RP op lb m m1 w D E da) (e : EMT lb m1 m2 op o) (ho : o.toInt = -1) (hd : da + 1 ≤ db) (hw : 1 ≤ w) : RQ op lb m m2 w (lD op D E) db := by
  obtain ⟨a0, a1, a2, a3, a4, a5⟩ := h
  obtain ⟨e1, e2, e3⟩ := e
  have k1 : lnC m lb ≤ lnC m1 lb := by unfold lnC; omega
  have el : lnC m2 lb = lnC m1 lb + 1 := by unfold lnC; omega
  refine ⟨a0, by omega, by omega, fun k hk => (e3 k (by omega)).trans (a3 k hk), ?_, fun k q1 q2 q3 => ?_⟩
  · rw [el]
    exact RWH_s hc (RWS_eq (fun k q1 q2 => e3 k (by omega)) a4) (by rw [e2]) (by rw [e2]; exact ho) hw
  · by_cases z : k = lnC m1 lb
    · rw [z, e2]
    · rw [e3 k z] at q3 ⊢; exact a5 k q1 (by omega) q3
/-- all leaps of the row are aimed -/
def AIMD (lb : Nat) (m m' : Nat → Nat → Int32) (op fr0 : Int) : Prop := (m' lb 2).toInt = (m lb 2).toInt ∧ (∀ k : Nat, (k : Int) < fr0 → cdC m' lb k = cdC m lb k) ∧ AIM (cdC m lb) (cdC m' lb) op fr0.toNat (lnC m lb) (lnC m lb)
theorem RP.fin {op f0 : Int} (h : RP op lb m m1 w D E da) (e : AIMD lb m1 m2 op f0) (hf : f0 = (m lb 2).toInt) : CDS lb m m2 w (lD op D E) da := by
  obtain ⟨a0, a1, a2, a3, a4, a5⟩ := h
  obtain ⟨e1, e2, e3⟩ := e
  have k1 : lnC m lb ≤ lnC m1 lb := by unfold lnC; omega
  have k2 : lnC m2 lb = lnC m1 lb := by unfold lnC; omega
  have k3 : f0.toNat = lnC m lb := by unfold lnC; omega
  rw [k3] at e3
  refine ⟨a0, by omega, by omega, fun k hk => (e2 k (by unfold lnC at hk; omega)).trans (a3 k hk), by rw [k2]; exact RWS_e a4 e3, fun k q1 q2 => ?_⟩
  obtain ⟨z1, z2, z3⟩ := e3 k q1 (by omega)
  by_cases z : (cdC m1 lb k).1 = op ∧ (cdC m1 lb k).2.toInt = -1
  · rw [z2 z]; omega
  · rw [z3 z]
    exact fun q => z ⟨a5 k q1 (by omega) q, q⟩
end SM
/-! what a TEXT means, in steps -/
section DM
variable {t : Int → Int} {e : Nat} {en p q r a : Int}
/-- behind a term all that stands before it is joined -/
theorem LSD_m {h : MD → MD} {x : MD} (h0 : isT (t q) = false) : LSD t (FA t e) (FAD t e) q (h, x) = LSD t (FA t e) (FAD t e) q (fun y => y, h x) := by
  have eg : ∀ z : (MD → MD) × MD, GLP t isS (FA t e) (FAD t e) stS q z = if isS (t q) = true then (if (FA t e (q + 1)).1 = 0 then glp t isS (FA t e) (FAD t e) stS 199 (FA t e (q + 1)).2 (stS (t q) z (FAD t e (q + 1))) else z) else z := fun z => rfl
  unfold LSD
  rw [eg (h, x), eg (fun y => y, h x)]
  by_cases z : isS (t q) = true
  · rw [if_pos z, if_pos z]
    by_cases y : (FA t e (q + 1)).1 = 0
    · rw [if_pos y, if_pos y]
      have es : ∀ F : MD, stS (t q) (h, x) F = stS (t q) (fun y => y, h x) F := fun F => by unfold stS; rw [h0, if_neg (by decide), if_neg (by decide)]
      rw [es]
    · rw [if_neg y, if_neg y]
  · rw [if_neg z, if_neg z]
end DM
/-! the reference's codes: what waits inside a sum -/
theorem bnd_1 {r : Int × Int} {k : Int → Int × Int} (h : (bnd r k).1 = 0) : r.1 = 0 := by
  by_cases z : r.1 = 0
  · exact z
  · rw [bnd_no z] at h; exact h
theorem bnd_2 {r : Int × Int} {k : Int → Int × Int} (h : (bnd r k).1 = 0) : bnd r k = k r.2 := if_pos (bnd_1 h)
theorem pr_0 {r : Int × Int} (h : r.1 = 0) : r = (0, r.2) := Prod.ext h rfl
theorem cls_1 {t : Int → Int} {x q : Int} (h : (cls t x q).1 = 0) : t q = x ∧ cls t x q = (0, q + 1) := by
  unfold cls at h ⊢
  by_cases z : t q = x
  · exact ⟨z, if_pos z⟩
  · rw [if_neg z] at h; exact absurd h (pr_ne (by decide))
def iD : MD → MD := fun y => y
/-- inside a sum that began with w0 that waited, at level e0, with code b0: w wait, n of them since; the operand that is read begins with code b; G: what the sum of its bracket is for, h: what stands before the term, x: before the factor -/
def SC (t : Int → Int) (f W : Nat → Int32) (w0 e0 b0 : Nat) : Nat → Nat → Nat → Nat → (MD → Int → MD) → (MD → MD) → (MD → MD) → Prop
  | 0, w, e, b, G, h, x => w = w0 ∧ e = e0 ∧ b = b0 ∧ G = (fun D _ => D) ∧ h = iD ∧ x = iD
  | n + 1, w, e, b, G, h, x => w = w0 + n + 1 ∧ (
      (∃ b1 B, (4 ≤ opv (W (w0 + n)) ∧ opv (W (w0 + n)) ≤ 6) ∧ SC t f W w0 e0 b0 n (w0 + n) e b1 G h iD ∧ MNR f b1 b B ∧ x = jD (opc (opv (W (w0 + n)))) B)
    ∨ (∃ b1 A, (opv (W (w0 + n)) = 2 ∨ opv (W (w0 + n)) = 3) ∧ SC t f W w0 e0 b0 n (w0 + n) e b1 G iD iD ∧ MNR f b1 b A ∧ h = jD (opc (opv (W (w0 + n)))) A ∧ x = iD)
    ∨ (∃ G1 h1 x1, opv (W (w0 + n)) = 14 ∧ SC t f W w0 e0 b0 n (w0 + n) (e + 1) b G1 h1 x1 ∧ h = iD ∧ x = iD ∧ G = fun D q => G1 (LSD t (FA t (e + 1)) (FAD t (e + 1)) (q + 1) (h1, x1 D)) (LSu t (e + 1) (q + 1)).2))
theorem SC_b {t : Int → Int} {f W : Nat → Int32} {w0 e0 b0 : Nat} : ∀ {n w e b : Nat} {G : MD → Int → MD} {h x : MD → MD}, SC t f W w0 e0 b0 n w e b G h x → b0 ≤ b ∧ w = w0 + n
  | 0, w, e, b, G, h, x, s => ⟨by rw [s.2.2.1]; exact Nat.le_refl _, s.1⟩
  | n + 1, w, e, b, G, h, x, s => by
    obtain ⟨s0, s⟩ := s
    refine ⟨?_, by omega⟩
    rcases s with ⟨b1, B, -, s, m, -⟩ | ⟨b1, A, -, s, m, -⟩ | ⟨G1, h1, x1, -, s, -⟩
    · have := (SC_b s).1; have := m.1; omega
    · have := (SC_b s).1; have := m.1; omega
    · exact (SC_b s).1
theorem SC_eq {t : Int → Int} {f W f' W' : Nat → Int32} {w0 e0 b0 : Nat} : ∀ {n w e b : Nat} {G : MD → Int → MD} {h x : MD → MD}, (∀ k, k < b → f' k = f k) → (∀ j, j < w → W' j = W j) → SC t f W w0 e0 b0 n w e b G h x → SC t f' W' w0 e0 b0 n w e b G h x
  | 0, w, e, b, G, h, x, _, _, s => s
  | n + 1, w, e, b, G, h, x, hf, hW, s => by
    obtain ⟨s0, s⟩ := s
    have ew : W' (w0 + n) = W (w0 + n) := hW _ (by omega)
    have hW2 : ∀ j, j < w0 + n → W' j = W j := fun j hj => hW j (by omega)
    refine ⟨s0, ?_⟩
    rw [ew]
    rcases s with ⟨b1, B, o, s, m, q⟩ | ⟨b1, A, o, s, m, q⟩ | ⟨G1, h1, x1, o, s, q⟩
    · exact Or.inl ⟨b1, B, o, SC_eq (fun k hk => hf k (by have := m.1; omega)) hW2 s, MNR_eq (fun k _ q2 => hf k q2) m, q⟩
    · exact Or.inr (Or.inl ⟨b1, A, o, SC_eq (fun k hk => hf k (by have := m.1; omega)) hW2 s, MNR_eq (fun k _ q2 => hf k q2) m, q⟩)
    · exact Or.inr (Or.inr ⟨G1, h1, x1, o, SC_eq hf hW2 s, q⟩)
/-- ahead of a factor; behind one -/
def SBf (t : Int → Int) (f W : Nat → Int32) (w0 e0 b0 w e c : Nat) (p : Int) (TG : MD) : Prop := ∃ n G h x, SC t f W w0 e0 b0 n w e c G h x ∧ TG = G (LSD t (FA t e) (FAD t e) (FA t e p).2 (h, x (FAD t e p))) (LSu t e (FA t e p).2).2
def SA (t : Int → Int) (f W : Nat → Int32) (w0 e0 b0 w e c : Nat) (q : Int) (TG : MD) : Prop := ∃ n b G h x C, SC t f W w0 e0 b0 n w e b G h x ∧ MNR f b c C ∧ TG = G (LSD t (FA t e) (FAD t e) q (h, x C)) (LSu t e q).2
section SS
variable {t : Int → Int} {f W f' W' : Nat → Int32} {w0 e0 b0 w e c : Nat} {p q en : Int} {TG : MD}
theorem SBf_0 : SBf t f W w0 e0 b0 w0 e0 b0 p (SUD t e0 p) := ⟨0, _, iD, iD, ⟨rfl, rfl, rfl, rfl, rfl, rfl⟩, rfl⟩
theorem SA_eq (hf : ∀ k, k < c → f' k = f k) (hW : ∀ j, j < w → W' j = W j) (s : SA t f W w0 e0 b0 w e c q TG) : SA t f' W' w0 e0 b0 w e c q TG := by
  obtain ⟨n, b, G, h, x, C, s, m, q⟩ := s
  exact ⟨n, b, G, h, x, C, SC_eq (fun k hk => hf k (by have := m.1; omega)) hW s, MNR_eq (fun k _ q2 => hf k q2) m, q⟩
/-- a bracket is opened -/
theorem SBf_opn (s : SBf t f W w0 e0 b0 w (e + 1) c p TG) (ht : t p = 91) (ok : (FA t (e + 1) p).1 = 0) (hf : ∀ k, k < c → f' k = f k) (hW : ∀ j, j < w → W' j = W j) (h14 : opv (W' w) = 14) : SBf t f' W' w0 e0 b0 (w + 1) e c (p + 1) TG ∧ (FA t e (p + 1)).1 = 0 := by
  obtain ⟨n, G, h, x, s, e1⟩ := s
  have ew := (SC_b s).2
  have d1 : SU t e (p + 1) = (0, (SU t e (p + 1)).2) := by
    rw [FA_opn ht] at ok
    exact pr_0 (bnd_1 ok)
  have d2 : t (SU t e (p + 1)).2 = 93 ∧ FA t (e + 1) p = (0, (SU t e (p + 1)).2 + 1) := by
    rw [FA_opn ht] at ok ⊢
    have eb := bnd_2 ok
    rw [eb] at ok ⊢
    exact cls_1 ok
  have d3 : (FA t e (p + 1)).1 = 0 := by
    have q : (bnd (FA t e (p + 1)) (LSu t e)).1 = 0 := by
      show (SU t e (p + 1)).1 = 0
      rw [d1]
    exact bnd_1 q
  have d4 : LSu t e (FA t e (p + 1)).2 = SU t e (p + 1) := by
    unfold SU
    rw [pr_0 d3, bnd_ok]
  refine ⟨⟨n + 1, _, iD, iD, ⟨by omega, Or.inr (Or.inr ⟨G, h, x, by rw [← ew]; exact h14, SC_eq hf (fun j hj => hW j (by omega)) (by rw [← ew]; exact s), rfl, rfl, rfl⟩)⟩, ?_⟩, d3⟩
  rw [e1, FAD_opn ht, d2.2, d4]
  rfl
/-- a number or a name was read -/
theorem SBf_at (s : SBf t f W w0 e0 b0 w e c p TG) {c2 : Nat} (hn : t p ≠ 91) (ha : FA t e p = (0, q)) (hf : ∀ k, k < c → f' k = f k) (hW : ∀ j, j < w → W' j = W j) (m : MNR f' c c2 (atD t p)) : SA t f' W' w0 e0 b0 w e c2 q TG := by
  obtain ⟨n, G, h, x, s, e1⟩ := s
  refine ⟨n, c, G, h, x, _, SC_eq hf hW s, m, ?_⟩
  rw [e1, ha, FAD_at hn]
/-- a sign that waited is written -/
theorem SA_t (s : SA t f W w0 e0 b0 (w + 1) e c q TG) (h1 : 4 ≤ opv (W w)) (h2 : opv (W w) ≤ 6) (hf : ∀ k, k < c → f' k = f k) (hc : opv (f' c) = opv (W w)) (hW : ∀ j, j < w → W' j = W j) : SA t f' W' w0 e0 b0 w e (c + 1) q TG ∨ w + 1 = w0 := by
  obtain ⟨n, b, G, h, x, C, s, m, e1⟩ := s
  cases n with
  | zero => exact Or.inr s.1
  | succ n =>
    left
    obtain ⟨s0, s⟩ := s
    have ew : w = w0 + n := by omega
    subst ew
    rcases s with ⟨b1, B, o, s, m1, ex⟩ | ⟨b1, A, o, s, m1, q⟩ | ⟨G1, h1, x1, o, s, q⟩
    · have k1 := m1.1
      have k2 := m.1
      refine ⟨n, b1, G, h, iD, _, SC_eq (fun k hk => hf k (by omega)) (fun j hj => hW j hj) s, MNR_op (MNR_eq (fun k _ q2 => hf k (by omega)) m1) (MNR_eq (fun k _ q2 => hf k q2) m) hc (by omega) (by omega), ?_⟩
      rw [e1, ex]
      rfl
    · omega
    · omega
theorem SA_p (s : SA t f W w0 e0 b0 (w + 1) e c q TG) (h0 : isT (t q) = false) (h1 : opv (W w) = 2 ∨ opv (W w) = 3) (hf : ∀ k, k < c → f' k = f k) (hc : opv (f' c) = opv (W w)) (hW : ∀ j, j < w → W' j = W j) : SA t f' W' w0 e0 b0 w e (c + 1) q TG ∨ w + 1 = w0 := by
  obtain ⟨n, b, G, h, x, C, s, m, e1⟩ := s
  cases n with
  | zero => exact Or.inr s.1
  | succ n =>
    left
    obtain ⟨s0, s⟩ := s
    have ew : w = w0 + n := by omega
    subst ew
    rcases s with ⟨b1, B, o, s, m1, ex⟩ | ⟨b1, A, o, s, m1, eh, ex⟩ | ⟨G1, h1, x1, o, s, q⟩
    · omega
    · have k1 := m1.1
      have k2 := m.1
      refine ⟨n, b1, G, iD, iD, _, SC_eq (fun k hk => hf k (by omega)) (fun j hj => hW j hj) s, MNR_op (MNR_eq (fun k _ q2 => hf k (by omega)) m1) (MNR_eq (fun k _ q2 => hf k q2) m) hc (by omega) (by omega), ?_⟩
      rw [e1, ex, eh, LSD_m h0]
      rfl
    · omega
/-- a sign begins to wait -/
theorem SA_st {s0 : Int} (s : SA t f W w0 e0 b0 w e c q TG) (ht : TXT t en) (hq : 0 ≤ q) (h : isT (t q) = true) (hn : w = w0 ∨ ¬ (4 ≤ opv (W (w - 1)) ∧ opv (W (w - 1)) ≤ 6)) (ok : (FA t e (q + 1)).1 = 0) (hf : ∀ k, k < c → f' k = f k) (hW : ∀ j, j < w → W' j = W j) (hw : opv (W' w) = s0) (h4 : 4 ≤ s0) (h6 : s0 ≤ 6) (hs : opc s0 = t q) : SBf t f' W' w0 e0 b0 (w + 1) e c (q + 1) TG := by
  obtain ⟨n, b, G, hh, x, C, s, m, e1⟩ := s
  have ew := (SC_b s).2
  have ex : x = iD := by
    cases n with
    | zero => exact s.2.2.2.2.2
    | succ n =>
      rcases s.2 with ⟨b1, B, o, -⟩ | ⟨b1, A, -, -, -, -, ex⟩ | ⟨G1, h1, x1, -, -, -, ex, -⟩
      · rw [show w0 + n = w - 1 by omega] at o
        omega
      · exact ex
      · exact ex
  subst ex
  have k2 := m.1
  refine ⟨n + 1, G, hh, jD (opc (opv (W' w))) C, ⟨by omega, Or.inl ⟨b, C, by rw [← ew, hw]; exact ⟨h4, h6⟩, SC_eq (fun k hk => hf k (by omega)) (fun j hj => hW j (by omega)) (by rw [← ew]; exact s), MNR_eq (fun k _ q2 => hf k q2) m, by rw [← ew]⟩⟩, ?_⟩
  rw [e1, LSD_t ht hq h (pr_0 ok), hw, hs, LSu_ok ht hq (isT_S h) (pr_0 ok)]
  rfl
theorem SA_sp {s0 : Int} (s : SA t f W w0 e0 b0 w e c q TG) (ht : TXT t en) (hq : 0 ≤ q) (h : isS (t q) = true) (h0 : isT (t q) = false) (hn : w = w0 ∨ ¬ (2 ≤ opv (W (w - 1)) ∧ opv (W (w - 1)) ≤ 6)) (ok : (FA t e (q + 1)).1 = 0) (hf : ∀ k, k < c → f' k = f k) (hW : ∀ j, j < w → W' j = W j) (hw : opv (W' w) = s0) (h4 : s0 = 2 ∨ s0 = 3) (hs : opc s0 = t q) : SBf t f' W' w0 e0 b0 (w + 1) e c (q + 1) TG := by
  obtain ⟨n, b, G, hh, x, C, s, m, e1⟩ := s
  have ew := (SC_b s).2
  have ex : hh = iD ∧ x = iD := by
    cases n with
    | zero => exact s.2.2.2.2
    | succ n =>
      rcases s.2 with ⟨b1, B, o, -⟩ | ⟨b1, A, o, -⟩ | ⟨G1, h1, x1, -, -, ex, ey, -⟩
      · rw [show w0 + n = w - 1 by omega] at o
        omega
      · rw [show w0 + n = w - 1 by omega] at o
        omega
      · exact ⟨ex, ey⟩
  obtain ⟨rfl, rfl⟩ := ex
  have k2 := m.1
  refine ⟨n + 1, G, jD (opc (opv (W' w))) C, iD, ⟨by omega, Or.inr (Or.inl ⟨b, C, by rw [← ew, hw]; exact h4, SC_eq (fun k hk => hf k (by omega)) (fun j hj => hW j (by omega)) (by rw [← ew]; exact s), MNR_eq (fun k _ q2 => hf k q2) m, by rw [← ew], rfl⟩)⟩, ?_⟩
  rw [e1, LSD_s ht hq h h0 (pr_0 ok), hw, hs, LSu_ok ht hq h (pr_0 ok)]
  rfl
/-- a bracket is closed -/
theorem SA_cl (s : SA t f W w0 e0 b0 (w + 1) e c q TG) (h14 : opv (W w) = 14) (hq : t q = 93) (hf : ∀ k, k < c → f' k = f k) (hW : ∀ j, j < w → W' j = W j) : SA t f' W' w0 e0 b0 w (e + 1) c (q + 1) TG ∨ w + 1 = w0 := by
  obtain ⟨n, b, G, h, x, C, s, m, e1⟩ := s
  cases n with
  | zero => exact Or.inr s.1
  | succ n =>
    left
    obtain ⟨s0, s⟩ := s
    have ew : w = w0 + n := by omega
    subst ew
    rcases s with ⟨b1, B, o, -⟩ | ⟨b1, A, o, -⟩ | ⟨G1, h1, x1, o, s, eh, ex, eG⟩
    · omega
    · omega
    · refine ⟨n, b, G1, h1, x1, C, SC_eq (fun k hk => hf k (by have := m.1; omega)) (fun j hj => hW j hj) s, MNR_eq (fun k _ q2 => hf k q2) m, ?_⟩
      have z : isS (t q) = false := by rw [hq]; decide
      rw [e1, eG, eh, ex, LSD_no z, LSu_no z]
      rfl
/-- the end of the sum -/
theorem SA_e (s : SA t f W w0 e0 b0 w0 e c q TG) (h0 : isS (t q) = false) : MNR f b0 c TG := by
  obtain ⟨n, b, G, h, x, C, s, m, e1⟩ := s
  have ew := (SC_b s).2
  cases n with
  | zero =>
    obtain ⟨-, -, rfl, rfl, rfl, rfl⟩ := s
    rw [e1, LSD_no h0]
    exact m
  | succ n => omega
end SS
/-! the reference's codes: what waits inside a condition -/
/-- the jumps that wait above a bracket at place u -/
def JW (f W : Nat → Int32) (u w b jx jy : Nat) : Prop :=
  (jx < 999 → jx < b ∧ opv (W (u + 1)) = 12 ∧ agv (W (u + 1)) = jx ∧ opv (f jx) = 12) ∧ (jy < 999 → jy < b ∧ opv (W (w - 1)) = 11 ∧ agv (W (w - 1)) = jy ∧ opv (f jy) = 11) ∧
  ((999 ≤ jx ∧ 999 ≤ jy ∧ w = u + 1) ∨ (jx < 999 ∧ 999 ≤ jy ∧ w = u + 2) ∨ (999 ≤ jx ∧ jy < 999 ∧ w = u + 2) ∨ (jx < 999 ∧ jy < 999 ∧ w = u + 3))
/-- w wait, at level e; the piece that is read begins with code b; G: what it is for -/
def PC (t : Int → Int) (f W : Nat → Int32) (b0 : Nat) : Nat → Nat → Nat → Nat → (MD → Int → MD) → Prop
  | 0, w, e, b, G => w = 0 ∧ e = 6 ∧ b = b0 ∧ G = fun D _ => D
  | n + 1, w, e, b, G =>
      (∃ G1, 1 ≤ w ∧ opv (W (w - 1)) = 10 ∧ PC t f W b0 n (w - 1) (e + 1) b G1 ∧ G = fun D q => G1 (nD D) q)
    ∨ (∃ u a jx jy X Y G1, opv (W u) = 13 ∧ JW f W u w b jx jy ∧ b < 999 ∧ LVL f a b jx jy X Y ∧ B1 X ∧ B1 Y ∧ PC t f W b0 n u (e + 1) a G1 ∧ G = fun D q => G1 (LBD t e q (X, Y, D)) ((LB t e q).2 + 1))
theorem JW_w {f W : Nat → Int32} {u w b jx jy : Nat} (J : JW f W u w b jx jy) : u < w ∧ (jx < 999 → u + 1 < w) ∧ (jy < 999 → u + 1 < w) := by
  obtain ⟨-, -, j3⟩ := J
  omega
theorem JW_eq {f W f' W' : Nat → Int32} {u w b jx jy : Nat} (hf : ∀ k, k < b → f' k = f k) (hW : ∀ j, j < w → W' j = W j) (J : JW f W u w b jx jy) : JW f' W' u w b jx jy := by
  have j0 := JW_w J
  obtain ⟨j1, j2, j3⟩ := J
  refine ⟨fun z => ?_, fun z => ?_, j3⟩
  · have w1 := j1 z
    have w0 := j0.2.1 z
    rw [hW _ w0, hf _ w1.1]
    exact w1
  · have w1 := j2 z
    have w0 := j0.2.2 z
    rw [hW _ (by omega), hf _ w1.1]
    exact w1
theorem PC_eq {t : Int → Int} {f W f' W' : Nat → Int32} {b0 : Nat} : ∀ {n w e b : Nat} {G : MD → Int → MD}, (∀ k, k < b → f' k = f k) → (∀ j, j < w → W' j = W j) → PC t f W b0 n w e b G → PC t f' W' b0 n w e b G
  | 0, w, e, b, G, _, _, s => s
  | n + 1, w, e, b, G, hf, hW, s => by
    rcases s with ⟨G1, k1, k2, s, q⟩ | ⟨u, a, jx, jy, X, Y, G1, k2, J, k3, L, x1, y1, s, q⟩
    · exact Or.inl ⟨G1, k1, by rw [hW _ (by omega)]; exact k2, PC_eq hf (fun j hj => hW j (by omega)) s, q⟩
    · have l1 := L.1.1
      have l2 := (JW_w J).1
      exact Or.inr ⟨u, a, jx, jy, X, Y, G1, by rw [hW _ l2]; exact k2, JW_eq hf hW J, k3, LVL_eq (fun k q1 q2 _ _ => hf k q2) L, x1, y1, PC_eq (fun k hk => hf k (by omega)) (fun j hj => hW j (by omega)) s, q⟩
def PB (t : Int → Int) (f W : Nat → Int32) (b0 w e c : Nat) (p : Int) (TG : MD) : Prop := ∃ n G, PC t f W b0 n w e c G ∧ TG = G (PID t e p) (PI t e p).2
def PA (t : Int → Int) (f W : Nat → Int32) (b0 w e c : Nat) (q : Int) (TG : MD) : Prop := ∃ n b G P, PC t f W b0 n w e b G ∧ MNR f b c P ∧ B1 P ∧ TG = G P q
/-- all that waits in the bracket has landed -/
def PL (t : Int → Int) (f W : Nat → Int32) (b0 u e c : Nat) (q : Int) (TG : MD) : Prop := ∃ n a X Y P G1, PC t f W b0 n u (e + 1) a G1 ∧ MNR f a c (lD 124 X (lD 38 Y P)) ∧ B1 (lD 124 X (lD 38 Y P)) ∧ TG = G1 (LBD t e q (X, Y, P)) ((LB t e q).2 + 1)
/-- those that waited from w2 on have landed at code c -/
def LDP (f W f' : Nat → Int32) (w2 w c : Nat) : Prop := (∀ j, w2 ≤ j → j < w → opv (f' (agv (W j)).toNat) = opv (f (agv (W j)).toNat) ∧ agv (f' (agv (W j)).toNat) = c) ∧ ∀ k, (∀ j, w2 ≤ j → j < w → (agv (W j)).toNat ≠ k) → f' k = f k
section PP
variable {t : Int → Int} {f W f' W' f2 : Nat → Int32} {b0 w e c w2 : Nat} {p q en : Int} {TG : MD}
theorem PB_0 (h9 : b0 < 999) (hW : opv (W 0) = 13) : PB t f W b0 1 5 b0 p (CND_ t 5 p) :=
  ⟨1, _, Or.inr ⟨0, b0, 999, 999, dD 124, dD 38, _, hW, ⟨fun z => by omega, fun z => by omega, Or.inl ⟨by omega, by omega, rfl⟩⟩, h9, LVL_0 (by omega), B1_d, B1_d, ⟨rfl, rfl, rfl, rfl⟩, rfl⟩, rfl⟩
theorem PA_eq (hf : ∀ k, k < c → f' k = f k) (hW : ∀ j, j < w → W' j = W j) (s : PA t f W b0 w e c q TG) : PA t f' W' b0 w e c q TG := by
  obtain ⟨n, b, G, P, s, m, hB, q⟩ := s
  exact ⟨n, b, G, P, PC_eq (fun k hk => hf k (by have := m.1; omega)) hW s, MNR_eq (fun k _ q2 => hf k q2) m, hB, q⟩
theorem PB_not (s : PB t f W b0 w (e + 1) c p TG) (ht : t p = 33) (hf : ∀ k, k < c → f' k = f k) (hW : ∀ j, j < w → W' j = W j) (h10 : opv (W' w) = 10) : PB t f' W' b0 (w + 1) e c (p + 1) TG := by
  obtain ⟨n, G, s, e1⟩ := s
  refine ⟨n + 1, _, Or.inl ⟨G, by omega, by rw [show w + 1 - 1 = w by omega]; exact h10, by rw [show w + 1 - 1 = w by omega]; exact PC_eq hf hW s, rfl⟩, ?_⟩
  rw [e1, PID_not ht, PI_not ht]
theorem PB_opn (s : PB t f W b0 w (e + 1) c p TG) (h9 : c < 999) (ht : t p = 40) (ok : (PI t (e + 1) p).1 = 0) (hf : ∀ k, k < c → f' k = f k) (hW : ∀ j, j < w → W' j = W j) (h13 : opv (W' w) = 13) : PB t f' W' b0 (w + 1) e c (p + 1) TG ∧ (PI t e (p + 1)).1 = 0 := by
  obtain ⟨n, G, s, e1⟩ := s
  have d1 : CN t e (p + 1) = (0, (CN t e (p + 1)).2) := by
    rw [PI_opn ht] at ok
    exact pr_0 (bnd_1 ok)
  have d2 : t (CN t e (p + 1)).2 = 41 ∧ PI t (e + 1) p = (0, (CN t e (p + 1)).2 + 1) := by
    rw [PI_opn ht] at ok ⊢
    have eb := bnd_2 ok
    rw [eb] at ok ⊢
    exact cls_1 ok
  have d3 : (PI t e (p + 1)).1 = 0 := by
    have q : (bnd (PI t e (p + 1)) (LB t e)).1 = 0 := by
      show (CN t e (p + 1)).1 = 0
      rw [d1]
    exact bnd_1 q
  have d4 : LB t e (PI t e (p + 1)).2 = CN t e (p + 1) := by
    unfold CN
    rw [pr_0 d3, bnd_ok]
  refine ⟨⟨n + 1, _, Or.inr ⟨w, c, 999, 999, dD 124, dD 38, G, h13, ⟨fun z => by omega, fun z => by omega, Or.inl ⟨by omega, by omega, rfl⟩⟩, h9, LVL_0 (by omega), B1_d, B1_d, PC_eq hf hW s, rfl⟩, ?_⟩, d3⟩
  rw [e1, PID_opn ht, d2.2, d4]
  rfl
theorem B1_c {D E : MD} {x : Int} (h : isC x = true) : B1 (jD x D E) := by
  intro fa v hv
  have hx : x ≠ 43 ∧ x ≠ 45 ∧ x ≠ 42 ∧ x ≠ 47 ∧ x ≠ 37 := by
    unfold isC at h
    simp only [Bool.or_eq_true, beq_iff_eq] at h
    omega
  unfold jD at hv
  cases z : D fa with
  | none => rw [z] at hv; cases hv
  | some a =>
    rw [z, ob_some] at hv
    cases y : E fa with
    | none => rw [y] at hv; cases hv
    | some b =>
      rw [y, ob_some, if_neg (by omega)] at hv
      cases hv
      unfold jnv
      rw [if_neg hx.1, if_neg hx.2.1, if_neg hx.2.2.1, if_neg hx.2.2.2.1, if_neg hx.2.2.2.2]
      repeat' split
      all_goals exact b01_B _
/-- a comparison was read -/
theorem PB_cm (s : PB t f W b0 w e c p TG) {c2 : Nat} (h1 : t p ≠ 33) (h2 : t p ≠ 40) (ok : CM t e p = (0, q)) (hf : ∀ k, k < c → f' k = f k) (hW : ∀ j, j < w → W' j = W j) (m : MNR f' c c2 (CMD t e p)) (hB : B1 (CMD t e p)) : PA t f' W' b0 w e c2 q TG := by
  obtain ⟨n, G, s, e1⟩ := s
  refine ⟨n, c, G, _, PC_eq hf hW s, m, hB, ?_⟩
  rw [e1, PID_cm h1 h2, PI_cm h1 h2, ok]
/-- a NOT is written -/
theorem PA_not (s : PA t f W b0 (w + 1) e c q TG) (h10 : opv (W w) = 10) (hf : ∀ k, k < c → f' k = f k) (hc : opv (f' c) = 10) (hW : ∀ j, j < w → W' j = W j) : PA t f' W' b0 w (e + 1) (c + 1) q TG := by
  obtain ⟨n, b, G, P, s, m, hB, e1⟩ := s
  cases n with
  | zero => exact absurd s.1 (by omega)
  | succ n =>
    rcases s with ⟨G1, k1, k2, s, eG⟩ | ⟨u, a, jx, jy, X, Y, G1, k2, J, k3, L, x1, y1, s, eG⟩
    · rw [show w + 1 - 1 = w by omega] at s
      refine ⟨n, b, G1, nD P, PC_eq (fun k hk => hf k (by have := m.1; omega)) hW s, MNR_not (MNR_eq (fun k _ q2 => hf k q2) m) hB hc, B1_n, ?_⟩
      rw [e1, eG]
    · exfalso
      obtain ⟨j1, j2, j3⟩ := J
      rcases j3 with ⟨z1, z2, z3⟩ | ⟨z1, z2, z3⟩ | ⟨z1, z2, z3⟩ | ⟨z1, z2, z3⟩
      · rw [show w = u by omega] at h10; omega
      · have := (j1 z1).2.1; rw [show w = u + 1 by omega] at h10; omega
      · have := (j2 z2).2.1; rw [show w + 1 - 1 = w by omega] at this; omega
      · have := (j2 z2).2.1; rw [show w + 1 - 1 = w by omega] at this; omega
/-- what waits in a bracket -/
theorem PA_lv (s : PA t f W b0 w e c q TG) (h1 : 1 ≤ w) (hz : opv (W (w - 1)) ≠ 10) : ∃ n b P u a jx jy X Y G1, opv (W u) = 13 ∧ JW f W u w b jx jy ∧ b < 999 ∧ LVL f a b jx jy X Y ∧ B1 X ∧ B1 Y ∧ PC t f W b0 n u (e + 1) a G1 ∧ MNR f b c P ∧ B1 P ∧ TG = G1 (LBD t e q (X, Y, P)) ((LB t e q).2 + 1) := by
  obtain ⟨n, b, G, P, s, m, hB, e1⟩ := s
  cases n with
  | zero => exact absurd s.1 (by omega)
  | succ n =>
    rcases s with ⟨G1, k1, k2, s, eG⟩ | ⟨u, a, jx, jy, X, Y, G1, k2, J, k3, L, x1, y1, s, eG⟩
    · exact absurd k2 hz
    · exact ⟨n, b, P, u, a, jx, jy, X, Y, G1, k2, J, k3, L, x1, y1, s, m, hB, by rw [e1, eG]⟩
/-- all of them land -/
theorem PA_la (s : PA t f W b0 w e c q TG) (h1 : 1 ≤ w) (hc9 : c < 999) (hz : opv (W (w - 1)) ≠ 10) (hl : LDP f W f' w2 w c) (hi : ∀ j, w2 ≤ j → j < w → opv (W j) = 11 ∨ opv (W j) = 12) (hw : w2 ≤ w) (ht : w2 = 0 ∨ (opv (W (w2 - 1)) ≠ 11 ∧ opv (W (w2 - 1)) ≠ 12)) : ∃ u, w2 = u + 1 ∧ opv (W u) = 13 ∧ PL t f' W b0 u e c q TG := by
  obtain ⟨n, b, P, u, a, jx, jy, X, Y, G1, k2, J, k3, L, x1, y1, s, m, hB, e1⟩ := PA_lv s h1 hz
  have j0 := JW_w J
  obtain ⟨j1, j2, j3⟩ := J
  obtain ⟨l1, l2, l3⟩ := L.1
  have m1 := m.1
  have hu : u < w2 := by
    by_cases z : u < w2
    · exact z
    · have := hi u (by omega) j0.1; omega
  have eu : w2 = u + 1 := by
    by_cases z : w2 = u + 1
    · exact z
    · exfalso
      have ht2 := ht.resolve_left (by omega)
      rcases j3 with ⟨z1, z2, z3⟩ | ⟨z1, z2, z3⟩ | ⟨z1, z2, z3⟩ | ⟨z1, z2, z3⟩
      · omega
      · rw [show w2 - 1 = u + 1 by omega] at ht2; have := (j1 z1).2.1; omega
      · have := (j2 z2).2.1; rw [show w2 - 1 = w - 1 by omega] at ht2; omega
      · by_cases y : w2 = w
        · have := (j2 z2).2.1; rw [show w2 - 1 = w - 1 by omega] at ht2; omega
        · rw [show w2 - 1 = u + 1 by omega] at ht2; have := (j1 z1).2.1; omega
  have hx : jx < b → opv (f' jx) = 12 ∧ agv (f' jx) = c := fun z => by
    have q1 := j1 (by omega)
    have q2 := hl.1 (u + 1) (by omega) (j0.2.1 (by omega))
    rw [q1.2.2.1] at q2
    have q3 : ((jx : Int)).toNat = jx := by omega
    rw [q3] at q2
    exact ⟨by rw [q2.1]; exact q1.2.2.2, q2.2⟩
  have hy : jy < b → opv (f' jy) = 11 ∧ agv (f' jy) = c := fun z => by
    have q1 := j2 (by omega)
    have q0 := j0.2.2 (by omega)
    have q2 := hl.1 (w - 1) (by omega) (by omega)
    rw [q1.2.2.1] at q2
    have q3 : ((jy : Int)).toNat = jy := by omega
    rw [q3] at q2
    exact ⟨by rw [q2.1]; exact q1.2.2.2, q2.2⟩
  have hk : ∀ k, k ≠ jx → k ≠ jy → k < 999 → f' k = f k := fun k z1 z2 z9 => hl.2 k (fun j y1 y2 y3 => by
    rcases j3 with ⟨v1, v2, v3⟩ | ⟨v1, v2, v3⟩ | ⟨v1, v2, v3⟩ | ⟨v1, v2, v3⟩
    · omega
    · have q1 := (j1 v1).2.2.1; rw [show j = u + 1 by omega, q1] at y3; omega
    · have q1 := (j2 v2).2.2.1; rw [show j = w - 1 by omega, q1] at y3; omega
    · by_cases y : j = w - 1
      · have q1 := (j2 v2).2.2.1; rw [y, q1] at y3; omega
      · have q1 := (j1 v1).2.2.1; rw [show j = u + 1 by omega, q1] at y3; omega)
  have ha : ∀ k, k < a → f' k = f k := fun k z => hk k (fun y => by
    subst y
    by_cases v : k < b
    · have := l2 v; omega
    · omega) (fun y => by
    subst y
    by_cases v : k < b
    · have := (l3 v).1; omega
    · omega) (by omega)
  refine ⟨u, eu, k2, n, a, X, Y, P, G1, PC_eq ha (fun _ _ => rfl) s, LVL_l L m (fun k z1 z2 z3 z4 => hk k z3 z4 (by omega)) hx hy ?_ ?_, B1_l x1 (B1_l y1 hB), e1⟩
  · by_cases z : jx < 999
    · exact Or.inl (j1 z).1
    · right; omega
  · by_cases z : jy < 999
    · exact Or.inl (j2 z).1
    · right; omega
theorem PL_cl {u : Nat} (s : PL t f W b0 u e c q TG) (ht : t q = 41) (hf : ∀ k, k < c → f' k = f k) (hW : ∀ j, j < u → W' j = W j) : PA t f' W' b0 u (e + 1) c (q + 1) TG := by
  obtain ⟨n, a, X, Y, P, G1, s, m, hB, e1⟩ := s
  have z : isB (t q) = false := by rw [ht]; decide
  refine ⟨n, a, G1, _, PC_eq (fun k hk => hf k (by have := m.1; omega)) hW s, MNR_eq (fun k _ q2 => hf k q2) m, hB, ?_⟩
  rw [e1, LBD_no z, LB_no z]
  rfl
theorem PL_br {u : Nat} (s : PL t f W b0 u e c q TG) (hen : TXT t en) (hq : 0 ≤ q) (ht : t q = 124) (ok : (PI t e (q + 1)).1 = 0) (h9 : c + 1 < 999) (h13 : opv (W u) = 13) (hf : ∀ k, k < c → f' k = f k) (hW : ∀ j, j < u + 1 → W' j = W j) (w1 : opv (W' (u + 1)) = 12) (w3 : agv (W' (u + 1)) = c) (hc : opv (f' c) = 12) : PB t f' W' b0 (u + 2) e (c + 1) (q + 1) TG := by
  obtain ⟨n, a, X, Y, P, G1, s, m, hB, e1⟩ := s
  have m1 := m.1
  refine ⟨n + 1, _, Or.inr ⟨u, a, c, 999, _, dD 38, G1, by rw [hW u (by omega)]; exact h13, ⟨fun _ => ⟨by omega, w1, w3, hc⟩, fun z => by omega, Or.inr (Or.inl ⟨by omega, by omega, rfl⟩)⟩, h9, LVL_o (MNR_eq (fun k _ q2 => hf k q2) m) hB (by omega), hB, B1_d, PC_eq (fun k hk => hf k (by omega)) (fun j hj => hW j (by omega)) s, rfl⟩, ?_⟩
  have eL : LB t e q = LB t e (PI t e (q + 1)).2 := by
    rw [LB_yes hen hq (isB_y (Or.inr ht)), pr_0 ok, bnd_ok]
  rw [e1, LBD_o hen hq ht (pr_0 ok), eL]
/-- an & : what waits for one lands, and one waits again -/
theorem PA_am (s : PA t f W b0 w e c q TG) (h1 : 1 ≤ w) (hc9 : c + 1 < 999) (hz : opv (W (w - 1)) ≠ 10) (hl : LDP f W f2 w2 w c) (hi : ∀ j, w2 ≤ j → j < w → opv (W j) = 11) (hw : w2 ≤ w) (ht2 : w2 = 0 ∨ opv (W (w2 - 1)) ≠ 11) (hen : TXT t en) (hq : 0 ≤ q) (ht : t q = 38) (ok : (PI t e (q + 1)).1 = 0) (hf : ∀ k, k < c → f' k = f2 k) (hW : ∀ j, j < w2 → W' j = W j) (w1 : opv (W' w2) = 11) (w3 : agv (W' w2) = c) (hc : opv (f' c) = 11) : PB t f' W' b0 (w2 + 1) e (c + 1) (q + 1) TG := by
  obtain ⟨n, b, P, u, a, jx, jy, X, Y, G1, k2, J, k3, L, x1, y1, s, m, hB, e1⟩ := PA_lv s h1 hz
  have j0 := JW_w J
  obtain ⟨j1, j2, j3⟩ := J
  obtain ⟨l1, l2, l3⟩ := L.1
  have m1 := m.1
  have e2 : (jy < 999 → w2 = w - 1) ∧ (999 ≤ jy → w2 = w) := by
    refine ⟨fun z => ?_, fun z => ?_⟩
    · have q1 := (j2 z).2.1
      have q0 := j0.2.2 z
      by_cases y : w2 = w
      · rw [y] at ht2; omega
      · by_cases v : w2 = w - 1
        · exact v
        · exfalso
          have q2 := hi (w - 2) (by omega) (by omega)
          rcases j3 with ⟨v1, v2, v3⟩ | ⟨v1, v2, v3⟩ | ⟨v1, v2, v3⟩ | ⟨v1, v2, v3⟩
          · omega
          · omega
          · rw [show w - 2 = u by omega] at q2; omega
          · have := (j1 v1).2.1; rw [show w - 2 = u + 1 by omega] at q2; omega
    · by_cases y : w2 = w
      · exact y
      · exfalso
        have q2 := hi (w - 1) (by omega) (by omega)
        rcases j3 with ⟨v1, v2, v3⟩ | ⟨v1, v2, v3⟩ | ⟨v1, v2, v3⟩ | ⟨v1, v2, v3⟩
        · rw [show w - 1 = u by omega] at q2; omega
        · have := (j1 v1).2.1; rw [show w - 1 = u + 1 by omega] at q2; omega
        · omega
        · omega
  have hy : jy < b → opv (f2 jy) = 11 ∧ agv (f2 jy) = c := fun z => by
    have q1 := j2 (by omega)
    have q0 := j0.2.2 (by omega)
    have q2 := hl.1 (w - 1) (by have := e2.1 (by omega); omega) (by omega)
    rw [q1.2.2.1] at q2
    have q3 : ((jy : Int)).toNat = jy := by omega
    rw [q3] at q2
    exact ⟨by rw [q2.1]; exact q1.2.2.2, q2.2⟩
  have hk : ∀ k, k ≠ jy → k < 999 → f2 k = f k := fun k z2 z9 => hl.2 k (fun j y1 y2 y3 => by
    by_cases v : jy < 999
    · have q1 := (j2 v).2.2.1
      rw [show j = w - 1 by have := e2.1 v; omega, q1] at y3
      omega
    · have := e2.2 (by omega); omega)
  have ha : ∀ k, k < a → f' k = f k := fun k z => (hf k (by omega)).trans (hk k (fun y => by
    subst y
    by_cases v : k < b
    · have := (l3 v).1; omega
    · omega) (by omega))
  have hu : u < w2 := by
    rcases j3 with ⟨v1, v2, v3⟩ | ⟨v1, v2, v3⟩ | ⟨v1, v2, v3⟩ | ⟨v1, v2, v3⟩
    · have := e2.2 v2; omega
    · have := e2.2 v2; omega
    · have := e2.1 v2; omega
    · have := e2.1 v2; omega
  refine ⟨n + 1, _, Or.inr ⟨u, a, jx, c, X, _, G1, by rw [hW u hu]; exact k2, ⟨fun z => ?_, fun _ => ⟨by omega, by rw [show w2 + 1 - 1 = w2 by omega]; exact w1, by rw [show w2 + 1 - 1 = w2 by omega]; exact w3, hc⟩, ?_⟩, hc9, LVL_a L m (fun k z1 z2 z3 z4 => (hf k z2).trans (hk k z4 (by omega))) (fun z => by rw [hf jy (by omega)]; exact hy z) ?_ ?_, x1, B1_l y1 hB, PC_eq ha (fun j hj => hW j (by omega)) s, rfl⟩, ?_⟩
  · have q1 := j1 z
    have q2 : jx ≠ jy := fun y => by
      subst y
      exact absurd rfl (l3 q1.1).2
    have q3 : u + 1 < w2 := by
      rcases j3 with ⟨v1, v2, v3⟩ | ⟨v1, v2, v3⟩ | ⟨v1, v2, v3⟩ | ⟨v1, v2, v3⟩
      · omega
      · have := e2.2 v2; omega
      · omega
      · have := e2.1 v2; omega
    rw [hW _ q3, hf jx (by omega), hk jx q2 (by omega)]
    exact ⟨by omega, q1.2.1, q1.2.2.1, q1.2.2.2⟩
  · rcases j3 with ⟨v1, v2, v3⟩ | ⟨v1, v2, v3⟩ | ⟨v1, v2, v3⟩ | ⟨v1, v2, v3⟩
    · have := e2.2 v2; exact Or.inr (Or.inr (Or.inl ⟨v1, by omega, by omega⟩))
    · have := e2.2 v2; exact Or.inr (Or.inr (Or.inr ⟨v1, by omega, by omega⟩))
    · have := e2.1 v2; exact Or.inr (Or.inr (Or.inl ⟨v1, by omega, by omega⟩))
    · have := e2.1 v2; exact Or.inr (Or.inr (Or.inr ⟨v1, by omega, by omega⟩))
  · by_cases z : jx < 999
    · exact Or.inl (j1 z).1
    · right; omega
  · by_cases z : jy < 999
    · exact Or.inl (j2 z).1
    · right; omega
  · have eL : LB t e q = LB t e (PI t e (q + 1)).2 := by
      rw [LB_yes hen hq (isB_y (Or.inl ht)), pr_0 ok, bnd_ok]
    rw [e1, LBD_a hen hq ht (pr_0 ok), eL]
/-- the end of the condition -/
theorem PA_e (s : PA t f W b0 0 e c q TG) : MNR f b0 c TG ∧ B1 TG := by
  obtain ⟨n, b, G, P, s, m, hB, e1⟩ := s
  cases n with
  | zero =>
    obtain ⟨-, -, rfl, rfl⟩ := s
    rw [e1]
    exact ⟨m, hB⟩
  | succ n =>
    rcases s with ⟨G1, k1, -⟩ | ⟨u, a, jx, jy, X, Y, G1, k2, J, -⟩
    · omega
    · have := (JW_w J).1; omega
end PP
/-! the class's reader, with what its codes mean -/
theorem EMT_of {a i1 i2 : Nat} {m m1 m2 m3 : Nat → Nat → Int32} {x y z : Int32} (e1 : m1 = up2 m (a + 1) i1 x) (h1 : i1 = lnC m a) (e2 : m2 = up2 m1 (a + 2) i2 y) (h2 : i2 = lnC m a) (e3 : m3 = up2 m2 a 2 z) (hz : z.toInt = (m a 2).toInt + 1) : EMT a m m3 x.toInt y := by
  subst h1
  subst h2
  refine ⟨by rw [e3, up2_eq]; exact hz, ?_, fun k hk => ?_⟩
  · unfold cdC
    rw [e3, up2_ne (by omega), up2_ne (by omega), e2, up2_ne (by omega), up2_eq, e1, up2_eq]
  · unfold cdC
    rw [e3, up2_ne (by omega), up2_ne (by omega), e2, up2_ne (by omega), up2_ne (by omega), e1, up2_ne (by omega), up2_ne (by omega)]
/-- some leaps are aimed already -/
def AIMp (lb : Nat) (m m' : Nat → Nat → Int32) (op f0 i : Int) : Prop := (∀ k : Nat, ((k : Int) < f0 ∨ i ≤ k) → cdC m' lb k = cdC m lb k) ∧ ∀ k : Nat, f0 ≤ k → (k : Int) < i → (cdC m' lb k).1 = (cdC m lb k).1 ∧ (((cdC m lb k).1 = op ∧ (cdC m lb k).2.toInt = -1) → (cdC m' lb k).2.toInt = (m lb 2).toInt) ∧ (¬ ((cdC m lb k).1 = op ∧ (cdC m lb k).2.toInt = -1) → (cdC m' lb k).2 = (cdC m lb k).2)
section AI
variable {lb : Nat} {m m1 m2 : Nat → Nat → Int32} {op f0 i i2 : Int}
theorem AIMp_0 : AIMp lb m m op f0 f0 := ⟨fun _ _ => rfl, fun k h1 h2 => by omega⟩
theorem AIMp_skip (h : AIMp lb m m1 op f0 i) (h0 : f0 ≤ i) (hf : 0 ≤ f0) (e : i2 = i + 1) (hn : ¬ ((cdC m1 lb i.toNat).1 = op ∧ (cdC m1 lb i.toNat).2.toInt = -1)) : AIMp lb m m1 op f0 i2 := by
  obtain ⟨a1, a2⟩ := h
  refine ⟨fun k hk => a1 k (by omega), fun k k1 k2 => ?_⟩
  by_cases z : (k : Int) < i
  · exact a2 k k1 z
  · have ek := a1 k (by omega)
    rw [show i.toNat = k by omega] at hn
    rw [ek] at hn ⊢
    exact ⟨rfl, fun q => absurd q hn, fun _ => rfl⟩
theorem AIMp_hit {v : Int32} {j : Nat} (h : AIMp lb m m1 op f0 i) (h0 : f0 ≤ i) (hf : 0 ≤ f0) (e : i2 = i + 1) (e2 : m2 = up2 m1 (lb + 2) j v) (hj : j = i.toNat) (hv : v.toInt = (m lb 2).toInt) (h1 : (cdC m1 lb i.toNat).1 = op) (h2 : (cdC m1 lb i.toNat).2.toInt = -1) : AIMp lb m m2 op f0 i2 := by
  obtain ⟨a1, a2⟩ := h
  subst hj
  have ec : ∀ k, k ≠ i.toNat → cdC m2 lb k = cdC m1 lb k := fun k hk => by
    unfold cdC
    rw [e2, up2_ne (by omega), up2_ne (by omega)]
  refine ⟨fun k hk => by rw [ec k (by omega)]; exact a1 k (by omega), fun k k1 k2 => ?_⟩
  by_cases z : (k : Int) < i
  · rw [ec k (by omega)]; exact a2 k k1 z
  · have ek := a1 k (by omega)
    rw [show i.toNat = k by omega] at h1 h2 e2
    have e3 : cdC m2 lb k = ((cdC m1 lb k).1, v) := by
      unfold cdC
      rw [e2, up2_ne (by omega), up2_eq]
    rw [e3]
    rw [ek] at h1 h2 ⊢
    exact ⟨rfl, fun _ => hv, fun q => absurd ⟨h1, h2⟩ q⟩
theorem AIMp_D (h : AIMp lb m m1 op f0 i) (hf : 0 ≤ f0) (h1 : (m lb 2).toInt ≤ i) (e : (m1 lb 2).toInt = (m lb 2).toInt) (h0 : 0 ≤ (m lb 2).toInt) : AIMD lb m m1 op f0 := by
  obtain ⟨a1, a2⟩ := h
  refine ⟨e, fun k hk => a1 k (Or.inl hk), fun k k1 k2 => ?_⟩
  obtain ⟨z1, z2, z3⟩ := a2 k (by omega) (by unfold lnC at k2; omega)
  exact ⟨z1, fun q => by rw [z2 q]; unfold lnC; omega, z3⟩
end AI
theorem ndv_y {t : Int → Int} {k : Nat} {q v : Int} (h : dig (t q) = true) : ndv t (k + 1) q v = ndv t k (q + 1) (10 * v + t q - 48) := by simp only [ndv]; rw [if_pos h]
theorem ndv_no {t : Int → Int} {k : Nat} {q v : Int} (h : dig (t q) = false) : ndv t k q v = v := by
  cases k with
  | zero => rfl
  | succ k => simp only [ndv]; rw [h, if_neg (by decide)]
theorem ofI {x : Int32} {v : Int} (h : v = x.toInt) : Int32.ofInt v = x := by rw [h]; exact Int32.ofInt_toInt x
theorem atD_num {t : Int → Int} {p : Int} (h : dig (t p) = true) : atD t p = cD (Int32.ofInt (ndv t 5 p 0)) := if_pos h
theorem atD_nam {t : Int → Int} {p : Int} (h : dig (t p) = false) : atD t p = fD (nix (t p)).toNat := by unfold atD; rw [h, if_neg (by decide)]
theorem isO_t {x : Int} (h : isT x = true) : isO x := by
  unfold isT at h
  simp only [Bool.or_eq_true, beq_iff_eq] at h
  unfold isO
  omega
theorem isO_c {x : Int} (h : isC x = true) : isO x := by
  unfold isC at h
  simp only [Bool.or_eq_true, beq_iff_eq] at h
  unfold isO
  omega
/-- a term was read -/
def TMZ (t : Int → Int) (e lb : Nat) (m m' : Nat → Nat → Int32) (p0 a : Int) : Prop := (FA t e p0).1 = 0 ∧ ∃ x, CDS lb m m' (2 * e + 2) x (a - p0) ∧ ∀ h, LSD t (FA t e) (FAD t e) (FA t e p0).2 (h, FAD t e p0) = LSD t (FA t e) (FAD t e) a (h, x)
/-- terms were read -/
def SMZ (t : Int → Int) (e lb : Nat) (m m' : Nat → Nat → Int32) (p0 a : Int) : Prop := ∃ x, CDS lb m m' (2 * e + 3) x (a - p0) ∧ SUD t e p0 = LSD t (FA t e) (FAD t e) a (iD, x)
def PQZ (t : Int → Int) (e lb : Nat) (m m' : Nat → Nat → Int32) (p0 a : Int) : Prop := ∃ Y, RQ 38 lb m m' (2 * e + 4) Y (a - p0) ∧ ((PI t e a).1 = 0 → (PI t e p0).1 = 0 ∧ ∀ X, LBD t e (PI t e p0).2 (X, dD 38, PID t e p0) = LBD t e (PI t e a).2 (X, Y, PID t e a))
def PRZ (t : Int → Int) (e lb : Nat) (m m' : Nat → Nat → Int32) (p0 a : Int) : Prop := ∃ Y P, RP 38 lb m m' (2 * e + 4) Y P (a - p0) ∧ (PI t e p0).1 = 0 ∧ ∀ X, LBD t e (PI t e p0).2 (X, dD 38, PID t e p0) = LBD t e a (X, Y, P)
/-- a part was read -/
def PTZ (t : Int → Int) (e lb : Nat) (m m' : Nat → Nat → Int32) (p0 a : Int) : Prop := ∃ Y P, CDS lb m m' (2 * e + 4) (lD 38 Y P) (a - p0) ∧ (PI t e p0).1 = 0 ∧ ∀ X, LBD t e (PI t e p0).2 (X, dD 38, PID t e p0) = LBD t e a (X, Y, P)
def CQZ (t : Int → Int) (e lb : Nat) (m m' : Nat → Nat → Int32) (p0 a : Int) : Prop := ∃ X, RQ 124 lb m m' (2 * e + 4) X (a - p0) ∧ ((PI t e a).1 = 0 → CND_ t e p0 = LBD t e (PI t e a).2 (X, dD 38, PID t e a))
def CRZ (t : Int → Int) (e lb : Nat) (m m' : Nat → Nat → Int32) (p0 a : Int) : Prop := ∃ X Y P, RP 124 lb m m' (2 * e + 4) X (lD 38 Y P) (a - p0) ∧ CND_ t e p0 = LBD t e a (X, Y, P)
section TZ
variable {t : Int → Int} {e lb : Nat} {m m1 m2 m3 m4 : Nat → Nat → Int32} {p0 a q en db : Int} {s : Int} {o : Int32}
theorem TMZ_0 (h : CDS lb m m1 (2 * e + 1) (FAD t e p0) (a - p0)) (k : FA t e p0 = (0, a)) : TMZ t e lb m m1 p0 a := ⟨by rw [k], _, h.wk (by omega) (Int.le_refl _), fun h => by rw [k]⟩
theorem TMZ_s (h : TMZ t e lb m m1 p0 a) (ht : TXT t en) (ha : 0 ≤ a) (hT : isT (t a) = true) (k : FA t e (a + 1) = (0, q)) (s1 : SAML lb m1 m2) (h2 : CDS lb m2 m3 (2 * e + 1) (FAD t e (a + 1)) db) (em : EMT lb m3 m4 s 0) (hs : s = t a) (hd : db + 1 ≤ q - a) : TMZ t e lb m m4 p0 q := by
  obtain ⟨h0, x, c, hx⟩ := h
  subst hs
  refine ⟨h0, _, (c.op (h2.pre s1 (Int.le_refl _)) em (isO_t hT) (dc := q - p0) (by omega) (by omega)).wk (by omega) (Int.le_refl _), fun h => ?_⟩
  rw [hx h, LSD_t ht ha hT k]
theorem SMZ_0 (h : TMZ t e lb m m1 p0 a) : SMZ t e lb m m1 p0 a := by
  obtain ⟨h0, x, c, hx⟩ := h
  exact ⟨x, c.wk (by omega) (Int.le_refl _), hx iD⟩
theorem SMZ_s (h : SMZ t e lb m m1 p0 a) (ht : TXT t en) (ha : 0 ≤ a) (hS : isS (t a) = true) (hT : isT (t a) = false) (s1 : SAML lb m1 m2) (h2 : TMZ t e lb m2 m3 (a + 1) q) (em : EMT lb m3 m4 s 0) (hs : s = t a) (ho : isO s) (hq : isT (t q) = false) : SMZ t e lb m m4 p0 q := by
  obtain ⟨x, c, hx⟩ := h
  obtain ⟨k0, y, d, hy⟩ := h2
  subst hs
  refine ⟨_, c.op (d.pre s1 (Int.le_refl _)) em ho (dc := q - p0) (by omega) (by omega), ?_⟩
  rw [hx, LSD_s ht ha hS hT (pr_0 k0)]
  show LSD t (FA t e) (FAD t e) (FA t e (a + 1)).2 (jD (t a) x, FAD t e (a + 1)) = _
  rw [hy, LSD_m hq]
  rfl
theorem SMZ_e (h : SMZ t e lb m m1 p0 a) (hS : isS (t a) = false) : CDS lb m m1 (2 * e + 3) (SUD t e p0) (a - p0) := by
  obtain ⟨x, c, hx⟩ := h
  rw [hx, LSD_no hS]
  exact c
theorem PQZ_0 (h0 : 0 ≤ (m lb 2).toInt) : PQZ t e lb m m p0 p0 := ⟨dD 38, RQ.start (Or.inr rfl) h0 (by omega), fun h => ⟨h, fun _ => rfl⟩⟩
theorem PQZ_p (h : PQZ t e lb m m1 p0 a) (k : PI t e a = (0, q)) (c : CDS lb m1 m2 (2 * e + 4) (PID t e a) (q - a)) : PRZ t e lb m m2 p0 q := by
  obtain ⟨Y, r, h⟩ := h
  obtain ⟨h1, h2⟩ := h (by rw [k])
  exact ⟨Y, _, r.piece c (by omega), h1, fun X => by rw [h2 X, k]⟩
theorem PRZ_l (h : PRZ t e lb m m1 p0 a) (ht : TXT t en) (ha : 0 ≤ a) (h38 : t a = 38) (em : EMT lb m1 m2 38 o) (ho : o.toInt = -1) (s1 : SAML lb m2 m3) (hq : q = a + 1) : PQZ t e lb m m3 p0 q := by
  obtain ⟨Y, P, r, h1, h2⟩ := h
  subst hq
  refine ⟨_, (r.leap (Or.inr rfl) em ho (db := a + 1 - p0) (by omega) (by omega)).post s1 (Int.le_refl _), fun k => ⟨h1, fun X => ?_⟩⟩
  rw [h2 X, LBD_a ht ha h38 (pr_0 k)]
theorem PRZ_e {f0 : Int} (h : PRZ t e lb m m1 p0 a) (d : AIMD lb m1 m2 38 f0) (hf : f0 = (m lb 2).toInt) : PTZ t e lb m m2 p0 a := by
  obtain ⟨Y, P, r, h1, h2⟩ := h
  exact ⟨Y, P, r.fin d hf, h1, h2⟩
theorem CQZ_0 (h0 : 0 ≤ (m lb 2).toInt) : CQZ t e lb m m p0 p0 := ⟨dD 124, RQ.start (Or.inl rfl) h0 (by omega), fun _ => rfl⟩
theorem CQZ_p (h : CQZ t e lb m m1 p0 a) (k : PTZ t e lb m1 m2 a q) : CRZ t e lb m m2 p0 q := by
  obtain ⟨X, r, h⟩ := h
  obtain ⟨Y, P, c, k1, k2⟩ := k
  exact ⟨X, Y, P, r.piece c (by omega), by rw [h k1, k2 X]⟩
theorem CRZ_l (h : CRZ t e lb m m1 p0 a) (ht : TXT t en) (ha : 0 ≤ a) (h124 : t a = 124) (em : EMT lb m1 m2 124 o) (ho : o.toInt = -1) (s1 : SAML lb m2 m3) (hq : q = a + 1) : CQZ t e lb m m3 p0 q := by
  obtain ⟨X, Y, P, r, h⟩ := h
  subst hq
  refine ⟨_, (r.leap (Or.inl rfl) em ho (db := a + 1 - p0) (by omega) (by omega)).post s1 (Int.le_refl _), fun k => ?_⟩
  rw [h, LBD_o ht ha h124 (pr_0 k)]
theorem CRZ_e {f0 : Int} (h : CRZ t e lb m m1 p0 a) (hB : isB (t a) = false) (d : AIMD lb m1 m2 124 f0) (hf : f0 = (m lb 2).toInt) : CDS lb m m2 (2 * e + 4) (CND_ t e p0) (a - p0) := by
  obtain ⟨X, Y, P, r, h⟩ := h
  rw [h, LBD_no hB]
  exact r.fin d hf
end TZ
section TB
variable {t : Int → Int} {e lb w : Nat} {m m1 : Nat → Nat → Int32} {p0 a da : Int} {D : MD}
theorem CDS_b (h : CDS lb m m1 w D da) : 0 ≤ (m lb 2).toInt ∧ (m lb 2).toInt ≤ (m1 lb 2).toInt ∧ (m1 lb 2).toInt - (m lb 2).toInt ≤ da := ⟨h.1, h.2.1, h.2.2.1⟩
theorem TMZ_b (h : TMZ t e lb m m1 p0 a) : 0 ≤ (m lb 2).toInt ∧ (m lb 2).toInt ≤ (m1 lb 2).toInt ∧ (m1 lb 2).toInt - (m lb 2).toInt ≤ a - p0 := by
  obtain ⟨-, x, c, -⟩ := h
  exact CDS_b c
theorem SMZ_b (h : SMZ t e lb m m1 p0 a) : 0 ≤ (m lb 2).toInt ∧ (m lb 2).toInt ≤ (m1 lb 2).toInt ∧ (m1 lb 2).toInt - (m lb 2).toInt ≤ a - p0 := by
  obtain ⟨x, c, -⟩ := h
  exact CDS_b c
theorem PQZ_b (h : PQZ t e lb m m1 p0 a) : 0 ≤ (m lb 2).toInt ∧ (m lb 2).toInt ≤ (m1 lb 2).toInt ∧ (m1 lb 2).toInt - (m lb 2).toInt ≤ a - p0 := by
  obtain ⟨x, c, -⟩ := h
  exact ⟨c.1, c.2.1, c.2.2.1⟩
theorem PRZ_b (h : PRZ t e lb m m1 p0 a) : 0 ≤ (m lb 2).toInt ∧ (m lb 2).toInt ≤ (m1 lb 2).toInt ∧ (m1 lb 2).toInt - (m lb 2).toInt ≤ a - p0 := by
  obtain ⟨x, y, c, -⟩ := h
  exact ⟨c.1, c.2.1, c.2.2.1⟩
theorem CQZ_b (h : CQZ t e lb m m1 p0 a) : 0 ≤ (m lb 2).toInt ∧ (m lb 2).toInt ≤ (m1 lb 2).toInt ∧ (m1 lb 2).toInt - (m lb 2).toInt ≤ a - p0 := by
  obtain ⟨x, c, -⟩ := h
  exact ⟨c.1, c.2.1, c.2.2.1⟩
theorem CRZ_b (h : CRZ t e lb m m1 p0 a) : 0 ≤ (m lb 2).toInt ∧ (m lb 2).toInt ≤ (m1 lb 2).toInt ∧ (m1 lb 2).toInt - (m lb 2).toInt ≤ a - p0 := by
  obtain ⟨x, y, z, c, -⟩ := h
  exact ⟨c.1, c.2.1, c.2.2.1⟩
end TB
/-! the reference's reader, with what its codes mean -/
def cmN (m : Nat → Nat → Int32) : Nat := (m 123 16).toInt.toNat
def wtN (m : Nat → Nat → Int32) : Nat := (m 123 17).toInt.toNat
def KCC (m m' : Nat → Nat → Int32) : Prop := (m 123 16).toInt ≤ (m' 123 16).toInt ∧ ∀ k, k < cmN m → m' 130 k = m 130 k
theorem KCC.rf {m : Nat → Nat → Int32} : KCC m m := ⟨Int.le_refl _, fun _ _ => rfl⟩
theorem KCC.trans {m m1 m2 : Nat → Nat → Int32} (h : KCC m m1) (k : KCC m1 m2) : KCC m m2 := ⟨Int.le_trans h.1 k.1, fun j hj => (k.2 j (by have := h.1; unfold cmN at hj ⊢; omega)).trans (h.2 j hj)⟩
def SBM (t : Int → Int) (w0 e0 b0 : Nat) (m : Nat → Nat → Int32) (TG : MD) : Prop := SBf t (m 130) (m 131) w0 e0 b0 (wtN m) (eo (m 123 15).toInt) (cmN m) (m 123 12).toInt TG
def SAM (t : Int → Int) (w0 e0 b0 : Nat) (m : Nat → Nat → Int32) (TG : MD) : Prop := SA t (m 130) (m 131) w0 e0 b0 (wtN m) (eo (m 123 15).toInt) (cmN m) (m 123 12).toInt TG
/-- those that waited last are written -/
def CSX (m m' : Nat → Nat → Int32) : Prop := (m' 123 17).toInt ≤ (m 123 17).toInt ∧ 0 ≤ (m' 123 17).toInt ∧ (m' 123 16).toInt = (m 123 16).toInt + ((m 123 17).toInt - (m' 123 17).toInt) ∧ (∀ i : Nat, (i : Int) < (m 123 17).toInt - (m' 123 17).toInt → opv (m' 130 (cmN m + i)) = opv (m 131 (wtN m - 1 - i))) ∧ ∀ k, k < cmN m → m' 130 k = m 130 k
theorem CSX.start {m : Nat → Nat → Int32} (h : 0 ≤ (m 123 17).toInt) : CSX m m := ⟨Int.le_refl _, h, by omega, fun i hi => by omega, fun _ _ => rfl⟩
theorem CSX.step {op : Int} {m0 m m2 m3 : Nat → Nat → Int32} (h : CSX m0 m) (h0 : 1 ≤ (m 123 17).toInt) (hc : 0 ≤ (m0 123 16).toInt) (hop : op = opv (m 131 ((m 123 17).toInt - 1).toNat)) (h1 : ∀ j, m 131 j = m0 131 j) (n : NOTE op 0 m m2) (e0 : ∀ j, m3 130 j = m2 130 j) (e6 : m3 123 16 = m2 123 16) (hz : (m3 123 17).toInt = (m 123 17).toInt - 1) : CSX m0 m3 := by
  obtain ⟨a1, a2, a3, a4, a5⟩ := h
  obtain ⟨u, w, e, hu, hw⟩ := n
  have f16 : (m3 123 16).toInt = (m 123 16).toInt + 1 := by rw [e6, e, up2_f]; exact hw
  have f130 : ∀ j, j ≠ (m 123 16).toInt.toNat → m3 130 j = m 130 j := fun j hj => by rw [e0, e, up2_ne (by omega), up2_ne (by omega)]
  have f1 : m3 130 (m 123 16).toInt.toNat = u := by rw [e0, e, up2_ne (by omega), up2_f]
  refine ⟨by omega, by omega, by omega, fun i hi => ?_, fun k hk => ?_⟩
  · by_cases z : cmN m0 + i = (m 123 16).toInt.toNat
    · rw [z, f1, show opv u = op by unfold opv; omega, hop, h1]
      congr 1
      congr 1
      unfold wtN
      unfold cmN at z
      omega
    · rw [f130 _ z]
      exact a4 i (by unfold cmN at z; omega)
  · rw [f130 k (by unfold cmN at hk; omega)]
    exact a5 k hk
section RM
variable {t : Int → Int} {f W f' : Nat → Int32} {m0 m m1 m2 m3 m4 : Nat → Nat → Int32} {w0 e0 b0 w e c : Nat} {p q en : Int} {TG : MD}
theorem SA_cs (s : SA t f W w0 e0 b0 w e c q TG) (hf : ∀ x, x < c → f' x = f x) : ∀ k : Nat, w0 + k ≤ w → (∀ i, i < k → opv (f' (c + i)) = opv (W (w - 1 - i))) → (∀ i, i < k → (4 ≤ opv (W (w - 1 - i)) ∧ opv (W (w - 1 - i)) ≤ 6) ∨ (isT (t q) = false ∧ (opv (W (w - 1 - i)) = 2 ∨ opv (W (w - 1 - i)) = 3))) → SA t f' W w0 e0 b0 (w - k) e (c + k) q TG
  | 0, _, _, _ => SA_eq hf (fun _ _ => rfl) s
  | k + 1, hk, h1, h2 => by
    have s1 := SA_cs s hf k (by omega) (fun i hi => h1 i (by omega)) (fun i hi => h2 i (by omega))
    rw [show w - k = w - (k + 1) + 1 by omega] at s1
    have e1 := h1 k (by omega)
    rw [show w - 1 - k = w - (k + 1) by omega] at e1
    have e2 := h2 k (by omega)
    rw [show w - 1 - k = w - (k + 1) by omega] at e2
    rcases e2 with e2 | e2
    · exact (SA_t s1 e2.1 e2.2 (fun _ _ => rfl) e1 (fun _ _ => rfl)).resolve_right (by omega)
    · exact (SA_p s1 e2.1 e2.2 (fun _ _ => rfl) e1 (fun _ _ => rfl)).resolve_right (by omega)
/-- brackets were opened; a factor was read -/
def FBZ (t : Int → Int) (m m' : Nat → Nat → Int32) : Prop := KCC m m' ∧ ∀ (w0 e0 b0 : Nat) (TG : MD), (FA t (eo (m 123 15).toInt) (m 123 12).toInt).1 = 0 → SBM t w0 e0 b0 m TG → (FA t (eo (m' 123 15).toInt) (m' 123 12).toInt).1 = 0 ∧ SBM t w0 e0 b0 m' TG
def FAZ (t : Int → Int) (m m' : Nat → Nat → Int32) : Prop := KCC m m' ∧ ∀ (w0 e0 b0 : Nat) (TG : MD), (FA t (eo (m 123 15).toInt) (m 123 12).toInt).1 = 0 → SBM t w0 e0 b0 m TG → SAM t w0 e0 b0 m' TG
theorem FBZ_0 : FBZ t m m := ⟨KCC.rf, fun _ _ _ _ h s => ⟨h, s⟩⟩
theorem OPD_130 {what : Int} (h : OPD what m m1) : (∀ j, m1 130 j = m 130 j) ∧ m1 123 16 = m 123 16 := by
  obtain ⟨o, u, w, z, e, -, -, -⟩ := h
  exact ⟨fun j => by rw [e, up2_ne (by omega), up2_ne (by omega), up2_ne (by omega), up2_ne (by omega)], by rw [e, up2_ne (by omega), up2_ne (by omega), up2_ne (by omega), up2_ne (by omega)]⟩
theorem KCC_same (h1 : ∀ j, m1 130 j = m 130 j) (h2 : m1 123 16 = m 123 16) : KCC m m1 := ⟨by rw [h2]; exact Int.le_refl _, fun k _ => h1 k⟩
theorem FBZ_opn (h : FBZ t m0 m) (h0 : 0 ≤ (m 123 17).toInt) (ht : t (m 123 12).toInt = 91) (h6 : (m 123 15).toInt ≤ 5) (ho : OPD 14 m m1) (hO : (m1 123 15).toInt = (m 123 15).toInt + 1) : FBZ t m0 m1 := by
  obtain ⟨a1, a2, a3, a4⟩ := OPD_u ho
  obtain ⟨b1, b2⟩ := OPD_130 ho
  refine ⟨h.1.trans (KCC_same b1 b2), fun w0 e0 b0 TG k s => ?_⟩
  obtain ⟨k1, s1⟩ := h.2 w0 e0 b0 TG k s
  unfold SBM at s1
  have ee := eo_s (o := (m 123 15).toInt) (o2 := (m1 123 15).toInt) h6 hO
  rw [ee] at s1 k1
  have r := SBf_opn (f' := m1 130) (W' := m1 131) s1 ht k1 (fun k _ => b1 k) (fun j hj => a1 j (by unfold wtN at hj; omega)) a2
  unfold SBM
  rw [a4, show wtN m1 = wtN m + 1 by unfold wtN; omega, show cmN m1 = cmN m by unfold cmN; rw [b2]]
  exact ⟨r.2, r.1⟩
theorem NOTE_x {op v : Int} (n : NOTE op v m m1) (h1 : 0 ≤ v) (h2 : v < 1048576) (hc : 0 ≤ (m 123 16).toInt) : (∀ k, k ≠ cmN m → m1 130 k = m 130 k) ∧ opv (m1 130 (cmN m)) = op ∧ agv (m1 130 (cmN m)) = v ∧ (m1 123 16).toInt = (m 123 16).toInt + 1 ∧ (∀ j, m1 131 j = m 131 j) ∧ m1 123 17 = m 123 17 ∧ m1 123 15 = m 123 15 ∧ m1 123 12 = m 123 12 := by
  obtain ⟨u, w, e, hu, hw⟩ := n
  refine ⟨fun k hk => by rw [e, up2_ne (by omega), up2_ne (by unfold cmN at hk; omega)], ?_, ?_, by rw [e, up2_f]; exact hw, fun j => by rw [e, up2_ne (by omega), up2_ne (by omega)], by rw [e, up2_ne (by omega), up2_ne (by omega)], by rw [e, up2_ne (by omega), up2_ne (by omega)], by rw [e, up2_ne (by omega), up2_ne (by omega)]⟩
  · rw [show m1 130 (cmN m) = u by rw [e, up2_ne (by omega)]; exact up2_f]
    exact (NOTE_op hu h1 h2).1
  · rw [show m1 130 (cmN m) = u by rw [e, up2_ne (by omega)]; exact up2_f]
    exact (NOTE_op hu h1 h2).2
/-- a number's code -/
theorem FAZ_num {v : Int} (h : FBZ t m0 m) (hc : 0 ≤ (m 123 16).toInt) (hn : t (m 123 12).toInt ≠ 91) (hd : dig (t (m 123 12).toInt) = true) (ha : atom t (m 123 12).toInt = (0, (m2 123 12).toInt)) (e0 : ∀ j, m1 130 j = m 130 j) (e1 : ∀ j, m1 131 j = m 131 j) (e6 : m1 123 16 = m 123 16) (e7 : m1 123 17 = m 123 17) (e5 : (m1 123 15).toInt = (m 123 15).toInt) (hv : v = ndv t 5 (m 123 12).toInt 0) (v1 : 0 ≤ v) (v2 : v < 1048576) (n : NOTE 0 v m1 m2) : FAZ t m0 m2 := by
  obtain ⟨n1, n2, n3, n4, n5, n6, n7, n8⟩ := NOTE_x n v1 v2 (by rw [e6]; exact hc)
  have ec : cmN m1 = cmN m := by unfold cmN; rw [e6]
  rw [ec] at n1 n2 n3
  have e16 : (m1 123 16).toInt = (m 123 16).toInt := by rw [e6]
  refine ⟨h.1.trans ⟨by omega, fun k hk => (n1 k (by omega)).trans (e0 k)⟩, fun w0 e0' b0 TG k s => ?_⟩
  obtain ⟨k1, s1⟩ := h.2 w0 e0' b0 TG k s
  unfold SBM at s1
  have mm : MNR (m2 130) (cmN m) (cmN m + 1) (atD t (m 123 12).toInt) := by
    have q := MNR_num (f := m2 130) (a := cmN m) n2
    rw [n3, hv] at q
    rw [atD_num hd]
    exact q
  have r := SBf_at (f' := m2 130) (W' := m2 131) s1 hn ((FA_atom hn).trans ha) (fun k hk => (n1 k (by omega)).trans (e0 k)) (fun j _ => (n5 j).trans (e1 j)) mm
  unfold SAM
  rw [show wtN m2 = wtN m by unfold wtN; rw [n6, e7], show cmN m2 = cmN m + 1 by unfold cmN; omega, n7, e5]
  exact r
/-- a name's code -/
theorem FAZ_nam {v : Int} {z : Int32} (h : FBZ t m0 m) (hc : 0 ≤ (m 123 16).toInt) (hn : t (m 123 12).toInt ≠ 91) (hd : dig (t (m 123 12).toInt) = false) (ha : nam (t (m 123 12).toInt) = true) (hv : v = nix (t (m 123 12).toInt)) (v1 : 0 ≤ v) (v2 : v < 1048576) (n : NOTE 1 v m m1) (e : m2 = up2 m1 123 12 z) (hz : z.toInt = (m 123 12).toInt + 1) : FAZ t m0 m2 := by
  obtain ⟨n1, n2, n3, n4, n5, n6, n7, n8⟩ := NOTE_x n v1 v2 hc
  have f0 : ∀ j, m2 130 j = m1 130 j := fun j => by rw [e, up2_ne (by omega)]
  have f1 : ∀ j, m2 131 j = m1 131 j := fun j => by rw [e, up2_ne (by omega)]
  have f6 : m2 123 16 = m1 123 16 := by rw [e, up2_ne (by omega)]
  have f7 : m2 123 17 = m1 123 17 := by rw [e, up2_ne (by omega)]
  have f5 : m2 123 15 = m1 123 15 := by rw [e, up2_ne (by omega)]
  have f2 : (m2 123 12).toInt = (m 123 12).toInt + 1 := by rw [e, up2_f]; exact hz
  have e16 : (m2 123 16).toInt = (m1 123 16).toInt := by rw [f6]
  refine ⟨h.1.trans ⟨by omega, fun k hk => (f0 k).trans (n1 k (by omega))⟩, fun w0 e0' b0 TG k s => ?_⟩
  obtain ⟨k1, s1⟩ := h.2 w0 e0' b0 TG k s
  unfold SBM at s1
  have mm : MNR (m2 130) (cmN m) (cmN m + 1) (atD t (m 123 12).toInt) := by
    rw [atD_nam hd]
    exact MNR_nam (f := m2 130) (a := cmN m) (by rw [f0]; exact n2) (by rw [f0, n3]; omega)
  have r := SBf_at (f' := m2 130) (W' := m2 131) s1 hn ((FA_atom hn).trans (AT_nam hd ha)) (fun k hk => (f0 k).trans (n1 k (by omega))) (fun j _ => (f1 j).trans (n5 j)) mm
  unfold SAM
  rw [show wtN m2 = wtN m by unfold wtN; rw [f7, n6], show cmN m2 = cmN m + 1 by unfold cmN; omega, f5, n7, f2]
  exact r
/-- inside a sum -/
def SUZ (t : Int → Int) (m m' : Nat → Nat → Int32) : Prop := KCC m m' ∧ ((SU t (eo (m 123 15).toInt) (m 123 12).toInt).1 = 0 → SAM t (wtN m) (eo (m 123 15).toInt) (cmN m) m' (SUD t (eo (m 123 15).toInt) (m 123 12).toInt))
theorem SUZ_0 (h : FAZ t m m1) : SUZ t m m1 := ⟨h.1, fun k => h.2 _ _ _ _ (bnd_1 k) SBf_0⟩
/-- what was closed -/
theorem SAM_cs (s : SAM t w0 e0 b0 m TG) (h : CSX m m1) (hw : (w0 : Int) ≤ (m1 123 17).toInt) (hp : ∀ i : Nat, (i : Int) < (m 123 17).toInt - (m1 123 17).toInt → (4 ≤ opv (m 131 (wtN m - 1 - i)) ∧ opv (m 131 (wtN m - 1 - i)) ≤ 6) ∨ (isT (t (m 123 12).toInt) = false ∧ (opv (m 131 (wtN m - 1 - i)) = 2 ∨ opv (m 131 (wtN m - 1 - i)) = 3))) (h0 : 0 ≤ (m 123 16).toInt) : SA t (m1 130) (m 131) w0 e0 b0 (wtN m1) (eo (m 123 15).toInt) (cmN m1) (m 123 12).toInt TG := by
  obtain ⟨a1, a2, a3, a4, a5⟩ := h
  have r := SA_cs (f' := m1 130) s a5 ((m 123 17).toInt - (m1 123 17).toInt).toNat (by unfold wtN; omega) (fun i hi => a4 i (by omega)) (fun i hi => hp i (by omega))
  rw [show wtN m - ((m 123 17).toInt - (m1 123 17).toInt).toNat = wtN m1 by unfold wtN; omega, show cmN m + ((m 123 17).toInt - (m1 123 17).toInt).toNat = cmN m1 by unfold cmN; omega] at r
  exact r
/-- a sign, and the factor behind it: m1 what stands when the signs are closed, m2 when the sign waits and is passed -/
theorem SUZ_sign {s0 : Int} (h : SUZ t m0 m) (ki : KI t (m0 123 15).toInt (m0 123 12).toInt (m 123 15).toInt (m 123 12).toInt) (ht : TXT t en) (hp0 : 0 ≤ (m 123 12).toInt) (hs : isS (t (m 123 12).toInt) = true) (h0 : 0 ≤ (m 123 16).toInt)
    (k : CSX m m1) (hw : (m0 123 17).toInt ≤ (m1 123 17).toInt) (hw0 : 0 ≤ (m0 123 17).toInt) (hp : ∀ i : Nat, (i : Int) < (m 123 17).toInt - (m1 123 17).toInt → (4 ≤ opv (m 131 (wtN m - 1 - i)) ∧ opv (m 131 (wtN m - 1 - i)) ≤ 6) ∨ (isT (t (m 123 12).toInt) = false ∧ (opv (m 131 (wtN m - 1 - i)) = 2 ∨ opv (m 131 (wtN m - 1 - i)) = 3)))
    (w1 : ∀ j : Nat, (j : Int) < (m1 123 17).toInt → m2 131 j = m 131 j) (w2 : opv (m2 131 (wtN m1)) = s0) (w3 : (m2 123 17).toInt = (m1 123 17).toInt + 1) (c1 : ∀ j, m2 130 j = m1 130 j) (c2 : m2 123 16 = m1 123 16) (o1 : (m2 123 15).toInt = (m 123 15).toInt) (p1 : (m2 123 12).toInt = (m 123 12).toInt + 1)
    (htop : (isT (t (m 123 12).toInt) = true ∧ 4 ≤ s0 ∧ s0 ≤ 6 ∧ ((m1 123 17).toInt = 0 ∨ ¬ (4 ≤ opv (m 131 (wtN m1 - 1)) ∧ opv (m 131 (wtN m1 - 1)) ≤ 6))) ∨ (isT (t (m 123 12).toInt) = false ∧ (s0 = 2 ∨ s0 = 3) ∧ ((m1 123 17).toInt = 0 ∨ ¬ (2 ≤ opv (m 131 (wtN m1 - 1)) ∧ opv (m 131 (wtN m1 - 1)) ≤ 6)))) (hsg : opc s0 = t (m 123 12).toInt)
    (fz : FAZ t m2 m3) : SUZ t m0 m3 := by
  have kc1 : KCC m m1 := ⟨by have := k.2.2.1; have := k.1; omega, k.2.2.2.2⟩
  have kc2 : KCC m1 m2 := KCC_same c1 c2
  refine ⟨((h.1.trans kc1).trans kc2).trans fz.1, fun ok => ?_⟩
  have s1 := SAM_cs (h.2 ok) k (by unfold wtN; omega) hp h0
  have okf : (FA t (eo (m 123 15).toInt) ((m 123 12).toInt + 1)).1 = 0 := by
    rw [ki.2.2, KSu_sign ht hp0 hs] at ok
    exact bnd_1 ok
  have hm1 : 0 ≤ (m1 123 17).toInt := k.2.1
  have r : SBf t (m2 130) (m2 131) (wtN m0) (eo (m0 123 15).toInt) (cmN m0) (wtN m1 + 1) (eo (m 123 15).toInt) (cmN m1) ((m 123 12).toInt + 1) (SUD t (eo (m0 123 15).toInt) (m0 123 12).toInt) := by
    rcases htop with ⟨z1, z2, z3, z4⟩ | ⟨z1, z2, z3⟩
    · refine SA_st s1 ht hp0 z1 ?_ okf (fun j _ => c1 j) (fun j hj => w1 j (by unfold wtN at hj; omega)) w2 z2 z3 hsg
      rcases z4 with z4 | z4
      · left; unfold wtN; omega
      · exact Or.inr z4
    · refine SA_sp s1 ht hp0 hs z1 ?_ okf (fun j _ => c1 j) (fun j hj => w1 j (by unfold wtN at hj; omega)) w2 z2 hsg
      rcases z3 with z4 | z4
      · left; unfold wtN; omega
      · exact Or.inr z4
  refine fz.2 _ _ _ _ (by rw [o1, p1]; exact okf) ?_
  unfold SBM
  rw [show wtN m2 = wtN m1 + 1 by unfold wtN; omega, o1, show cmN m2 = cmN m1 by unfold cmN; rw [c2], p1]
  exact r
/-- a bracket is closed -/
theorem SUZ_close (h : SUZ t m0 m) (h93 : t (m 123 12).toInt = 93) (h0 : 0 ≤ (m 123 16).toInt) (k : CSX m m1) (hw : (m0 123 17).toInt + 1 ≤ (m1 123 17).toInt) (hw0 : 0 ≤ (m0 123 17).toInt) (hp : ∀ i : Nat, (i : Int) < (m 123 17).toInt - (m1 123 17).toInt → 2 ≤ opv (m 131 (wtN m - 1 - i)) ∧ opv (m 131 (wtN m - 1 - i)) ≤ 6) (h14 : opv (m 131 (wtN m1 - 1)) = 14)
    (w1 : ∀ j : Nat, m2 131 j = m 131 j) (w3 : (m2 123 17).toInt = (m1 123 17).toInt - 1) (c1 : ∀ j, m2 130 j = m1 130 j) (c2 : m2 123 16 = m1 123 16) (o0 : 1 ≤ (m 123 15).toInt) (o6 : (m 123 15).toInt ≤ 6) (o1 : (m2 123 15).toInt = (m 123 15).toInt - 1) (p1 : (m2 123 12).toInt = (m 123 12).toInt + 1) : SUZ t m0 m2 := by
  have kc1 : KCC m m1 := ⟨by have := k.2.2.1; have := k.1; omega, k.2.2.2.2⟩
  have hT : isT (t (m 123 12).toInt) = false := by rw [h93]; decide
  refine ⟨(h.1.trans kc1).trans (KCC_same c1 c2), fun ok => ?_⟩
  have s1 := SAM_cs (h.2 ok) k (by unfold wtN; omega) (fun i hi => by
    have q := hp i hi
    by_cases z : 4 ≤ opv (m 131 (wtN m - 1 - i))
    · exact Or.inl ⟨z, q.2⟩
    · exact Or.inr ⟨hT, by omega⟩) h0
  rw [show wtN m1 = wtN m1 - 1 + 1 by unfold wtN; omega] at s1
  have r := (SA_cl (f' := m2 130) (W' := m2 131) s1 h14 h93 (fun j _ => c1 j) (fun j _ => w1 j)).resolve_right (by unfold wtN; omega)
  unfold SAM
  rw [show wtN m2 = wtN m1 - 1 by unfold wtN; omega, show cmN m2 = cmN m1 by unfold cmN; rw [c2], p1, eo_s (o := (m2 123 15).toInt) (o2 := (m 123 15).toInt) (by omega) (by omega)]
  exact r
/-- the end of a sum -/
theorem SUZ_end (h : SUZ t m0 m) (ok : SU t (eo (m0 123 15).toInt) (m0 123 12).toInt = (0, p)) (hS : isS (t (m 123 12).toInt) = false) (h0 : 0 ≤ (m 123 16).toInt) (k : CSX m m1) (hw : (m1 123 17).toInt = (m0 123 17).toInt) (hw0 : 0 ≤ (m0 123 17).toInt) (hp : ∀ i : Nat, (i : Int) < (m 123 17).toInt - (m1 123 17).toInt → 2 ≤ opv (m 131 (wtN m - 1 - i)) ∧ opv (m 131 (wtN m - 1 - i)) ≤ 6) : KCC m0 m1 ∧ MNR (m1 130) (cmN m0) (cmN m1) (SUD t (eo (m0 123 15).toInt) (m0 123 12).toInt) := by
  have kc1 : KCC m m1 := ⟨by have := k.2.2.1; have := k.1; omega, k.2.2.2.2⟩
  have hT : isT (t (m 123 12).toInt) = false := by
    cases z : isT (t (m 123 12).toInt) with
    | false => rfl
    | true => rw [isT_S z] at hS; cases hS
  refine ⟨h.1.trans kc1, ?_⟩
  have s1 := SAM_cs (h.2 (by rw [ok])) k (by unfold wtN; omega) (fun i hi => by
    have q := hp i hi
    by_cases z : 4 ≤ opv (m 131 (wtN m - 1 - i))
    · exact Or.inl ⟨z, q.2⟩
    · exact Or.inr ⟨hT, by omega⟩) h0
  rw [show wtN m1 = wtN m0 by unfold wtN; omega] at s1
  exact SA_e s1 hS
end RM
/-! the reference's conditions, with what their codes mean -/
def PBM (t : Int → Int) (b0 : Nat) (m : Nat → Nat → Int32) (TG : MD) : Prop := PB t (m 130) (m 131) b0 (wtN m) (eo (m 123 15).toInt) (cmN m) (m 123 12).toInt TG
def PAM (t : Int → Int) (b0 : Nat) (m : Nat → Nat → Int32) (TG : MD) : Prop := PA t (m 130) (m 131) b0 (wtN m) (eo (m 123 15).toInt) (cmN m) (m 123 12).toInt TG
/-- codes c0 to c mean D -/
def SRZ (m m' : Nat → Nat → Int32) (D : MD) : Prop := KCC m m' ∧ MNR (m' 130) (cmN m) (cmN m') D
/-- a comparison was read -/
def CPZ (t : Int → Int) (m m' : Nat → Nat → Int32) : Prop := KCC m m' ∧ ∀ (b0 : Nat) (TG : MD), t (m 123 12).toInt ≠ 33 → t (m 123 12).toInt ≠ 40 → PBM t b0 m TG → PAM t b0 m' TG
section RN
variable {t : Int → Int} {f W f' : Nat → Int32} {m0 m m1 m2 m3 m4 m5 : Nat → Nat → Int32} {w0 e0 b0 w e c : Nat} {p q en : Int} {TG D : MD}
/-- the NOTs that wait are written -/
theorem PA_ns (s : PA t f W b0 w e c q TG) (hf : ∀ x, x < c → f' x = f x) : ∀ k : Nat, k ≤ w → (∀ i, i < k → opv (f' (c + i)) = opv (W (w - 1 - i))) → (∀ i, i < k → opv (W (w - 1 - i)) = 10) → PA t f' W b0 (w - k) (e + k) (c + k) q TG
  | 0, _, _, _ => PA_eq hf (fun _ _ => rfl) s
  | k + 1, hk, h1, h2 => by
    have s1 := PA_ns s hf k (by omega) (fun i hi => h1 i (by omega)) (fun i hi => h2 i (by omega))
    rw [show w - k = w - (k + 1) + 1 by omega] at s1
    have e1 := h1 k (by omega)
    rw [show w - 1 - k = w - (k + 1) by omega] at e1
    have e2 := h2 k (by omega)
    rw [show w - 1 - k = w - (k + 1) by omega] at e2
    exact PA_not s1 e2 (fun _ _ => rfl) (e1.trans e2) (fun _ _ => rfl)
theorem PAM_ns (s : PAM t b0 m TG) (h : CSX m m1) (h0 : 0 ≤ (m 123 16).toInt) (hp : ∀ i : Nat, (i : Int) < (m 123 17).toInt - (m1 123 17).toInt → opv (m 131 (wtN m - 1 - i)) = 10) (h1 : ∀ j, m1 131 j = m 131 j) (hO : (m1 123 15).toInt - (m1 123 17).toInt = (m 123 15).toInt - (m 123 17).toInt) (h6 : (m 123 15).toInt ≤ 6) (hP : (m1 123 12).toInt = (m 123 12).toInt) : PAM t b0 m1 TG := by
  obtain ⟨a1, a2, a3, a4, a5⟩ := h
  have r := PA_ns (f' := m1 130) s a5 ((m 123 17).toInt - (m1 123 17).toInt).toNat (by unfold wtN; omega) (fun i hi => a4 i (by omega)) (fun i hi => hp i (by omega))
  rw [show wtN m - ((m 123 17).toInt - (m1 123 17).toInt).toNat = wtN m1 by unfold wtN; omega, show cmN m + ((m 123 17).toInt - (m1 123 17).toInt).toNat = cmN m1 by unfold cmN; omega, show eo (m 123 15).toInt + ((m 123 17).toInt - (m1 123 17).toInt).toNat = eo (m1 123 15).toInt by unfold eo; omega] at r
  exact PA_eq (W' := m1 131) (fun _ _ => rfl) (fun j _ => h1 j) (by rw [hP]; exact r)
/-- two sums and the sign between them -/
theorem CPZ_of {how : Int} (a : SRZ m m1 (SUD t (eo (m 123 15).toInt) (m 123 12).toInt)) (ka : SU t (eo (m 123 15).toInt) (m 123 12).toInt = (0, (m1 123 12).toInt)) (hC : isC (t (m1 123 12).toInt) = true) (hs : opc how = t (m1 123 12).toInt) (h7 : 7 ≤ how) (h9 : how ≤ 9)
    (c1 : ∀ j, m2 130 j = m1 130 j) (c2 : m2 123 16 = m1 123 16) (o2 : (m2 123 15).toInt = (m 123 15).toInt) (p2 : (m2 123 12).toInt = (m1 123 12).toInt + 1)
    (b : SRZ m2 m3 (SUD t (eo (m2 123 15).toInt) (m2 123 12).toInt)) (kb : SU t (eo (m2 123 15).toInt) (m2 123 12).toInt = (0, (m3 123 12).toInt)) (hc0 : 0 ≤ (m3 123 16).toInt)
    (n : NOTE how 0 m3 m4) (w3 : ∀ j : Nat, (j : Int) < (m 123 17).toInt → m3 131 j = m 131 j) (w4 : (m3 123 17).toInt = (m 123 17).toInt) (o3 : (m3 123 15).toInt = (m 123 15).toInt) : CPZ t m m4 ∧ CM t (eo (m 123 15).toInt) (m 123 12).toInt = (0, (m4 123 12).toInt) := by
  obtain ⟨n1, n2, n3, n4, n5, n6, n7, n8⟩ := NOTE_x n (by omega) (by omega) hc0
  have ec2 : cmN m2 = cmN m1 := by unfold cmN; rw [c2]
  have l1 := a.2.1
  have l2 := b.2.1
  rw [ec2] at l2
  have kc4 : KCC m3 m4 := ⟨by omega, fun k hk => n1 k (by omega)⟩
  have kcx := ((a.1.trans (KCC_same c1 c2)).trans b.1).trans kc4
  have okc : CM t (eo (m 123 15).toInt) (m 123 12).toInt = (0, (m4 123 12).toInt) := by
    rw [CM_ok ka hC, ← p2, ← o2, kb, n8]
  refine ⟨⟨kcx, fun b0 TG h33 h40 s => ?_⟩, okc⟩
  have mA : MNR (m4 130) (cmN m) (cmN m1) (SUD t (eo (m 123 15).toInt) (m 123 12).toInt) := MNR_eq (fun k q1 q2 => ((n1 k (by omega)).trans (b.1.2 k (by omega))).trans (c1 k)) a.2
  have mB : MNR (m4 130) (cmN m1) (cmN m3) (SUD t (eo (m2 123 15).toInt) (m2 123 12).toInt) := by
    have q := MNR_eq (g := m4 130) (fun k q1 q2 => n1 k (by omega)) b.2
    rw [ec2] at q
    exact q
  have mC := MNR_op (o := how) mA mB n2 (by omega) h9
  have eD : jD (opc how) (SUD t (eo (m 123 15).toInt) (m 123 12).toInt) (SUD t (eo (m2 123 15).toInt) (m2 123 12).toInt) = CMD t (eo (m 123 15).toInt) (m 123 12).toInt := by
    rw [CMD_ok ka, hs, o2, p2]
  rw [eD] at mC
  have hB : B1 (CMD t (eo (m 123 15).toInt) (m 123 12).toInt) := by
    rw [CMD_ok ka]
    exact B1_c hC
  have r := PB_cm (f' := m4 130) (W' := m4 131) s h33 h40 okc (fun k hk => kcx.2 k hk) (fun j hj => (n5 j).trans (w3 j (by unfold wtN at hj; omega))) mC hB
  unfold PAM
  rw [show wtN m4 = wtN m by unfold wtN; rw [n6, w4], n7, o3, show cmN m4 = cmN m3 + 1 by unfold cmN; omega]
  exact r
theorem CPZ_ns (a : CPZ t m m1) (h : CSX m1 m2) (h0 : 0 ≤ (m1 123 16).toInt) (hp : ∀ i : Nat, (i : Int) < (m1 123 17).toInt - (m2 123 17).toInt → opv (m1 131 (wtN m1 - 1 - i)) = 10) (h1 : ∀ j, m2 131 j = m1 131 j) (hO : (m2 123 15).toInt - (m2 123 17).toInt = (m1 123 15).toInt - (m1 123 17).toInt) (h6 : (m1 123 15).toInt ≤ 6) (hP : (m2 123 12).toInt = (m1 123 12).toInt) : CPZ t m m2 :=
  ⟨a.1.trans ⟨by have := h.2.2.1; have := h.1; omega, h.2.2.2.2⟩, fun b0 TG k1 k2 s => PAM_ns (a.2 b0 TG k1 k2 s) h h0 hp h1 hO h6 hP⟩
/-- inside a condition: ahead of a piece, behind one -/
def QZ (t : Int → Int) (m m' : Nat → Nat → Int32) : Prop := KCC m m' ∧ ((CND t (m 123 12).toInt).1 = 0 → PBM t (cmN m) m' (CND_ t 5 ((m 123 12).toInt + 1)))
def AZ (t : Int → Int) (m m' : Nat → Nat → Int32) : Prop := KCC m m' ∧ ((CND t (m 123 12).toInt).1 = 0 → PAM t (cmN m) m' (CND_ t 5 ((m 123 12).toInt + 1)))
/-- all that waits in the bracket has landed; r: where its bracket stands -/
def LZ (t : Int → Int) (m m' : Nat → Nat → Int32) : Prop := KCC m m' ∧ 1 ≤ wtN m' ∧ opv (m' 131 (wtN m' - 1)) = 13 ∧ ((CND t (m 123 12).toInt).1 = 0 → PL t (m' 130) (m' 131) (cmN m) (wtN m' - 1) (eo (m' 123 15).toInt) (cmN m') (m' 123 12).toInt (CND_ t 5 ((m 123 12).toInt + 1)))
theorem QZ_0 (k : ∀ j, m1 130 j = m 130 j) (k6 : m1 123 16 = m 123 16) (p1 : (m1 123 12).toInt = (m 123 12).toInt) (h17 : (m1 123 17).toInt = 0) (h15 : (m1 123 15).toInt = 0) (hc : (m 123 16).toInt ≤ 180) (ho : OPD 13 m1 m2) (hO : (m2 123 15).toInt = (m1 123 15).toInt + 1) : QZ t m m2 := by
  obtain ⟨a1, a2, a3, a4⟩ := OPD_u ho
  obtain ⟨b1, b2⟩ := OPD_130 ho
  have ec : cmN m2 = cmN m := by unfold cmN; rw [b2, k6]
  refine ⟨(KCC_same k k6).trans (KCC_same b1 b2), fun _ => ?_⟩
  unfold PBM
  rw [show wtN m2 = 1 by unfold wtN; omega, show eo (m2 123 15).toInt = 5 by unfold eo; omega, ec, a4, p1]
  exact PB_0 (by unfold cmN; omega) (by rw [h17] at a2; exact a2)
theorem QZ_open {what : Int} (h : QZ t m0 m) (kq : QS t (CND t (m0 123 12).toInt) m) (h0 : 0 ≤ (m 123 17).toInt) (hc : (m 123 16).toInt ≤ 180) (hs : (what = 10 ∧ t (m 123 12).toInt = 33) ∨ (what = 13 ∧ t (m 123 12).toInt = 40)) (ho : OPD what m m1) (hO : (m1 123 15).toInt = (m 123 15).toInt + 1) (h6 : (m 123 15).toInt ≤ 5) : QZ t m0 m1 := by
  obtain ⟨a1, a2, a3, a4⟩ := OPD_u ho
  obtain ⟨b1, b2⟩ := OPD_130 ho
  refine ⟨h.1.trans (KCC_same b1 b2), fun ok => ?_⟩
  have s := h.2 ok
  have kk := kq.1.2
  have ok1 : (PI t (eo (m 123 15).toInt) (m 123 12).toInt).1 = 0 := by
    rw [kk] at ok
    exact bnd_1 ok
  unfold PBM at s
  have ee := eo_s (o := (m 123 15).toInt) (o2 := (m1 123 15).toInt) h6 hO
  rw [ee] at s ok1
  unfold PBM
  rw [a4, show wtN m1 = wtN m + 1 by unfold wtN; omega, show cmN m1 = cmN m by unfold cmN; rw [b2]]
  rcases hs with ⟨z1, z2⟩ | ⟨z1, z2⟩
  · exact PB_not s z2 (fun k _ => b1 k) (fun j hj => a1 j (by unfold wtN at hj; omega)) (by rw [← z1]; exact a2)
  · exact (PB_opn s (by unfold cmN; omega) z2 ok1 (fun k _ => b1 k) (fun j hj => a1 j (by unfold wtN at hj; omega)) (by rw [← z1]; exact a2)).1
theorem QZ_cmp (h : QZ t m0 m) (k : CPZ t m m1) (h33 : t (m 123 12).toInt ≠ 33) (h40 : t (m 123 12).toInt ≠ 40) : AZ t m0 m1 := ⟨h.1.trans k.1, fun ok => k.2 _ _ h33 h40 (h.2 ok)⟩
/-- those that waited last land -/
def LDX (m m' : Nat → Nat → Int32) : Prop := (m' 123 17).toInt ≤ (m 123 17).toInt ∧ 0 ≤ (m' 123 17).toInt ∧ (m' 123 16).toInt = (m 123 16).toInt ∧ (∀ j, m' 131 j = m 131 j) ∧ (∀ j : Nat, (m' 123 17).toInt ≤ j → (j : Int) < (m 123 17).toInt → ifv (m 131 j)) ∧ LDP (m 130) (m 131) (m' 130) (wtN m') (wtN m) (cmN m)
theorem LDX.start (h : 0 ≤ (m 123 17).toInt) : LDX m m := ⟨Int.le_refl _, h, rfl, fun _ => rfl, fun j a b => by omega, fun j a b => by omega, fun _ _ => rfl⟩
theorem LDX.step {p : Int} {x u : Int32} (h : LDX m0 m) (h0 : 1 ≤ (m 123 17).toInt) (hf : ifv (m 131 ((m 123 17).toInt - 1).toNat)) (hp : p = agv (m 131 ((m 123 17).toInt - 1).toNat)) (e1 : m1 = up2 m 130 p.toNat x) (hx : x.toInt = 1048576 * ((m 130 p.toNat).toInt / 1048576) + (m 123 16).toInt) (hcm : 0 ≤ (m 123 16).toInt) (hcm2 : (m 123 16).toInt ≤ 1000) (e2 : m2 = up2 m1 123 17 u) (hu : u.toInt = (m 123 17).toInt - 1) : LDX m0 m2 := by
  obtain ⟨a1, a2, a3, a4, a5, a6, a7⟩ := h
  have f17 : (m2 123 17).toInt = (m 123 17).toInt - 1 := by rw [e2, up2_f]; exact hu
  have f16 : (m2 123 16).toInt = (m 123 16).toInt := by rw [e2, up2_ne (by omega), e1, up2_ne (by omega)]
  have f131 : ∀ j, m2 131 j = m0 131 j := fun j => by rw [e2, up2_ne (by omega), e1, up2_ne (by omega)]; exact a4 j
  have f130 : ∀ k, k ≠ p.toNat → m2 130 k = m 130 k := fun k hk => by rw [e2, up2_ne (by omega), e1, up2_ne (by omega)]
  have fx : m2 130 p.toNat = x := by rw [e2, up2_ne (by omega), e1, up2_f]
  have ox : opv x = opv (m 130 p.toNat) ∧ agv x = (m 123 16).toInt := by unfold opv agv; omega
  have ew : wtN m = ((m 123 17).toInt - 1).toNat + 1 := by unfold wtN; omega
  have ew2 : wtN m2 = ((m 123 17).toInt - 1).toNat := by unfold wtN; omega
  rw [a4] at hf hp
  refine ⟨by omega, by omega, by omega, f131, fun j j1 j2 => ?_, fun j j1 j2 => ?_, fun k hk => ?_⟩
  · by_cases z : (m 123 17).toInt ≤ j
    · exact a5 j z j2
    · rw [show j = ((m 123 17).toInt - 1).toNat by omega]; exact hf
  · by_cases zp : (agv (m0 131 j)).toNat = p.toNat
    · rw [zp, fx, ox.1, ox.2]
      refine ⟨?_, by unfold cmN; omega⟩
      by_cases z : wtN m ≤ j
      · have q := (a6 j z j2).1
        rw [zp] at q
        exact q
      · by_cases y : ∃ i, wtN m ≤ i ∧ i < wtN m0 ∧ (agv (m0 131 i)).toNat = p.toNat
        · obtain ⟨i, i1, i2, i3⟩ := y
          have q := (a6 i i1 i2).1
          rw [i3] at q
          exact q
        · rw [a7 p.toNat (fun i i1 i2 i3 => y ⟨i, i1, i2, i3⟩)]
    · rw [f130 _ zp]
      refine a6 j ?_ j2
      by_cases z : wtN m ≤ j
      · exact z
      · exfalso
        rw [show j = ((m 123 17).toInt - 1).toNat by omega, ← hp] at zp
        exact zp rfl
  · rw [f130 k (fun z => hk ((m 123 17).toInt - 1).toNat (by omega) (by unfold wtN; omega) (by rw [← hp, z]))]
    exact a7 k (fun j j1 j2 => hk j (by omega) j2)
theorem LDX.kcc (h : LDX m m1) (hb : ∀ j : Nat, (m1 123 17).toInt ≤ j → (j : Int) < (m 123 17).toInt → (cmN m0 : Int) ≤ agv (m 131 j)) (k : KCC m0 m) : KCC m0 m1 := by
  refine ⟨by have := h.2.2.1; have := k.1; omega, fun i hi => ?_⟩
  rw [h.2.2.2.2.2.2 i (fun j j1 j2 j3 => by have := hb j (by unfold wtN at j1; have := h.2.1; omega) (by unfold wtN at j2; omega); omega)]
  exact k.2 i hi
/-- all land -/
theorem AZ_land (h : AZ t m0 m) (k : LDX m m1) (kc : KCC m0 m1) (h1 : 1 ≤ (m 123 17).toInt) (hc : (m 123 16).toInt ≤ 180) (hz : opv (m 131 ((m 123 17).toInt - 1).toNat) ≠ 10) (ht : (m1 123 17).toInt = 0 ∨ (opv (m1 131 ((m1 123 17).toInt - 1).toNat) ≠ 11 ∧ opv (m1 131 ((m1 123 17).toInt - 1).toNat) ≠ 12)) (hP : (m1 123 12).toInt = (m 123 12).toInt) (hO : (m1 123 15).toInt = (m 123 15).toInt) (hb : 1 ≤ (m1 123 17).toInt) (h13 : opv (m1 131 ((m1 123 17).toInt - 1).toNat) = 13) : LZ t m0 m1 := by
  refine ⟨kc, by unfold wtN; omega, by rw [show wtN m1 - 1 = ((m1 123 17).toInt - 1).toNat by unfold wtN; omega]; exact h13, fun ok => ?_⟩
  have s := h.2 ok
  obtain ⟨a1, a2, a3, a4, a5, a6⟩ := k
  have e1 : ((m1 123 17).toInt - 1).toNat = wtN m1 - 1 := by unfold wtN; omega
  rw [a4, e1] at ht
  obtain ⟨u, u1, u2, r⟩ := PA_la (f' := m1 130) (w2 := wtN m1) s (by unfold wtN; omega) (by unfold cmN; omega) (by rw [show wtN m - 1 = ((m 123 17).toInt - 1).toNat by unfold wtN; omega]; exact hz) a6 (fun j j1 j2 => a5 j (by unfold wtN at j1; omega) (by unfold wtN at j2; omega)) (by unfold wtN; omega) (ht.elim (fun q => Or.inl (by unfold wtN; omega)) Or.inr)
  obtain ⟨n, a, X, Y, P, G1, r1, r2⟩ := r
  rw [show wtN m1 - 1 = u by omega, hP, hO, show cmN m1 = cmN m by unfold cmN; rw [a3]]
  exact ⟨n, a, X, Y, P, G1, PC_eq (fun _ _ => rfl) (fun j _ => a4 j) r1, r2⟩
/-- a bracket is closed -/
theorem LZ_pop (h : LZ t m0 m) (h41 : t (m 123 12).toInt = 41) (h1 : ∀ j, m1 131 j = m 131 j) (h2 : (m1 123 17).toInt = (m 123 17).toInt - 1) (c1 : ∀ j, m1 130 j = m 130 j) (c2 : m1 123 16 = m 123 16) (hP : (m1 123 12).toInt = (m 123 12).toInt + 1) (hO : (m1 123 15).toInt = (m 123 15).toInt - 1) (o1 : 1 ≤ (m 123 15).toInt) (o6 : (m 123 15).toInt ≤ 6) : AZ t m0 m1 := by
  obtain ⟨k, k1, k2, s⟩ := h
  refine ⟨k.trans (KCC_same c1 c2), fun ok => ?_⟩
  have r := PL_cl (f' := m1 130) (W' := m1 131) (s ok) h41 (fun j _ => c1 j) (fun j _ => h1 j)
  unfold PAM
  rw [show wtN m1 = wtN m - 1 by unfold wtN; omega, eo_s (o := (m1 123 15).toInt) (o2 := (m 123 15).toInt) (by omega) (by omega), show cmN m1 = cmN m by unfold cmN; rw [c2], hP]
  exact r
theorem AZ_ns (s : AZ t m0 m) (h : CSX m m1) (h0 : 0 ≤ (m 123 16).toInt) (hp : ∀ i : Nat, (i : Int) < (m 123 17).toInt - (m1 123 17).toInt → opv (m 131 (wtN m - 1 - i)) = 10) (h1 : ∀ j, m1 131 j = m 131 j) (hO : (m1 123 15).toInt - (m1 123 17).toInt = (m 123 15).toInt - (m 123 17).toInt) (h6 : (m 123 15).toInt ≤ 6) (hP : (m1 123 12).toInt = (m 123 12).toInt) : AZ t m0 m1 :=
  ⟨s.1.trans ⟨by have := h.2.2.1; have := h.1; omega, h.2.2.2.2⟩, fun ok => PAM_ns (s.2 ok) h h0 hp h1 hO h6 hP⟩
/-- a jump was written -/
def JPX (op : Int) (m m' : Nat → Nat → Int32) : Prop := (m' 123 17).toInt = (m 123 17).toInt + 1 ∧ (m' 123 16).toInt = (m 123 16).toInt + 1 ∧ (m' 123 12).toInt = (m 123 12).toInt + 1 ∧ (m' 123 15).toInt = (m 123 15).toInt ∧ (∀ j, j ≠ wtN m → m' 131 j = m 131 j) ∧ (∀ k, k ≠ cmN m → m' 130 k = m 130 k) ∧ opv (m' 131 (wtN m)) = op ∧ agv (m' 131 (wtN m)) = cmN m ∧ opv (m' 130 (cmN m)) = op
theorem JPX_of {op : Int} {v u z : Int32} (h0 : 0 ≤ (m 123 17).toInt) (e1 : m1 = up2 m 131 (m 123 17).toInt.toNat v) (hv : v.toInt = 1048576 * op + (m 123 16).toInt) (hcm : 0 ≤ (m 123 16).toInt) (hcm2 : (m 123 16).toInt ≤ 1000) (e2 : m2 = up2 m1 123 17 u) (hu : u.toInt = (m 123 17).toInt + 1) (n : NOTE op 0 m2 m3) (e4 : m4 = up2 m3 123 12 z) (hz : z.toInt = (m 123 12).toInt + 1) : JPX op m m4 := by
  have g16 : m2 123 16 = m 123 16 := by rw [e2, up2_ne (by omega), e1, up2_ne (by omega)]
  obtain ⟨n1, n2, n3, n4, n5, n6, n7, n8⟩ := NOTE_x n (by omega) (by omega) (by rw [g16]; exact hcm)
  have ec : cmN m2 = cmN m := by unfold cmN; rw [g16]
  rw [ec] at n1 n2
  rw [g16] at n4
  have o := NOTE_op (op := op) (v := (m 123 16).toInt) (u := v) hv hcm (by omega)
  refine ⟨by rw [e4, up2_ne (by omega), n6, e2, up2_f]; exact hu, by rw [e4, up2_ne (by omega)]; exact n4, by rw [e4, up2_f]; exact hz, by rw [e4, up2_ne (by omega), n7, e2, up2_ne (by omega), e1, up2_ne (by omega)], fun j hj => ?_, fun k hk => ?_, ?_, ?_, by rw [e4, up2_ne (by omega)]; exact n2⟩
  · rw [e4, up2_ne (by omega), n5, e2, up2_ne (by omega), e1, up2_ne (by unfold wtN at hj; omega)]
  · rw [e4, up2_ne (by omega), n1 k hk, e2, up2_ne (by omega), e1, up2_ne (by omega)]
  · rw [e4, up2_ne (by omega), n5, e2, up2_ne (by omega), e1]
    show opv (up2 m 131 (m 123 17).toInt.toNat v 131 (m 123 17).toInt.toNat) = op
    rw [up2_f]
    exact o.1
  · rw [e4, up2_ne (by omega), n5, e2, up2_ne (by omega), e1]
    show agv (up2 m 131 (m 123 17).toInt.toNat v 131 (m 123 17).toInt.toNat) = _
    rw [up2_f, o.2]
    unfold cmN
    omega
theorem JPX_kcc {op : Int} (j : JPX op m m1) : KCC m m1 := ⟨by have := j.2.1; omega, fun k hk => j.2.2.2.2.2.1 k (by omega)⟩
/-- an | -/
theorem LZ_bar (h : LZ t m0 m) (kq : KQ t (CND t (m0 123 12).toInt) (m1 131) (m1 123 17).toInt (m1 123 15).toInt (m1 123 12).toInt) (hen : TXT t en) (hq : 0 ≤ (m 123 12).toInt) (h124 : t (m 123 12).toInt = 124) (hc0 : 0 ≤ (m 123 16).toInt) (hc : (m 123 16).toInt ≤ 180) (j : JPX 12 m m1) : QZ t m0 m1 := by
  obtain ⟨k, k1, k2, s⟩ := h
  obtain ⟨j1, j2, j3, j4, j5, j6, j7, j8, j9⟩ := j
  refine ⟨k.trans (JPX_kcc ⟨j1, j2, j3, j4, j5, j6, j7, j8, j9⟩), fun ok => ?_⟩
  have ok1 : (PI t (eo (m1 123 15).toInt) (m1 123 12).toInt).1 = 0 := by
    rw [kq.2] at ok
    exact bnd_1 ok
  rw [j3, j4] at ok1
  have ew : wtN m = wtN m - 1 + 1 := by omega
  have r := PL_br (f' := m1 130) (W' := m1 131) (s ok) hen hq h124 ok1 (by unfold cmN; omega) k2 (fun x hx => j6 x (by omega)) (fun x hx => j5 x (by omega)) (by rw [← ew]; exact j7) (by rw [← ew]; exact j8) j9
  unfold PBM
  rw [j3, j4, show wtN m1 = wtN m - 1 + 2 by unfold wtN at k1 ⊢; omega, show cmN m1 = cmN m + 1 by unfold cmN; omega]
  exact r
/-- an & -/
theorem AZ_amp (h : AZ t m0 m) (kd : LDX m m1) (kc : KCC m0 m1) (h1 : 1 ≤ (m 123 17).toInt) (hc0 : 0 ≤ (m 123 16).toInt) (hc : (m 123 16).toInt ≤ 180) (hz : opv (m 131 ((m 123 17).toInt - 1).toNat) ≠ 10) (hi : ∀ j : Nat, (m1 123 17).toInt ≤ j → (j : Int) < (m 123 17).toInt → opv (m 131 j) = 11) (ht : (m1 123 17).toInt = 0 ∨ opv (m1 131 ((m1 123 17).toInt - 1).toNat) ≠ 11) (hP : (m1 123 12).toInt = (m 123 12).toInt) (hO : (m1 123 15).toInt = (m 123 15).toInt)
    (kq : KQ t (CND t (m0 123 12).toInt) (m2 131) (m2 123 17).toInt (m2 123 15).toInt (m2 123 12).toInt) (hen : TXT t en) (hq : 0 ≤ (m 123 12).toInt) (h38 : t (m 123 12).toInt = 38) (j : JPX 11 m1 m2) : QZ t m0 m2 := by
  obtain ⟨a1, a2, a3, a4, a5, a6⟩ := kd
  have jj := JPX_kcc j
  obtain ⟨j1, j2, j3, j4, j5, j6, j7, j8, j9⟩ := j
  refine ⟨kc.trans jj, fun ok => ?_⟩
  have ok1 : (PI t (eo (m2 123 15).toInt) (m2 123 12).toInt).1 = 0 := by
    rw [kq.2] at ok
    exact bnd_1 ok
  rw [j3, j4, hP, hO] at ok1
  have ec : cmN m1 = cmN m := by unfold cmN; rw [a3]
  rw [ec] at j6 j8 j9
  have e1 : ((m1 123 17).toInt - 1).toNat = wtN m1 - 1 := by unfold wtN; omega
  rw [a4, e1] at ht
  have r := PA_am (f2 := m1 130) (f' := m2 130) (W' := m2 131) (w2 := wtN m1) (h.2 ok) (by unfold wtN; omega) (by unfold cmN; omega) (by rw [show wtN m - 1 = ((m 123 17).toInt - 1).toNat by unfold wtN; omega]; exact hz) a6 (fun x x1 x2 => hi x (by unfold wtN at x1; omega) (by unfold wtN at x2; omega)) (by unfold wtN; omega) (ht.elim (fun q => Or.inl (by unfold wtN; omega)) Or.inr) hen hq h38 ok1 (fun x hx => j6 x (by omega)) (fun x hx => (j5 x (by omega)).trans (a4 x)) j7 j8 j9
  unfold PBM
  rw [j3, j4, hP, hO, show wtN m2 = wtN m1 + 1 by unfold wtN; omega, show cmN m2 = cmN m + 1 by unfold cmN; omega]
  exact r
/-- the end -/
theorem AZ_end (h : AZ t m0 m) (hw : (m 123 17).toInt = 0) (ok : CND t (m0 123 12).toInt = (0, p)) : SRZ m0 m (CND_ t 5 ((m0 123 12).toInt + 1)) ∧ B1 (CND_ t 5 ((m0 123 12).toInt + 1)) := by
  have s := h.2 (by rw [ok])
  unfold PAM at s
  rw [show wtN m = 0 by unfold wtN; omega] at s
  have r := PA_e s
  exact ⟨⟨h.1, r.1⟩, r.2⟩
end RN
theorem g14_1 {v : Int32} (h : g14 v = 1) : opv v = 14 := by
  unfold g14 at h
  by_cases z : opv v = 14
  · exact z
  · rw [if_neg z] at h; omega
/-- popped alone by what binds as close -/
def CTZ (v : Int) (m m' : Nat → Nat → Int32) : Prop := v = 0 → ∀ i : Nat, (i : Int) < (m 123 17).toInt - (m' 123 17).toInt → 4 ≤ opv (m 131 (wtN m - 1 - i))
theorem CTZ.start {v : Int} {m : Nat → Nat → Int32} : CTZ v m m := fun _ i hi => by omega
theorem CTZ.step {v : Int} {m0 m m3 : Nat → Nat → Int32} (h : CTZ v m0 m) (h0 : 1 ≤ (m 123 17).toInt) (hw : (m 123 17).toInt ≤ (m0 123 17).toInt) (h17 : (m3 123 17).toInt = (m 123 17).toInt - 1) (hv : v = 0 → 4 ≤ opv (m0 131 ((m 123 17).toInt - 1).toNat)) : CTZ v m0 m3 := fun z i hi => by
  by_cases y : (i : Int) < (m0 123 17).toInt - (m 123 17).toInt
  · exact h z i y
  · rw [show wtN m0 - 1 - i = ((m 123 17).toInt - 1).toNat by unfold wtN; omega]
    exact hv z
def LTZ (v : Int) (m m' : Nat → Nat → Int32) : Prop := v = 0 → ∀ j : Nat, (m' 123 17).toInt ≤ j → (j : Int) < (m 123 17).toInt → opv (m 131 j) = 11
theorem LTZ.start {v : Int} {m : Nat → Nat → Int32} : LTZ v m m := fun _ j h1 h2 => by omega
theorem LTZ.step {v : Int} {m0 m m3 : Nat → Nat → Int32} (h : LTZ v m0 m) (h0 : 1 ≤ (m 123 17).toInt) (h17 : (m3 123 17).toInt = (m 123 17).toInt - 1) (hv : v = 0 → opv (m0 131 ((m 123 17).toInt - 1).toNat) = 11) : LTZ v m0 m3 := fun z j h1 h2 => by
  by_cases y : (m 123 17).toInt ≤ j
  · exact h z j y h2
  · rw [show j = ((m 123 17).toInt - 1).toNat by omega]
    exact hv z
/-! the CLAUSES of a LAW: what a TEXT means -/
/-- where CLAUSE c begins -/
def cps (t : Int → Int) : Nat → Int
  | 0 => 0
  | c + 1 => (CLA t c (cps t c)).2 + 1
/-- where its condition begins; its price, its condition -/
def CQP (t : Int → Int) (p : Int) : Int := if t p = 112 then (SU t 6 (p + 1)).2 else p + 1
def CDP (t : Int → Int) (p : Int) : MD := SUD t 6 (p + 1)
def CDC (t : Int → Int) (p : Int) : MD := CND_ t 5 (CQP t p + 1)
/-- the class's row of a CLAUSE -/
def ROC (m : Nat → Nat → Int32) (lb : Nat) (t : Int → Int) (c : Nat) (p : Int) : Prop := (m (lb + 3) c).toInt = t p ∧ (t p = 112 → MNS (cdC m lb) (m (lb + 4) c).toInt.toNat (m (lb + 5) c).toInt.toNat 15 (CDP t p) ∧ NUN (cdC m lb) (m (lb + 4) c).toInt.toNat (m (lb + 5) c).toInt.toNat) ∧ (MNS (cdC m lb) (m (lb + 5) c).toInt.toNat (m (lb + 6) c).toInt.toNat 14 (CDC t p) ∧ NUN (cdC m lb) (m (lb + 5) c).toInt.toNat (m (lb + 6) c).toInt.toNat) ∧ (m (lb + 6) c).toInt ≤ (m lb 2).toInt ∧ (m (lb + 5) c).toInt ≤ (m (lb + 6) c).toInt
def LAWc (m : Nat → Nat → Int32) (lb : Nat) (t : Int → Int) (n : Nat) : Prop := ∀ c, c < n → ROC m lb t c (cps t c)
/-- rows of earlier CLAUSES stay -/
def OLC (lb : Nat) (m m' : Nat → Nat → Int32) (n : Nat) : Prop := (m lb 2).toInt ≤ (m' lb 2).toInt ∧ (∀ k, k < lnC m lb → cdC m' lb k = cdC m lb k) ∧ ∀ c, c < n → m' (lb + 3) c = m (lb + 3) c ∧ m' (lb + 4) c = m (lb + 4) c ∧ m' (lb + 5) c = m (lb + 5) c ∧ m' (lb + 6) c = m (lb + 6) c
theorem NUN_eq {f g : Nat → Int × Int32} {a b : Nat} (h : ∀ k, a ≤ k → k < b → g k = f k) (n : NUN f a b) : NUN g a b := fun k q1 q2 => by rw [h k q1 q2]; exact n k q1 q2
section LC
variable {lb n c : Nat} {m m1 m2 m3 m4 m5 m6 m7 m8 : Nat → Nat → Int32} {t : Int → Int} {p q : Int}
theorem OLC.rf : OLC lb m m n := ⟨Int.le_refl _, fun _ _ => rfl, fun _ _ => ⟨rfl, rfl, rfl, rfl⟩⟩
theorem OLC.trans (h : OLC lb m m1 n) (k : OLC lb m1 m2 n) : OLC lb m m2 n := ⟨Int.le_trans h.1 k.1, fun j hj => (k.2.1 j (by have := h.1; unfold lnC at hj ⊢; omega)).trans (h.2.1 j hj), fun c hc => by
  obtain ⟨a1, a2, a3, a4⟩ := h.2.2 c hc
  obtain ⟨b1, b2, b3, b4⟩ := k.2.2 c hc
  exact ⟨b1.trans a1, b2.trans a2, b3.trans a3, b4.trans a4⟩⟩
theorem ROC_eq (h : ROC m lb t c p) (k : OLC lb m m1 n) (hc : c < n) (h0 : 0 ≤ (m (lb + 6) c).toInt) : ROC m1 lb t c p := by
  obtain ⟨a1, a2, a3, a4, a5⟩ := h
  obtain ⟨k1, k2, k3⟩ := k
  obtain ⟨b1, b2, b3, b4⟩ := k3 c hc
  unfold ROC
  rw [b1, b2, b3, b4]
  refine ⟨a1, fun z => ⟨MNS_eq (fun k q1 q2 => k2 k (by unfold lnC; omega)) (a2 z).1, NUN_eq (fun k q1 q2 => k2 k (by unfold lnC; omega)) (a2 z).2⟩, ⟨MNS_eq (fun k q1 q2 => k2 k (by unfold lnC; omega)) a3.1, NUN_eq (fun k q1 q2 => k2 k (by unfold lnC; omega)) a3.2⟩, by omega, a5⟩
theorem LAWc_0 : LAWc m lb t 0 := fun c hc => by omega
/-- a law's own cells stay -/
theorem LAWc_m (h : LAWc m lb t n) (e0 : m1 lb 2 = m lb 2) (e : ∀ a j, lb < a → a ≤ lb + 6 → m1 a j = m a j) : LAWc m1 lb t n := fun c hc => by
  have ec : cdC m1 lb = cdC m lb := by
    funext k
    unfold cdC
    rw [e _ _ (by omega) (by omega), e _ _ (by omega) (by omega)]
  have k := h c hc
  unfold ROC at k ⊢
  rw [ec, e0, e _ _ (by omega) (by omega), e _ _ (by omega) (by omega), e _ _ (by omega) (by omega), e _ _ (by omega) (by omega)]
  exact k
/-- what the reader of a condition, of a sum leaves -/
theorem OLC_z (hl : lb = 77 ∨ lb = 88) (f : fr (wZ lb) m m1) (h : (m lb 2).toInt ≤ (m1 lb 2).toInt) (hk : ∀ k, k < lnC m lb → cdC m1 lb k = cdC m lb k) : OLC lb m m1 n := ⟨h, hk, fun c _ => ⟨f _ _ (wZ_out (by omega) (by omega) (by omega) (by omega)), f _ _ (wZ_out (by omega) (by omega) (by omega) (by omega)), f _ _ (wZ_out (by omega) (by omega) (by omega) (by omega)), f _ _ (wZ_out (by omega) (by omega) (by omega) (by omega))⟩⟩
def wQ (a c i : Nat) : Bool := (c == 86 && (i == 3 || i == 4)) || (Nat.ble a c && Nat.ble c (a + 8))
theorem wQ_f {a c i : Nat} (h : wQ a c i = false) : (c < a ∨ a + 8 < c) ∧ (c ≠ 86 ∨ (i ≠ 3 ∧ i ≠ 4)) := by
  unfold wQ at h
  simp only [Bool.or_eq_false_iff, Bool.and_eq_false_iff, beq_eq_false_iff_ne, ne_eq] at h
  refine ⟨?_, ?_⟩
  · rcases h.2 with k | k
    · left
      by_cases z : a ≤ c
      · rw [Nat.ble_eq.mpr z] at k; cases k
      · omega
    · right
      by_cases z : c ≤ a + 8
      · rw [Nat.ble_eq.mpr z] at k; cases k
      · omega
  · rcases h.1 with k | k
    · exact Or.inl k
    · exact Or.inr k
theorem wQ_t {a c i : Nat} (h : (c < a ∨ a + 8 < c) ∧ (c ≠ 86 ∨ (i ≠ 3 ∧ i ≠ 4))) : wQ a c i = false := by
  cases z : wQ a c i with
  | false => rfl
  | true =>
    unfold wQ at z
    simp only [Bool.or_eq_true, Bool.and_eq_true, beq_iff_eq, Nat.ble_eq] at z
    omega
theorem wQ_wZ {a : Nat} : ∀ c i, wQ a c i = false → wZ a c i = false := fun c i h => by
  have := wQ_f h
  exact wZ_out (by omega) (by omega) (by omega) (by omega)
theorem wQ_86 {a : Nat} : ∀ c i, wQ a c i = false → wz86 c i = false := fun c i h => wZ_86 c i (wQ_wZ c i h)
theorem wQ_r {a b b2 : Nat} (h1 : a ≤ b) (h2 : b2 ≤ a + 8) : ∀ c i, wQ a c i = false → wl [(b, b2, none)] c i = false := fun c i h => by
  have := wQ_f h
  exact wr_out (by omega)
theorem tC_fq {a : Nat} {m M : Nat → Nat → Int32} (hl : a = 77 ∨ a = 88) (h : fr (wQ a) m M) : tC M = tC m := tC_eq (h 86 2 (wQ_t (by omega))) (fun j => h 87 j (wQ_t (by omega)))
/-- a CLAUSE was read: its row stands, those before it stay -/
def CLZ (t : Int → Int) (lb c : Nat) (m m' : Nat → Nat → Int32) (p q : Int) : Prop := OLC lb m m' c ∧ ROC m' lb t c p ∧ (m' lb 2).toInt ≤ q
theorem CLZ_of {kd : Int} {da db : Int} (hl : lb = 77 ∨ lb = 88) (h0 : 0 ≤ (m lb 2).toInt) (hln : (m lb 2).toInt ≤ p) (hk : kd = t p) (hk2 : t p = 110 ∨ t p = 112)
    (e1 : ∀ a j, a ≠ 86 → m1 a j = m a j)
    (b3 : (m2 (lb + 3) c).toInt = kd) (b4 : m2 (lb + 4) c = m1 lb 2) (b5 : ∀ a j, (a ≠ lb + 3 ∧ a ≠ lb + 4) ∨ j ≠ c → m2 a j = m1 a j)
    (s1 : fr (wZ lb) m2 m3) (s2 : (t p = 112 ∧ CDS lb m2 m3 15 (CDP t p) da ∧ da + p + 1 ≤ CQP t p) ∨ (t p = 110 ∧ m3 = m2))
    (b6 : m4 (lb + 5) c = m3 lb 2) (b7 : ∀ a j, a ≠ lb + 5 ∨ j ≠ c → m4 a j = m3 a j)
    (s3 : SAML lb m4 m5) (s3b : fr (wZ lb) m4 m5) (s4 : CDS lb m5 m6 14 (CDC t p) db) (s4b : fr (wZ lb) m5 m6) (s5 : SAML lb m6 m7) (s5b : fr (wZ lb) m6 m7)
    (b8 : m8 (lb + 6) c = m7 lb 2) (b9 : ∀ a j, ((a ≠ lb + 6 ∨ j ≠ c) ∧ (a ≠ lb ∨ j ≠ 7)) → m8 a j = m7 a j) (hq : CQP t p + 2 + db ≤ q) : CLZ t lb c m m8 p q := by
  have z3 : ∀ (x y : Nat → Nat → Int32), fr (wZ lb) x y → ∀ a j, lb + 3 ≤ a → a ≤ lb + 6 → y a j = x a j := fun x y f a j h1 h2 => f a j (wZ_out (by omega) (by omega) (by omega) (by omega))
  have o2 : OLC lb m m2 c := ⟨by rw [b5 lb 2 (by omega), e1 lb 2 (by omega)]; exact Int.le_refl _, fun k _ => by unfold cdC; rw [b5 _ _ (by omega), b5 _ _ (by omega), e1 _ _ (by omega), e1 _ _ (by omega)], fun i hi => ⟨by rw [b5 _ _ (by omega), e1 _ _ (by omega)], by rw [b5 _ _ (by omega), e1 _ _ (by omega)], by rw [b5 _ _ (by omega), e1 _ _ (by omega)], by rw [b5 _ _ (by omega), e1 _ _ (by omega)]⟩⟩
  have l2 : (m2 lb 2).toInt = (m lb 2).toInt := by rw [b5 lb 2 (by omega), e1 lb 2 (by omega)]
  have l23 : (m2 lb 2).toInt ≤ (m3 lb 2).toInt ∧ (m3 lb 2).toInt ≤ CQP t p - 1 ∧ ∀ k, k < lnC m2 lb → cdC m3 lb k = cdC m2 lb k := by
    rcases s2 with ⟨x1, x2, x3⟩ | ⟨x1, x2⟩
    · exact ⟨x2.2.1, by have := x2.2.2.1; omega, x2.2.2.2.1⟩
    · rw [x2]; refine ⟨Int.le_refl _, ?_, fun _ _ => rfl⟩
      unfold CQP
      rw [if_neg (by omega)]
      omega
  have o3 : OLC lb m2 m3 c := OLC_z hl s1 l23.1 l23.2.2
  have o4 : OLC lb m3 m4 c := ⟨by rw [b7 lb 2 (by omega)]; exact Int.le_refl _, fun k _ => by unfold cdC; rw [b7 _ _ (by omega), b7 _ _ (by omega)], fun i hi => ⟨b7 _ _ (by omega), b7 _ _ (by omega), b7 _ _ (by omega), b7 _ _ (by omega)⟩⟩
  have o5 : OLC lb m4 m5 c := OLC_z hl s3b (by rw [s3.1]; exact Int.le_refl _) (fun k _ => by rw [s3.cd])
  have o6 : OLC lb m5 m6 c := OLC_z hl s4b s4.2.1 s4.2.2.2.1
  have o7 : OLC lb m6 m7 c := OLC_z hl s5b (by rw [s5.1]; exact Int.le_refl _) (fun k _ => by rw [s5.cd])
  have o8 : OLC lb m7 m8 c := ⟨by rw [b9 lb 2 (by omega)]; exact Int.le_refl _, fun k _ => by unfold cdC; rw [b9 _ _ (by omega), b9 _ _ (by omega)], fun i hi => ⟨b9 _ _ (by omega), b9 _ _ (by omega), b9 _ _ (by omega), b9 _ _ (by omega)⟩⟩
  have l4 : (m4 lb 2) = (m3 lb 2) := b7 lb 2 (by omega)
  have l5 : (m5 lb 2) = (m4 lb 2) := s3.1
  have l7 : (m7 lb 2) = (m6 lb 2) := s5.1
  have l8 : (m8 lb 2) = (m7 lb 2) := b9 lb 2 (by omega)
  have l6 := s4.2.1
  have l6b := s4.2.2.1
  have r3 : (m8 (lb + 3) c).toInt = kd := by
    rw [b9 _ _ (by omega), z3 _ _ s5b _ _ (by omega) (by omega), z3 _ _ s4b _ _ (by omega) (by omega), z3 _ _ s3b _ _ (by omega) (by omega), b7 _ _ (by omega), z3 _ _ s1 _ _ (by omega) (by omega)]
    exact b3
  have r4 : m8 (lb + 4) c = m2 lb 2 := by
    rw [b9 _ _ (by omega), z3 _ _ s5b _ _ (by omega) (by omega), z3 _ _ s4b _ _ (by omega) (by omega), z3 _ _ s3b _ _ (by omega) (by omega), b7 _ _ (by omega), z3 _ _ s1 _ _ (by omega) (by omega), b4, b5 lb 2 (by omega)]
  have r5 : m8 (lb + 5) c = m3 lb 2 := by
    rw [b9 _ _ (by omega), z3 _ _ s5b _ _ (by omega) (by omega), z3 _ _ s4b _ _ (by omega) (by omega), z3 _ _ s3b _ _ (by omega) (by omega)]
    exact b6
  have r6 : m8 (lb + 6) c = m6 lb 2 := b8.trans l7
  have c36 : ∀ k, k < lnC m3 lb → cdC m8 lb k = cdC m3 lb k := fun k hk => (o8.2.1 k (by have := o7.1; have := o6.1; have := o5.1; have := o4.1; unfold lnC at hk ⊢; omega)).trans ((o7.2.1 k (by have := o6.1; have := o5.1; have := o4.1; unfold lnC at hk ⊢; omega)).trans ((o6.2.1 k (by have := o5.1; have := o4.1; unfold lnC at hk ⊢; omega)).trans ((o5.2.1 k (by have := o4.1; unfold lnC at hk ⊢; omega)).trans (o4.2.1 k hk))))
  have c68 : ∀ k, k < lnC m6 lb → cdC m8 lb k = cdC m6 lb k := fun k hk => (o8.2.1 k (by have := o7.1; unfold lnC at hk ⊢; omega)).trans (o7.2.1 k hk)
  have e53 : (m5 lb 2).toInt = (m3 lb 2).toInt := by rw [l5, l4]
  refine ⟨((((((o2.trans o3).trans o4).trans o5).trans o6).trans o7).trans o8), ⟨by rw [r3, hk], fun z => ?_, ?_, by rw [r6, l8, l7]; exact Int.le_refl _, by rw [r5, r6]; omega⟩, ?_⟩
  · rw [r4, r5]
    rcases s2 with ⟨x1, x2, x3⟩ | ⟨x1, x2⟩
    · exact ⟨MNS_eq (fun k q1 q2 => c36 k q2) x2.2.2.2.2.1, NUN_eq (fun k q1 q2 => c36 k q2) x2.2.2.2.2.2⟩
    · omega
  · rw [r5, r6]
    have e : lnC m5 lb = (m3 lb 2).toInt.toNat := by unfold lnC; rw [l5, l4]
    have q := MNS_eq (g := cdC m8 lb) (fun k q1 q2 => c68 k q2) s4.2.2.2.2.1
    have q2 := NUN_eq (g := cdC m8 lb) (fun k q1 q2 => c68 k q2) s4.2.2.2.2.2
    rw [e] at q q2
    exact ⟨q, q2⟩
  · have e : (m5 lb 2).toInt = (m3 lb 2).toInt := by rw [l5, l4]
    rw [l8, l7]
    omega
end LC
/-! a CLAUSE's own cells -/
def BGC (lb : Nat) (m m' : Nat → Nat → Int32) (c : Nat) (kd : Int) : Prop := (m' (lb + 3) c).toInt = kd ∧ m' (lb + 4) c = m lb 2 ∧ ∀ a j, (a ≠ lb + 3 ∧ a ≠ lb + 4) ∨ j ≠ c → m' a j = m a j
def BCC (lb : Nat) (m m' : Nat → Nat → Int32) (c : Nat) : Prop := m' (lb + 5) c = m lb 2 ∧ ∀ a j, a ≠ lb + 5 ∨ j ≠ c → m' a j = m a j
def ECC (lb : Nat) (m m' : Nat → Nat → Int32) (c : Nat) : Prop := m' (lb + 6) c = m lb 2 ∧ ∀ a j, ((a ≠ lb + 6 ∨ j ≠ c) ∧ (a ≠ lb ∨ j ≠ 7)) → m' a j = m a j
section BC
variable {a i1 i2 c : Nat} {m m1 m2 : Nat → Nat → Int32} {x y : Int32}
theorem BGC_of (e1 : m1 = up2 m (a + 3) i1 x) (h1 : i1 = c) (e2 : m2 = up2 m1 (a + 4) i2 y) (h2 : i2 = c) (hy : y = m1 a 2) : BGC a m m2 c x.toInt := by
  subst h1
  subst h2
  refine ⟨by rw [e2, up2_ne (by omega), e1, up2_f], by rw [e2, up2_f, hy, e1, up2_ne (by omega)], fun c j h => ?_⟩
  rw [e2, up2_ne (by omega), e1, up2_ne (by omega)]
theorem BCC_of (e1 : m1 = up2 m (a + 5) i1 x) (h1 : i1 = c) (hx : x = m a 2) : BCC a m m1 c := by
  subst h1
  exact ⟨by rw [e1, up2_f, hx], fun c j h => by rw [e1, up2_ne (by omega)]⟩
theorem ECC_of (e1 : m1 = up2 m (a + 6) i1 x) (h1 : i1 = c) (hx : x = m a 2) (e2 : m2 = up2 m1 a 7 y) : ECC a m m2 c := by
  subst h1
  exact ⟨by rw [e2, up2_ne (by omega), e1, up2_f, hx], fun c j h => by rw [e2, up2_ne (by omega), e1, up2_ne (by omega)]⟩
end BC
/-- what the reader of a LAW leaves -/
def wR (a c i : Nat) : Bool := (c == 86 && (i == 2 || i == 3 || i == 4)) || c == 87 || (Nat.ble a c && Nat.ble c (a + 8))
theorem wR_f {a c i : Nat} (h : wR a c i = false) : (c < a ∨ a + 8 < c) ∧ c ≠ 87 ∧ (c ≠ 86 ∨ (i ≠ 2 ∧ i ≠ 3 ∧ i ≠ 4)) := by
  unfold wR at h
  simp only [Bool.or_eq_false_iff, Bool.and_eq_false_iff, beq_eq_false_iff_ne, ne_eq] at h
  refine ⟨?_, h.1.2, ?_⟩
  · rcases h.2 with k | k
    · left
      by_cases z : a ≤ c
      · rw [Nat.ble_eq.mpr z] at k; cases k
      · omega
    · right
      by_cases z : c ≤ a + 8
      · rw [Nat.ble_eq.mpr z] at k; cases k
      · omega
  · rcases h.1.1 with k | k
    · exact Or.inl k
    · exact Or.inr ⟨k.1.1, k.1.2, k.2⟩
theorem wR_wQ {a : Nat} : ∀ c i, wR a c i = false → wQ a c i = false := fun c i h => wQ_t (by have := wR_f h; omega)
theorem wR_86 {a : Nat} : ∀ c i, wR a c i = false → wz86 c i = false := fun c i h => wQ_86 c i (wR_wQ c i h)
theorem wR_r {a b b2 : Nat} (h1 : a ≤ b) (h2 : b2 ≤ a + 8) : ∀ c i, wR a c i = false → wl [(b, b2, none)] c i = false := fun c i h => wQ_r h1 h2 c i (wR_wQ c i h)
/-- a LAW was read -/
def RDZ (t : Int → Int) (lb : Nat) (m : Nat → Nat → Int32) (v : Int) : Prop := 0 ≤ v → LAWc m lb t v.toNat ∧ (m lb 7).toInt = v
theorem RDZ_no {t : Int → Int} {lb : Nat} {m : Nat → Nat → Int32} {v : Int} (h : v < 0) : RDZ t lb m v := fun q => by omega
theorem LAWc_s {t : Int → Int} {lb c : Nat} {m m1 : Nat → Nat → Int32} {p q : Int} {n : Nat} (h : LAWc m lb t c) (k : CLZ t lb c m m1 p q) (hp : p = cps t c) (hn : n = c + 1) (h0 : ∀ c, 0 ≤ (m (lb + 6) c).toInt) : LAWc m1 lb t n := fun i hi => by
  by_cases z : i < c
  · exact ROC_eq (h i z) k.1 z (h0 i)
  · rw [show i = c by omega, ← hp]
    exact k.2.1
theorem cps_s {t : Int → Int} {c n : Nat} {p a q : Int} (k : CLA t c p = (0, a)) (hp : p = cps t c) (hn : n = c + 1) (hq : q = a + 1) : q = cps t n := by
  subst hn
  show q = (CLA t c (cps t c)).2 + 1
  rw [← hp, k]
  exact hq
/-! a FAULT is below 0 -/
def GEr (p : Int) (r : Int × Int) : Prop := 0 ≤ r.1 ∧ p ≤ r.2
theorem GEr.dn {p q : Int} {r : Int × Int} (h : GEr q r) (k : p ≤ q) : GEr p r := ⟨h.1, Int.le_trans k h.2⟩
theorem bnd_ge {r : Int × Int} {k : Int → Int × Int} {p : Int} (h : GEr p r) (hk : ∀ q, p ≤ q → GEr p (k q)) : GEr p (bnd r k) := by
  by_cases z : r.1 = 0
  · rw [show bnd r k = k r.2 from if_pos z]
    exact hk _ h.2
  · rw [bnd_no z]
    exact h
theorem lpx_ge {t : Int → Int} {c : Int → Bool} {F : Int → Int × Int} (hF : ∀ q, GEr q (F q)) : ∀ (n : Nat) (p q : Int), p ≤ q → GEr p (lpx t c F n q)
  | 0, p, q, h => ⟨Int.le_refl _, h⟩
  | n + 1, p, q, h => by
    simp only [lpx]
    by_cases z : c (t q) = true
    · rw [if_pos z]
      exact bnd_ge ((hF (q + 1)).dn (by omega)) (fun u hu => lpx_ge hF n p u hu)
    · rw [if_neg z]
      exact ⟨Int.le_refl _, h⟩
theorem nd_ge {t : Int → Int} : ∀ (k : Nat) (p q : Int), p ≤ q → GEr p (nd t k q)
  | 0, p, q, h => by
    simp only [nd]
    by_cases z : dig (t q) = true
    · rw [if_pos z]; exact ⟨show (0 : Int) ≤ 2 by decide, h⟩
    · rw [if_neg z]; exact ⟨Int.le_refl _, h⟩
  | k + 1, p, q, h => by
    simp only [nd]
    by_cases z : dig (t q) = true
    · rw [if_pos z]; exact nd_ge k p _ (by omega)
    · rw [if_neg z]; exact ⟨Int.le_refl _, h⟩
theorem atom_ge {t : Int → Int} {p : Int} : GEr p (atom t p) := by
  unfold atom
  by_cases z : dig (t p) = true
  · rw [if_pos z]; exact nd_ge 5 p p (Int.le_refl _)
  · rw [if_neg z]
    by_cases y : nam (t p) = true
    · rw [if_pos y]; exact ⟨Int.le_refl _, show p ≤ p + 1 by omega⟩
    · rw [if_neg y]; exact ⟨show (0 : Int) ≤ 1 by decide, Int.le_refl _⟩
theorem cls_ge {t : Int → Int} {x p q : Int} (h : p ≤ q) : GEr p (cls t x q) := by
  unfold cls
  by_cases z : t q = x
  · rw [if_pos z]; exact ⟨Int.le_refl _, show p ≤ q + 1 by omega⟩
  · rw [if_neg z]; exact ⟨show (0 : Int) ≤ 1 by decide, h⟩
theorem FA_ge {t : Int → Int} : ∀ (e : Nat) (p : Int), GEr p (FA t e p)
  | 0, p => by
    simp only [FA]
    by_cases z : t p = 91
    · rw [if_pos z]; exact ⟨show (0 : Int) ≤ 5 by decide, Int.le_refl _⟩
    · rw [if_neg z]; exact atom_ge
  | e + 1, p => by
    simp only [FA]
    by_cases z : t p = 91
    · rw [if_pos z]
      exact bnd_ge (bnd_ge ((FA_ge e (p + 1)).dn (by omega)) (fun u hu => lpx_ge (FA_ge e) 200 p u hu)) (fun u hu => cls_ge hu)
    · rw [if_neg z]; exact atom_ge
theorem SU_ge {t : Int → Int} (e : Nat) (p : Int) : GEr p (SU t e p) := bnd_ge (FA_ge e p) (fun u hu => lpx_ge (FA_ge e) 200 p u hu)
theorem CM_ge {t : Int → Int} (e : Nat) (p : Int) : GEr p (CM t e p) := bnd_ge (SU_ge e p) (fun u hu => by
  by_cases z : isC (t u) = true
  · rw [if_pos z]; exact (SU_ge e (u + 1)).dn (by omega)
  · rw [if_neg z]; exact ⟨show (0 : Int) ≤ 1 by decide, hu⟩)
theorem PI_ge {t : Int → Int} : ∀ (e : Nat) (p : Int), GEr p (PI t e p)
  | 0, p => by
    simp only [PI]
    by_cases z : t p = 33 ∨ t p = 40
    · rw [if_pos z]; exact ⟨show (0 : Int) ≤ 5 by decide, Int.le_refl _⟩
    · rw [if_neg z]; exact CM_ge 0 p
  | e + 1, p => by
    simp only [PI]
    by_cases z : t p = 33
    · rw [if_pos z]; exact (PI_ge e (p + 1)).dn (by omega)
    · rw [if_neg z]
      by_cases y : t p = 40
      · rw [if_pos y]
        exact bnd_ge (bnd_ge ((PI_ge e (p + 1)).dn (by omega)) (fun u hu => lpx_ge (PI_ge e) 200 p u hu)) (fun u hu => cls_ge hu)
      · rw [if_neg y]; exact CM_ge (e + 1) p
theorem CN_ge {t : Int → Int} (e : Nat) (p : Int) : GEr p (CN t e p) := bnd_ge (PI_ge e p) (fun u hu => lpx_ge (PI_ge e) 200 p u hu)
theorem CLA_ge {t : Int → Int} {c p : Int} : GEr p (CLA t c p) := by
  unfold CLA
  by_cases z : t p = 110 ∨ t p = 112
  · rw [if_pos z]
    by_cases y : 12 ≤ c
    · rw [if_pos y]; exact ⟨show (0 : Int) ≤ 4 by decide, Int.le_refl _⟩
    · rw [if_neg y]
      refine bnd_ge ?_ (fun q hq => ?_)
      · by_cases w : t p = 112
        · rw [if_pos w]; exact (SU_ge 6 (p + 1)).dn (by omega)
        · rw [if_neg w]; exact ⟨Int.le_refl _, show p ≤ p + 1 by omega⟩
      · by_cases w : t q = 40
        · rw [if_pos w]
          exact bnd_ge ((CN_ge 5 (q + 1)).dn (by omega)) (fun u hu => cls_ge hu)
        · rw [if_neg w]; exact ⟨show (0 : Int) ≤ 1 by decide, hq⟩
  · rw [if_neg z]; exact ⟨show (0 : Int) ≤ 1 by decide, Int.le_refl _⟩
theorem FLT_neg {r : Int × Int} {f p : Int} (h : FLT r f) (k : GEr p r) (h0 : 0 ≤ p) : f < 0 := by
  have := h.1
  have := h.2
  have := k.1
  have := k.2
  omega
/-! both machines that reckon: stacks as lists -/
def stl (s : Nat → Int32) : Nat → List Int32
  | 0 => []
  | h + 1 => s h :: stl s h
theorem stl_len (s : Nat → Int32) : ∀ h, (stl s h).length = h
  | 0 => rfl
  | h + 1 => by show (stl s h).length + 1 = h + 1; rw [stl_len s h]
theorem stl_eq {s s' : Nat → Int32} : ∀ h : Nat, (∀ j, j < h → s' j = s j) → stl s' h = stl s h
  | 0, _ => rfl
  | h + 1, k => by
    show s' h :: stl s' h = s h :: stl s h
    rw [k h (by omega), stl_eq h (fun j hj => k j (by omega))]
theorem stl_last {s : Nat → Int32} {h : Nat} {v : Int32} (e : stl s h = [v]) : h = 1 ∧ s 0 = v := by
  have l := congrArg List.length e
  rw [stl_len] at l
  have e1 : h = 1 := l
  subst e1
  refine ⟨rfl, ?_⟩
  have : s 0 :: stl s 0 = [v] := e
  exact (List.cons.inj this).1
/-- the class's stack, its facts -/
def stM (m : Nat → Nat → Int32) (a : Nat) : List Int32 := stl (m (a + 8)) (m a 10).toInt.toNat
def fsn (m : Nat → Nat → Int32) (a : Nat) (j : Nat) : Int32 := if j < 10 then m (a + 7) j else 0
def wS (a c i : Nat) : Bool := (c == a && (i == 10 || i == 11)) || c == a + 8
theorem wS_10 {a : Nat} : wS a a 10 = true := by unfold wS; simp
theorem wS_11 {a : Nat} : wS a a 11 = true := by unfold wS; simp
theorem wS_8 {a i : Nat} : wS a (a + 8) i = true := by unfold wS; simp
theorem wS_out {a c i : Nat} (h1 : c ≠ a ∨ (i ≠ 10 ∧ i ≠ 11)) (h2 : c ≠ a + 8) : wS a c i = false := by
  unfold wS
  rw [beq_false_of_ne h2]
  rcases h1 with h | ⟨h, k⟩
  · rw [beq_false_of_ne h]; rfl
  · rw [beq_false_of_ne h, beq_false_of_ne k]; simp
section ST
variable {a : Nat} {m m1 m2 : Nat → Nat → Int32}
theorem stM_push {x z : Int32} {i : Nat} (e1 : m1 = up2 m (a + 8) i x) (hi : i = (m a 10).toInt.toNat) (e2 : m2 = up2 m1 a 10 z) (hz : z.toInt = (m a 10).toInt + 1) (h0 : 0 ≤ (m a 10).toInt) (h32 : (m a 10).toInt < 32) : stM m2 a = psh x (stM m a) := by
  subst hi
  have l : (stM m a).length = (m a 10).toInt.toNat := stl_len _ _
  rw [psh_ok (by rw [l]; omega)]
  unfold stM
  have e10 : (m2 a 10).toInt.toNat = (m a 10).toInt.toNat + 1 := by rw [e2, up2_eq]; omega
  rw [e10]
  show m2 (a + 8) (m a 10).toInt.toNat :: stl (m2 (a + 8)) (m a 10).toInt.toNat = _
  have f : ∀ j, m2 (a + 8) j = m1 (a + 8) j := fun j => by rw [e2, up2_ne (by omega)]
  rw [f, e1, up2_eq]
  congr 1
  exact stl_eq _ (fun j hj => by rw [f, e1, up2_ne (by omega)])
theorem stM_full {x : Int32} (h : 32 ≤ (m a 10).toInt) : stM m a = psh x (stM m a) := by
  have l : (stM m a).length = (m a 10).toInt.toNat := stl_len _ _
  unfold psh
  rw [if_neg (by rw [l]; omega)]
theorem stM_pop {z : Int32} (e1 : m1 = up2 m a 10 z) (hz : z.toInt = (m a 10).toInt - 1) (h0 : 1 ≤ (m a 10).toInt) : stM m1 a = (stM m a).tail ∧ hd0 (stM m a) = m (a + 8) z.toInt.toNat := by
  have e10 : (m1 a 10).toInt.toNat = z.toInt.toNat := by rw [e1, up2_eq]
  have e11 : (m a 10).toInt.toNat = z.toInt.toNat + 1 := by omega
  have f : m1 (a + 8) = m (a + 8) := funext fun j => by rw [e1, up2_ne (by omega)]
  unfold stM
  rw [e10, e11, f]
  exact ⟨rfl, rfl⟩
theorem stM_0 (h : (m a 10).toInt = 0) : stM m a = [] := by
  unfold stM
  rw [h]
  rfl
theorem stM_eq (h : m1 a 10 = m a 10) (k : ∀ j, m1 (a + 8) j = m (a + 8) j) : stM m1 a = stM m a := by
  unfold stM
  rw [h, show m1 (a + 8) = m (a + 8) from funext k]
end ST
/-- a step of the class's machine -/
def stpC (sg : Int) (op : Int32) (fa : Nat → Int32) (s : List Int32) : Option (List Int32) := if sg = 35 then some (psh op s) else if sg = 36 then some (psh (fa op.toInt.toNat) s) else if sg = 33 then some (psh (b01 (decide (hd0 s = 0))) s.tail) else if hd0 s = 0 ∧ (sg = 47 ∨ sg = 37) then none else some (psh (jnv sg (hd0 s.tail) (hd0 s)) s.tail.tail)
/-- what the machine has come to: refused, or a stack -/
def SR (x : Option (List Int32)) (s : List Int32) (r : Int) : Prop := (x = some s ∧ r = 0) ∨ (x = none ∧ r = 1)
theorem ev_stp {f : Nat → Int × Int32} {fa : Nat → Int32} {b k : Nat} {s : List Int32} (h : k < b) (h1 : (f k).1 ≠ 124) (h2 : (f k).1 ≠ 38) : ev f fa b k s = (stpC (f k).1 (f k).2 fa s).bind (fun s2 => ev f fa b (k + 1) s2) := by
  rw [ev_st h, if_neg (by omega)]
  unfold stpC
  by_cases z1 : (f k).1 = 35
  · rw [if_pos z1, if_pos z1]; rfl
  · rw [if_neg z1, if_neg z1]
    by_cases z2 : (f k).1 = 36
    · rw [if_pos z2, if_pos z2]; rfl
    · rw [if_neg z2, if_neg z2]
      by_cases z3 : (f k).1 = 33
      · rw [if_pos z3, if_pos z3]; rfl
      · rw [if_neg z3, if_neg z3]
        by_cases z4 : hd0 s = 0 ∧ ((f k).1 = 47 ∨ (f k).1 = 37)
        · rw [if_pos z4, if_pos z4]; rfl
        · rw [if_neg z4, if_neg z4]; rfl
/-- where the class's machine stands -/
def EVR (m M : Nat → Nat → Int32) (a b k0 k : Nat) : Prop := ((M a 11).toInt = 0 ∧ ev (cdC m a) (fsn m a) b k0 [] = ev (cdC m a) (fsn m a) b k (stM M a)) ∨ ((M a 11).toInt = 1 ∧ ev (cdC m a) (fsn m a) b k0 [] = none)
theorem EVR_0 {m M : Nat → Nat → Int32} {a b k : Nat} (h : (M a 10).toInt = 0) (h2 : (M a 11).toInt = 0) : EVR m M a b k k := Or.inl ⟨h2, by rw [stM_0 h]⟩
theorem EVR_s {m M M2 : Nat → Nat → Int32} {a b k0 k k2 : Nat} (h : EVR m M a b k0 k) (h0 : (M a 11).toInt = 0) (hb : k < b) (h1 : (cdC m a k).1 ≠ 124) (h2 : (cdC m a k).1 ≠ 38) (s : SR (stpC (cdC m a k).1 (cdC m a k).2 (fsn m a) (stM M a)) (stM M2 a) (M2 a 11).toInt) (hk : k2 = k + 1) : EVR m M2 a b k0 k2 := by
  have h := (h.resolve_right (fun q => by have := q.1; omega)).2
  subst hk
  rw [ev_stp hb h1 h2] at h
  rcases s with ⟨s1, s2⟩ | ⟨s1, s2⟩
  · rw [s1] at h
    exact Or.inl ⟨s2, h⟩
  · rw [s1] at h
    exact Or.inr ⟨s2, h⟩
/-- a leap; none -/
theorem EVR_l {m M M2 : Nat → Nat → Int32} {a b k0 k k2 : Nat} {v : Int32} (h : EVR m M a b k0 k) (h0 : (M a 11).toInt = 0) (hb : k < b) (h1 : (cdC m a k).1 = 124 ∨ (cdC m a k).1 = 38) (hv : v = hd0 (stM M a)) (hp : (v ≠ 0 ∧ (cdC m a k).1 = 124) ∨ (v = 0 ∧ (cdC m a k).1 = 38)) (hs : stM M2 a = psh v (stM M a).tail) (hr : (M2 a 11).toInt = 0) (hk : k2 = max (k + 1) (cdC m a k).2.toInt.toNat) : EVR m M2 a b k0 k2 := by
  have h := (h.resolve_right (fun q => by have := q.1; omega)).2
  subst hk
  rw [ev_st hb, if_pos h1, if_pos (by rw [← hv]; exact hp), ← hv, ← hs] at h
  exact Or.inl ⟨hr, h⟩
theorem EVR_n {m M M2 : Nat → Nat → Int32} {a b k0 k k2 : Nat} {v : Int32} (h : EVR m M a b k0 k) (h0 : (M a 11).toInt = 0) (hb : k < b) (h1 : (cdC m a k).1 = 124 ∨ (cdC m a k).1 = 38) (hv : v = hd0 (stM M a)) (hp : ¬ ((v ≠ 0 ∧ (cdC m a k).1 = 124) ∨ (v = 0 ∧ (cdC m a k).1 = 38))) (hs : stM M2 a = (stM M a).tail) (hr : (M2 a 11).toInt = 0) (hk : k2 = k + 1) : EVR m M2 a b k0 k2 := by
  have h := (h.resolve_right (fun q => by have := q.1; omega)).2
  subst hk
  rw [ev_st hb, if_pos h1, if_neg (by rw [← hv]; exact hp), ← hs] at h
  exact Or.inl ⟨hr, h⟩
/-- what it comes to -/
def RKZ (x : Option Int32) (v r : Int32) : Prop := (x = some v ∧ r.toInt = 0) ∨ (x = none ∧ r.toInt = 1)
theorem EVR_e {m M M2 : Nat → Nat → Int32} {a b k0 k : Nat} {v : Int32} (h : EVR m M a b k0 k) (hb : (M a 11).toInt = 0 → b ≤ k) (hv : v = hd0 (stM M a)) (hr : M2 a 11 = M a 11) : RKZ (ev (cdC m a) (fsn m a) b k0 []) v (M2 a 11) := by
  unfold RKZ
  rw [hr]
  rcases h with ⟨h1, h2⟩ | ⟨h1, h2⟩
  · rw [h2, ev_end (hb h1), hv]
    exact Or.inl ⟨rfl, h1⟩
  · exact Or.inr ⟨h2, h1⟩
theorem RKZ_of {f : Nat → Int × Int32} {fa : Nat → Int32} {a b w : Nat} {D : MD} {v r : Int32} (h : RKZ (ev f fa b a []) v r) (m : MNS f a b w D) (hw : w ≤ 32) : RKZ (D fa) v r := by
  have e := m.2 f (fun _ _ _ => rfl) fa [] b (Nat.le_refl _) (by show 0 + w ≤ 32; omega)
  have e2 : ev f fa b a [] = D fa := by
    rw [e]
    cases z : D fa with
    | none => rfl
    | some x => show ev f fa b b [x] = _; rw [ev_end (Nat.le_refl _)]; rfl
  rw [e2] at h
  exact h
/-! a LAW's words on facts -/
def chb (x : Option Int32) : Bool := match x with
  | none => false
  | some v => !(v == 0)
theorem chb_y {x : Option Int32} {v r : Int32} (h : RKZ x v r) (h0 : r.toInt = 0) (hv : v ≠ 0) : chb x = true := by
  rcases h with ⟨h1, -⟩ | ⟨-, h2⟩
  · rw [h1]
    show (!(v == 0)) = true
    rw [beq_false_of_ne hv]
    rfl
  · omega
theorem chb_n {x : Option Int32} {v r : Int32} (h : RKZ x v r) (h0 : r.toInt ≠ 0 ∨ v = 0) : chb x = false := by
  rcases h with ⟨h1, h2⟩ | ⟨h1, -⟩
  · rw [h1, h0.resolve_left (by omega)]
    rfl
  · rw [h1]; rfl
/-- some CLAUSE forbids -/
def FRB (t : Int → Int) (n : Nat) (fa : Nat → Int32) : Prop := ∃ c, c < n ∧ t (cps t c) = 110 ∧ chb (CDC t (cps t c) fa) = true
def clp (v : Int) : Int := if v < 0 then 0 else if 99 < v then 99 else v
def prv (x : Option Int32) : Int := match x with
  | none => 0
  | some v => clp v.toInt
/-- the PRICE, of those from c on -/
def prc (t : Int → Int) (fa : Nat → Int32) : Nat → Nat → Int
  | 0, _ => 1
  | n + 1, c => if t (cps t c) = 112 ∧ chb (CDC t (cps t c) fa) = true then prv (CDP t (cps t c) fa) else prc t fa n (c + 1)
theorem prc_y {t : Int → Int} {fa : Nat → Int32} {n c : Nat} (h : t (cps t c) = 112) (k : chb (CDC t (cps t c) fa) = true) : prc t fa (n + 1) c = prv (CDP t (cps t c) fa) := if_pos ⟨h, k⟩
theorem prc_n {t : Int → Int} {fa : Nat → Int32} {n c : Nat} (h : t (cps t c) ≠ 112 ∨ chb (CDC t (cps t c) fa) = false) : prc t fa (n + 1) c = prc t fa n (c + 1) := if_neg (fun q => by
  rcases h with h | h
  · exact h q.1
  · rw [h] at q; exact absurd q.2 (by decide))
theorem prv_of {x : Option Int32} {v r : Int32} {y : Int} (h : RKZ x v r) (h1 : r.toInt ≠ 0 → y = 0) (h2 : r.toInt = 0 → y = max 0 (min 99 v.toInt)) : y = prv x := by
  rcases h with ⟨k1, k2⟩ | ⟨k1, k2⟩
  · rw [k1, h2 k2]
    show _ = clp v.toInt
    unfold clp
    omega
  · rw [k1, h1 (by omega)]
    rfl
def JN (c x y v : Int32) : Prop := (y.toInt ≠ 0 ∨ (c.toInt ≠ 47 ∧ c.toInt ≠ 37)) → v = jnv c.toInt x y
section JV
variable {c : Int} {x y : Int32}
theorem jnv_add (h : c = 43) : jnv c x y = x + y := if_pos h
theorem jnv_sub (h : c = 45) : jnv c x y = x - y := by unfold jnv; rw [if_neg (by omega), if_pos h]
theorem jnv_mul (h : c = 42) : jnv c x y = x * y := by unfold jnv; rw [if_neg (by omega), if_neg (by omega), if_pos h]
theorem jnv_div (h : c = 47) : jnv c x y = x / y := by unfold jnv; rw [if_neg (by omega), if_neg (by omega), if_neg (by omega), if_pos h]
theorem jnv_rem (h : c = 37) : jnv c x y = x - x / y * y := by unfold jnv; rw [if_neg (by omega), if_neg (by omega), if_neg (by omega), if_neg (by omega), if_pos h]
theorem jnv_lt (h : c = 60) : jnv c x y = b01 (decide (x < y)) := by unfold jnv; rw [if_neg (by omega), if_neg (by omega), if_neg (by omega), if_neg (by omega), if_neg (by omega), if_pos h]
theorem jnv_gt (h : c = 62) : jnv c x y = b01 (decide (y < x)) := by unfold jnv; rw [if_neg (by omega), if_neg (by omega), if_neg (by omega), if_neg (by omega), if_neg (by omega), if_neg (by omega), if_pos h]
theorem jnv_eq (h : c ≠ 43 ∧ c ≠ 45 ∧ c ≠ 42 ∧ c ≠ 47 ∧ c ≠ 37 ∧ c ≠ 60 ∧ c ≠ 62) : jnv c x y = b01 (decide (x = y)) := by unfold jnv; rw [if_neg h.1, if_neg h.2.1, if_neg h.2.2.1, if_neg h.2.2.2.1, if_neg h.2.2.2.2.1, if_neg h.2.2.2.2.2.1, if_neg h.2.2.2.2.2.2]
theorem b01_1 {p : Prop} [inst : Decidable p] (h : p) : (1 : Int32) = b01 (decide p) := by rw [decide_eq_true h]; rfl
theorem b01_0 {p : Prop} [inst : Decidable p] (h : ¬ p) : (0 : Int32) = b01 (decide p) := by rw [decide_eq_false h]; rfl
theorem i_lt (h : x.toInt < y.toInt) : x < y := Int32.lt_iff_toInt_lt.mpr h
theorem i_nlt (h : y.toInt ≤ x.toInt) : ¬ x < y := fun q => by have := Int32.lt_iff_toInt_lt.mp q; omega
theorem i_eq (h : x.toInt = y.toInt) : x = y := Int32.toInt_inj.mp h
theorem i_ne (h : x.toInt ≠ y.toInt) : ¬ x = y := fun q => h (congrArg Int32.toInt q)
end JV
section SP
variable {sg : Int} {op v : Int32} {fa : Nat → Int32} {s s2 : List Int32} {r : Int}
theorem SR_num (h : sg = 35) (e : s2 = psh op s) (hr : r = 0) : SR (stpC sg op fa s) s2 r := Or.inl ⟨by unfold stpC; rw [if_pos h, e], hr⟩
theorem SR_nam (h : sg = 36) (e : s2 = psh v s) (hv : v = fa op.toInt.toNat) (hr : r = 0) : SR (stpC sg op fa s) s2 r := Or.inl ⟨by unfold stpC; rw [if_neg (by omega), if_pos h, e, hv], hr⟩
theorem SR_not (h : sg = 33) (e : s2 = psh v s.tail) (hv : v = b01 (decide (hd0 s = 0))) (hr : r = 0) : SR (stpC sg op fa s) s2 r := Or.inl ⟨by unfold stpC; rw [if_neg (by omega), if_neg (by omega), if_pos h, e, hv], hr⟩
theorem SR_no (h1 : sg ≠ 35) (h2 : sg ≠ 36) (h3 : sg ≠ 33) (h : hd0 s = 0) (h4 : sg = 47 ∨ sg = 37) (hr : r = 1) : SR (stpC sg op fa s) s2 r := Or.inr ⟨by unfold stpC; rw [if_neg h1, if_neg h2, if_neg h3, if_pos ⟨h, h4⟩], hr⟩
theorem SR_op {c : Int32} (hc : c.toInt = sg) (h1 : sg ≠ 35) (h2 : sg ≠ 36) (h3 : sg ≠ 33) (h : hd0 s ≠ 0 ∨ (sg ≠ 47 ∧ sg ≠ 37)) (j : JN c (hd0 s.tail) (hd0 s) v) (e : s2 = psh v s.tail.tail) (hr : r = 0) : SR (stpC sg op fa s) s2 r := by
  refine Or.inl ⟨?_, hr⟩
  have hz : (hd0 s).toInt ≠ 0 ∨ (c.toInt ≠ 47 ∧ c.toInt ≠ 37) := by
    rcases h with h | h
    · left
      exact fun q => h (Int32.toInt_inj.mp (by rw [q, Int32.toInt_zero]))
    · right; omega
  have ev := j hz
  unfold stpC
  rw [if_neg h1, if_neg h2, if_neg h3, if_neg (fun q => by
    rcases h with h | h
    · exact h q.1
    · exact q.2.elim h.1 h.2), e, ev, hc]
end SP
theorem fsn_eq {a : Nat} {m m1 : Nat → Nat → Int32} (e : ∀ j, m1 (a + 7) j = m (a + 7) j) : fsn m1 a = fsn m a := by
  funext j
  unfold fsn
  rw [e]
theorem NUN_m {a : Nat} {m : Nat → Nat → Int32} {x y x2 y2 : Int32} (h : NUN (cdC m a) x.toInt.toNat y.toInt.toNat) (hx : x2 = x) (hy : y2 = y) : NUN (cdC m a) x2.toInt.toNat y2.toInt.toNat := by rw [hx, hy]; exact h
/-! the reference's machine -/
def frn (m : Nat → Nat → Int32) (j : Nat) : Int32 := if j < 10 then m 142 j else 0
def stR (m : Nat → Nat → Int32) (n : Int) : List Int32 := stl (m 141) n.toNat
section RE
variable {m M M2 : Nat → Nat → Int32} {b k0 k k2 : Nat} {n n2 : Int} {v x y z : Int32} {o : Int}
/-- where the reference's machine stands -/
def ERR (m M : Nat → Nat → Int32) (b k0 k : Nat) (n : Int) : Prop := er (m 136) (frn m) b k0 [] = er (m 136) (frn m) b k (stR M n)
theorem ERR_0 : ERR m M b k k 0 := rfl
theorem stR_s (h : 1 ≤ n) : stR M n = M 141 (n - 1).toNat :: stR M (n - 1) := by
  unfold stR
  rw [show n.toNat = (n - 1).toNat + 1 by omega]
  rfl
theorem stR_push {i : Nat} (e : M2 = up2 M 141 i v) (hi : i = n.toNat) (h0 : 0 ≤ n) (h2 : n2 = n + 1) : stR M2 n2 = v :: stR M n := by
  subst hi
  rw [stR_s (by omega), show (n2 - 1).toNat = n.toNat by omega, show n2 - 1 = n by omega, e]
  congr 1
  · exact up2_f
  · exact stl_eq _ (fun j hj => by rw [up2_ne (by omega)])
theorem stR_top {i : Nat} (e : M2 = up2 M 141 i v) (hi : i = (n - 1).toNat) (h0 : 1 ≤ n) : stR M2 n = v :: stR M (n - 1) := by
  rw [stR_push (n := n - 1) e hi (by omega) (by omega)]
theorem ERR_num (h : ERR m M b k0 k n) (hb : k < b) (h1 : opv (m 136 k) = 0) (hv : v.toInt = agv (m 136 k)) (hs : stR M2 n2 = v :: stR M n) (hk : k2 = k + 1) : ERR m M2 b k0 k2 n2 := by
  unfold ERR at h ⊢
  rw [h, er_num hb h1, ofI hv.symm, hs, hk]
theorem ERR_nam (h : ERR m M b k0 k n) (hb : k < b) (h1 : opv (m 136 k) = 1) (h9 : agv (m 136 k) ≤ 9) (h0 : 0 ≤ agv (m 136 k)) (hv : v = m 142 (agv (m 136 k)).toNat) (hs : stR M2 n2 = v :: stR M n) (hk : k2 = k + 1) : ERR m M2 b k0 k2 n2 := by
  unfold ERR at h ⊢
  have e : frn m (agv (m 136 k)).toNat = v := by
    unfold frn
    rw [if_pos (by omega), hv]
  rw [h, er_nam hb h1, e, hs, hk]
theorem ERR_not (h : ERR m M b k0 k n) (hb : k < b) (h1 : opv (m 136 k) = 10) (hn : 1 ≤ n) (hv : v = 1 - M 141 (n - 1).toNat) (hs : stR M2 n2 = v :: stR M (n - 1)) (hk : k2 = k + 1) : ERR m M2 b k0 k2 n2 := by
  unfold ERR at h ⊢
  rw [h, stR_s hn, er_not hb h1, hs, hk, hv]
theorem ERR_leap (h : ERR m M b k0 k n) (hb : k < b) (ho : o = 11 ∨ o = 12) (h1 : opv (m 136 k) = o) (hn : 1 ≤ n) (hv : M 141 (n - 1).toNat = if o = 12 then 1 else 0) (h2 : agv (m 136 k) = k2) (h3 : k < k2) : ERR m M b k0 k2 n := by
  unfold ERR at h ⊢
  rw [h, stR_s hn, er_leap hb ho h1 hv h2 h3]
theorem ERR_stay (h : ERR m M b k0 k n) (hb : k < b) (ho : o = 11 ∨ o = 12) (h1 : opv (m 136 k) = o) (hn : 1 ≤ n) (hv : M 141 (n - 1).toNat ≠ if o = 12 then 1 else 0) (hn2 : n2 = n - 1) (hk : k2 = k + 1) : ERR m M b k0 k2 n2 := by
  unfold ERR at h ⊢
  rw [h, stR_s hn, er_stay hb ho h1 hv, hn2, hk]
theorem ERR_op (h : ERR m M b k0 k n) (hb : k < b) (h1 : 2 ≤ opv (m 136 k)) (h2 : opv (m 136 k) ≤ 9) (hn : 2 ≤ n) (hd : ¬ (M 141 (n - 1).toNat = 0 ∧ (opv (m 136 k) = 5 ∨ opv (m 136 k) = 6))) (hv : v = jnv (opc (opv (m 136 k))) (M 141 (n - 2).toNat) (M 141 (n - 1).toNat)) (hs : stR M2 n2 = v :: stR M (n - 2)) (hk : k2 = k + 1) : ERR m M2 b k0 k2 n2 := by
  unfold ERR at h ⊢
  rw [h, stR_s (by omega), stR_s (n := n - 1) (by omega), show n - 1 - 1 = n - 2 by omega, er_op hb h1 h2, if_neg hd, hs, hk, hv]
theorem ERR_ref (h : ERR m M b k0 k n) (hb : k < b) (h1 : 2 ≤ opv (m 136 k)) (h2 : opv (m 136 k) ≤ 9) (hn : 2 ≤ n) (hz : M 141 (n - 1).toNat = 0) (hd : opv (m 136 k) = 5 ∨ opv (m 136 k) = 6) : er (m 136) (frn m) b k0 [] = none := by
  unfold ERR at h
  rw [h, stR_s (by omega), stR_s (n := n - 1) (by omega), er_op hb h1 h2, if_pos ⟨hz, hd⟩]
/-- what it comes to -/
def RKR (w : Option (List Int32)) (v : Int32) : Prop := (w = none ∧ v = 0) ∨ ∃ (s : Nat → Int32) (n : Nat), w = some (stl s n) ∧ v = s 0
theorem ERR_e (h : ERR m M b k0 k n) (hb : b ≤ k) (hv : v = M 141 0) : RKR (er (m 136) (frn m) b k0 []) v := by
  unfold ERR at h
  rw [h, er_end hb]
  exact Or.inr ⟨_, _, rfl, hv⟩
def rv0 (w : Option Int32) : Int32 := match w with
  | none => 0
  | some v => v
theorem RKR_of {f : Nat → Int32} {fa : Nat → Int32} {a : Nat} {D : MD} (h : RKR (er f fa b a []) v) (k : MNR f a b D) : v = rv0 (D fa) := by
  have e := k.2 f (fun _ _ _ => rfl) fa [] b (Nat.le_refl _)
  cases q : D fa with
  | none =>
    rw [q] at e
    have e2 : er f fa b a [] = none := e
    rcases h with ⟨-, h2⟩ | ⟨s, n, h1, -⟩
    · exact h2
    · rw [e2] at h1; cases h1
  | some w =>
    rw [q] at e
    have e2 : er f fa b a [] = some [w] := e.trans (er_end (Nat.le_refl _))
    rcases h with ⟨h1, -⟩ | ⟨s, n, h1, h2⟩
    · rw [e2] at h1; cases h1
    · rw [e2] at h1
      have h3 : stl s n = [w] := (Option.some.inj h1).symm
      rw [h2]
      exact (stl_last h3).2
theorem chb_1 {D : MD} {fa : Nat → Int32} (hB : B1 D) (h : v = rv0 (D fa)) : (v = 1 ∧ chb (D fa) = true) ∨ (v ≠ 1 ∧ chb (D fa) = false) := by
  cases q : D fa with
  | none =>
    rw [q] at h
    exact Or.inr ⟨by rw [h]; decide, rfl⟩
  | some w =>
    rw [q] at h
    have h2 : v = w := h
    rcases hB fa w q with z | z
    · exact Or.inr ⟨by rw [h2, z]; decide, by rw [z]; rfl⟩
    · exact Or.inl ⟨by rw [h2, z], by rw [z]; rfl⟩
theorem prv_1 {w : Option Int32} {r : Int} (h : v = rv0 w) (h2 : r = clp v.toInt) : r = prv w := by
  rw [h2, h]
  cases w with
  | none => rfl
  | some x => rfl
/-- the reference's row of a CLAUSE -/
def ROR (m : Nat → Nat → Int32) (t : Int → Int) (c : Nat) (p : Int) : Prop := (m 137 c).toInt = t p ∧ (t p = 112 → MNR (m 136) (m 138 c).toInt.toNat (m 139 c).toInt.toNat (CDP t p)) ∧ MNR (m 136) (m 139 c).toInt.toNat (m 140 c).toInt.toNat (CDC t p) ∧ B1 (CDC t p)
def LAWr (m : Nat → Nat → Int32) (t : Int → Int) (n : Nat) : Prop := ∀ c, c < n → ROR m t c (cps t c)
theorem LAWr_eq {t : Int → Int} {c : Nat} (h : LAWr m t c) (e : ∀ a j, 136 ≤ a → a ≤ 140 → M a j = m a j) : LAWr M t c := fun i hi => by
  have q := h i hi
  unfold ROR at q ⊢
  rw [e 137 _ (by omega) (by omega), e 138 _ (by omega) (by omega), e 139 _ (by omega) (by omega), e 140 _ (by omega) (by omega), show M 136 = m 136 from funext fun j => e 136 j (by omega) (by omega)]
  exact q
end RE
theorem opc_2 {x : Int} (h : x = 2) : opc x = 43 := if_pos h
theorem opc_3 {x : Int} (h : x = 3) : opc x = 45 := by unfold opc; rw [if_neg (by omega), if_pos h]
theorem opc_4 {x : Int} (h : x = 4) : opc x = 42 := by unfold opc; rw [if_neg (by omega), if_neg (by omega), if_pos h]
theorem opc_5 {x : Int} (h : x = 5) : opc x = 47 := by unfold opc; rw [if_neg (by omega), if_neg (by omega), if_neg (by omega), if_pos h]
theorem opc_6 {x : Int} (h : x = 6) : opc x = 37 := by unfold opc; rw [if_neg (by omega), if_neg (by omega), if_neg (by omega), if_neg (by omega), if_pos h]
theorem opc_7 {x : Int} (h : x = 7) : opc x = 60 := by unfold opc; rw [if_neg (by omega), if_neg (by omega), if_neg (by omega), if_neg (by omega), if_neg (by omega), if_pos h]
theorem opc_8 {x : Int} (h : x = 8) : opc x = 62 := by unfold opc; rw [if_neg (by omega), if_neg (by omega), if_neg (by omega), if_neg (by omega), if_neg (by omega), if_neg (by omega), if_pos h]
theorem opc_9 {x : Int} (h : x < 2 ∨ 8 < x) : opc x = 61 := by unfold opc; rw [if_neg (by omega), if_neg (by omega), if_neg (by omega), if_neg (by omega), if_neg (by omega), if_neg (by omega), if_neg (by omega)]
/-! the reference's CLAUSES -/
/-- the row of a CLAUSE that was read -/
def ROY (m : Nat → Nat → Int32) (t : Int → Int) (c : Nat) (p : Int) : Prop := (m 132 c).toInt = t p ∧ (t p = 112 → MNR (m 130) (m 133 c).toInt.toNat (m 134 c).toInt.toNat (CDP t p)) ∧ (MNR (m 130) (m 134 c).toInt.toNat (m 135 c).toInt.toNat (CDC t p) ∧ (m 135 c).toInt ≤ (m 123 16).toInt ∧ (m 134 c).toInt ≤ (m 123 16).toInt ∧ 0 ≤ (m 134 c).toInt ∧ 0 ≤ (m 135 c).toInt) ∧ B1 (CDC t p)
def LAWs (m : Nat → Nat → Int32) (t : Int → Int) (n : Nat) : Prop := ∀ c, c < n → ROY m t c (cps t c)
def OLR (m m' : Nat → Nat → Int32) (n : Nat) : Prop := KCC m m' ∧ ∀ a c, 132 ≤ a → a ≤ 135 → c < n → m' a c = m a c
def CLY (t : Int → Int) (m m' : Nat → Nat → Int32) (c : Nat) (p : Int) : Prop := OLR m m' c ∧ ROY m' t c p
section LR
variable {t : Int → Int} {c n : Nat} {p : Int} {m m1 m2 m3 m4 m5 : Nat → Nat → Int32}
theorem OLR.rf : OLR m m n := ⟨KCC.rf, fun _ _ _ _ _ => rfl⟩
theorem OLR.trans (h : OLR m m1 n) (k : OLR m1 m2 n) : OLR m m2 n := ⟨h.1.trans k.1, fun a i h1 h2 h3 => (k.2 a i h1 h2 h3).trans (h.2 a i h1 h2 h3)⟩
theorem ROY_eq (h : ROY m t c p) (k : OLR m m1 n) (hc : c < n) : ROY m1 t c p := by
  obtain ⟨a1, a2, ⟨a3, a4, a5, a6, a7⟩, a8⟩ := h
  obtain ⟨k1, k2⟩ := k
  unfold ROY
  rw [k2 132 c (by omega) (by omega) hc, k2 133 c (by omega) (by omega) hc, k2 134 c (by omega) (by omega) hc, k2 135 c (by omega) (by omega) hc]
  exact ⟨a1, fun z => MNR_eq (fun k q1 q2 => k1.2 k (by unfold cmN; omega)) (a2 z), ⟨MNR_eq (fun k q1 q2 => k1.2 k (by unfold cmN; omega)) a3, by have := k1.1; omega, by have := k1.1; omega, a6, a7⟩, a8⟩
theorem LAWs_0 : LAWs m t 0 := fun c hc => by omega
theorem LAWs_s (h : LAWs m t c) (k : CLY t m m1 c p) (hp : p = cps t c) (hn : n = c + 1) : LAWs m1 t n := fun i hi => by
  by_cases z : i < c
  · exact ROY_eq (h i z) k.1 z
  · rw [show i = c by omega, ← hp]
    exact k.2
theorem LAWs_eq (h : LAWs m t n) (k : OLR m m1 n) : LAWs m1 t n := fun i hi => ROY_eq (h i hi) k hi
theorem CLY_of (h0 : 0 ≤ (m 123 16).toInt) (hk : t p = 110 ∨ t p = 112)
    (b1 : (m1 132 c).toInt = t p) (b2 : m1 133 c = m 123 16) (b3 : ∀ a j, 132 ≤ a → a ≤ 135 → j ≠ c → m1 a j = m a j) (b4 : ∀ j, m1 130 j = m 130 j) (b5 : m1 123 16 = m 123 16)
    (s2 : (t p = 112 ∧ SRZ m1 m2 (CDP t p)) ∨ (t p = 110 ∧ m2 = m1)) (f2 : ∀ a j, 132 ≤ a → a ≤ 135 → m2 a j = m1 a j)
    (b6 : m3 134 c = m2 123 16) (b7 : ∀ a j, a ≠ 134 ∨ j ≠ c → m3 a j = m2 a j)
    (s4 : SRZ m3 m4 (CDC t p) ∧ B1 (CDC t p)) (f4 : ∀ a j, 132 ≤ a → a ≤ 135 → m4 a j = m3 a j)
    (b8 : m5 135 c = m4 123 16) (b9 : ∀ a j, 132 ≤ a → a ≤ 135 → (a ≠ 135 ∨ j ≠ c) → m5 a j = m4 a j) (b10 : ∀ j, m5 130 j = m4 130 j) (b11 : m5 123 16 = m4 123 16) : CLY t m m5 c p := by
  have k1 : KCC m m1 := KCC_same b4 b5
  have k2 : KCC m1 m2 := by
    rcases s2 with ⟨-, x⟩ | ⟨-, x⟩
    · exact x.1
    · rw [x]; exact KCC.rf
  have e3 : m3 123 16 = m2 123 16 := b7 123 16 (by omega)
  have k3 : KCC m2 m3 := KCC_same (fun j => b7 130 j (by omega)) e3
  have k4 : KCC m3 m4 := s4.1.1
  have k5 : KCC m4 m5 := KCC_same b10 b11
  have l1 := k2.1
  have l2 := k4.1
  rw [e3] at l2
  rw [b5] at l1
  have r2 : (m5 132 c).toInt = t p := by rw [b9 _ _ (by omega) (by omega) (by omega), f4 _ _ (by omega) (by omega), b7 _ _ (by omega), f2 _ _ (by omega) (by omega)]; exact b1
  have r3 : m5 133 c = m 123 16 := by rw [b9 _ _ (by omega) (by omega) (by omega), f4 _ _ (by omega) (by omega), b7 _ _ (by omega), f2 _ _ (by omega) (by omega)]; exact b2
  have r4 : m5 134 c = m2 123 16 := by rw [b9 _ _ (by omega) (by omega) (by omega), f4 _ _ (by omega) (by omega)]; exact b6
  refine ⟨⟨(((k1.trans k2).trans k3).trans k4).trans k5, fun a j h1 h2 h3 => ?_⟩, r2, fun z => ?_, ⟨?_, ?_, ?_, ?_, ?_⟩, s4.2⟩
  · rw [b9 a j h1 h2 (by omega), f4 a j h1 h2, b7 a j (by omega), f2 a j h1 h2, b3 a j h1 h2 (by omega)]
  · rw [r3, r4]
    rcases s2 with ⟨-, x⟩ | ⟨x, -⟩
    · have q := MNR_eq (g := m5 130) (fun k q1 q2 => (b10 k).trans ((k4.2 k (by unfold cmN at q2 ⊢; rw [e3]; exact q2)).trans (b7 130 k (by omega)))) x.2
      rw [show cmN m1 = (m 123 16).toInt.toNat by unfold cmN; rw [b5]] at q
      exact q
    · omega
  · rw [r4, b8]
    have q := MNR_eq (g := m5 130) (fun k _ _ => b10 k) s4.1.2
    rw [show cmN m3 = (m2 123 16).toInt.toNat by unfold cmN; rw [e3]] at q
    exact q
  · rw [b8, b11]; exact Int.le_refl _
  · rw [r4, b11]; omega
  · rw [r4]; omega
  · rw [b8]; omega
/-- the LAW that is taken over -/
theorem LAWr_of (h : LAWs m t n) (e0 : ∀ j : Nat, (j : Int) < (m 123 16).toInt → m 136 j = m 130 j) (e1 : ∀ c, c < n → m 137 c = m 132 c ∧ m 138 c = m 133 c ∧ m 139 c = m 134 c ∧ m 140 c = m 135 c) : LAWr m t n := fun c hc => by
  obtain ⟨a1, a2, ⟨a3, a4, a5, a6, a7⟩, a8⟩ := h c hc
  obtain ⟨b1, b2, b3, b4⟩ := e1 c hc
  unfold ROR
  rw [b1, b2, b3, b4]
  exact ⟨a1, fun z => MNR_eq (fun k q1 q2 => e0 k (by omega)) (a2 z), MNR_eq (fun k q1 q2 => e0 k (by omega)) a3, a8⟩
end LR
theorem up2_at {m : Nat → Nat → Int32} {a i j : Nat} {v : Int32} (h : i = j) : up2 m a i v a j = v := by
  subst h
  exact up2_f
/-- the LAW that stood stays -/
def STY (m M : Nat → Nat → Int32) : Prop := (∀ a j, 136 ≤ a → a ≤ 140 → M a j = m a j) ∧ M 123 20 = m 123 20
theorem STY.rf {m : Nat → Nat → Int32} : STY m m := ⟨fun _ _ _ _ => rfl, rfl⟩
theorem STY.of {m m1 M : Nat → Nat → Int32} (h : STY m m1) (e6 : ∀ j, M 136 j = m1 136 j) (e7 : ∀ j, M 137 j = m1 137 j) (e8 : ∀ j, M 138 j = m1 138 j) (e9 : ∀ j, M 139 j = m1 139 j) (e10 : ∀ j, M 140 j = m1 140 j) (e0 : M 123 20 = m1 123 20) : STY m M := by
  refine ⟨fun a j h1 h2 => ?_, e0.trans h.2⟩
  have : a = 136 ∨ a = 137 ∨ a = 138 ∨ a = 139 ∨ a = 140 := by omega
  rcases this with rfl | rfl | rfl | rfl | rfl
  · exact (e6 j).trans (h.1 _ j h1 h2)
  · exact (e7 j).trans (h.1 _ j h1 h2)
  · exact (e8 j).trans (h.1 _ j h1 h2)
  · exact (e9 j).trans (h.1 _ j h1 h2)
  · exact (e10 j).trans (h.1 _ j h1 h2)
/-- what law leaves on the reference's side -/
def RDR (t : Int → Int) (m M : Nat → Nat → Int32) (v : Int) : Prop := (0 ≤ v → LAWr M t v.toNat ∧ (M 123 20).toInt = v) ∧ (v < 0 → STY m M)
theorem RDR_no {t : Int → Int} {m M : Nat → Nat → Int32} {v : Int} (h : v < 0) (s : STY m M) : RDR t m M v := ⟨fun q => by omega, fun _ => s⟩
def LRK (t : Int → Int) (m : Nat → Nat → Int32) : Prop := LAWs m t (m 123 18).toInt.toNat ∧ (m 123 12).toInt + 1 = cps t (m 123 18).toInt.toNat
theorem LRK_0 {t : Int → Int} {m M : Nat → Nat → Int32} {c p : Int} (k : CLY t m M c.toNat p) (hp : p = cps t c.toNat) (hc : 0 ≤ c) (ha : CLA t c p = (0, (M 123 12).toInt)) (h : LAWs m t c.toNat) (h8 : (M 123 18).toInt = c + 1) : LRK t M := by
  refine ⟨LAWs_s h k hp (by omega), ?_⟩
  rw [show (M 123 18).toInt.toNat = c.toNat + 1 by omega]
  show _ = (CLA t c.toNat (cps t c.toNat)).2 + 1
  rw [← hp, show ((c.toNat : Nat) : Int) = c by omega, ha]
theorem LRK_eq {t : Int → Int} {m M : Nat → Nat → Int32} (h : LRK t m) (k : OLR m M (m 123 18).toInt.toNat) (h8 : (M 123 18).toInt = (m 123 18).toInt) : LAWs M t (M 123 18).toInt.toNat := by
  rw [h8]
  exact LAWs_eq h.1 k
theorem LAWs_c {t : Int → Int} {m M : Nat → Nat → Int32} {n n2 : Nat} (h : LAWs m t n) (c1 : ∀ j, M 130 j = m 130 j) (c2 : M 123 16 = m 123 16) (e : ∀ a j, 132 ≤ a → a ≤ 135 → M a j = m a j) (hn : n2 = n) : LAWs M t n2 := by
  rw [hn]
  exact LAWs_eq h ⟨KCC_same c1 c2, fun a c h1 h2 _ => e a c h1 h2⟩
/-! what is LEFT of a BLANK: counts, the number at a PLACE -/
def cu (f : Nat → Int32) (b : Nat) : Nat → Nat
  | 0 => 0
  | w + 1 => cu f b w + (if f (b + w) = 0 then 1 else 0)
theorem cu_y {f : Nat → Int32} {b w : Nat} (h : f (b + w) = 0) : cu f b (w + 1) = cu f b w + 1 := by show cu f b w + (if f (b + w) = 0 then 1 else 0) = _; rw [if_pos h]
theorem cu_n {f : Nat → Int32} {b w : Nat} (h : f (b + w) ≠ 0) : cu f b (w + 1) = cu f b w := by show cu f b w + (if f (b + w) = 0 then 1 else 0) = _; rw [if_neg h]; rfl
theorem cu_up {f : Nat → Int32} {b w : Nat} : ∀ k, cu f b w ≤ cu f b (w + k)
  | 0 => Nat.le_refl _
  | k + 1 => by
    have := cu_up (f := f) (b := b) (w := w) k
    show cu f b w ≤ cu f b (w + k) + (if f (b + (w + k)) = 0 then 1 else 0)
    omega
theorem cu_mono {f : Nat → Int32} {b w v : Nat} (h : w ≤ v) : cu f b w ≤ cu f b v := by
  have := cu_up (f := f) (b := b) (w := w) (v - w)
  rw [show w + (v - w) = v by omega] at this
  exact this
theorem cu_eq {f g : Nat → Int32} {b c : Nat} : ∀ w : Nat, (∀ j, j < w → g (c + j) = f (b + j)) → cu g c w = cu f b w
  | 0, _ => rfl
  | w + 1, h => by
    show cu g c w + (if g (c + w) = 0 then 1 else 0) = cu f b w + (if f (b + w) = 0 then 1 else 0)
    rw [cu_eq w (fun j hj => h j (by omega)), h w (by omega)]
/-- w is the own number of what stands at place p -/
def IsN (f : Nat → Int32) (b n p w : Nat) : Prop := w < n ∧ f (b + w) = 0 ∧ cu f b w = p
theorem IsN_one {f : Nat → Int32} {b n p w v : Nat} (h : IsN f b n p w) (k : IsN f b n p v) : w = v := by
  obtain ⟨h1, h2, h3⟩ := h
  obtain ⟨k1, k2, k3⟩ := k
  rcases Nat.lt_trichotomy w v with z | z | z
  · have q := cu_mono (f := f) (b := b) (show w + 1 ≤ v by omega)
    rw [cu_y h2] at q
    omega
  · exact z
  · have q := cu_mono (f := f) (b := b) (show v + 1 ≤ w by omega)
    rw [cu_y k2] at q
    omega
theorem IsN_lt {f : Nat → Int32} {b n p w : Nat} (h : IsN f b n p w) : p < cu f b n := by
  obtain ⟨h1, h2, h3⟩ := h
  have q := cu_mono (f := f) (b := b) (show w + 1 ≤ n by omega)
  rw [cu_y h2] at q
  omega
theorem IsN_eq {f g : Nat → Int32} {b c n p w : Nat} (e : ∀ j, j < n → g (c + j) = f (b + j)) (h : IsN f b n p w) : IsN g c n p w := ⟨h.1, by rw [e w h.1]; exact h.2.1, by rw [cu_eq w (fun j hj => e j (by have := h.1; omega))]; exact h.2.2⟩
theorem nu_cu {m : Nat → Nat → Int32} {b : Int} : ∀ (k w : Nat), w + k = (m 124 b.toNat).toInt.toNat → nu m b w = (cu (m 128) (40 * b.toNat) (w + k) : Int) - cu (m 128) (40 * b.toNat) w
  | 0, w, h => by
    rw [nu_end (by omega)]
    show (0 : Int) = (cu (m 128) (40 * b.toNat) w : Int) - cu (m 128) (40 * b.toNat) w
    omega
  | k + 1, w, h => by
    by_cases hb : 0 ≤ b
    · have r := nu_cu (m := m) (b := b) k (w + 1) (by omega)
      rw [nu_step hb (by omega) (by omega), show ((w : Nat) : Int) + 1 = ((w + 1 : Nat) : Int) by omega, r, show w + 1 + k = w + (k + 1) by omega, show (40 * b + (w : Int)).toNat = 40 * b.toNat + w by omega]
      by_cases z : m 128 (40 * b.toNat + w) = 0
      · rw [if_pos z, cu_y z]; omega
      · rw [if_neg z, cu_n z]; omega
    · have hb0 : b.toNat = 0 := by omega
      unfold nu
      rw [hb0] at h ⊢
      have e : ∀ (k w : Nat), w + k = (m 124 0).toInt.toNat → (nuF (m 128) (40 * 0) w k : Int) = (cu (m 128) (40 * 0) (w + k) : Int) - cu (m 128) (40 * 0) w := by
        intro k
        induction k with
        | zero => intro w _; show (0 : Int) = (cu (m 128) (40 * 0) w : Int) - cu (m 128) (40 * 0) w; omega
        | succ k ih =>
          intro w hw
          have r := ih (w + 1) (by omega)
          simp only [nuF]
          rw [show w + 1 + k = w + (k + 1) by omega] at r
          by_cases z : m 128 (40 * 0 + w) = 0
          · rw [cu_y z] at r; rw [if_pos z]; omega
          · rw [cu_n z] at r; rw [if_neg z]; omega
      have q := e (k + 1) w h
      rw [show (m 124 0).toInt.toNat - (w : Int).toNat = k + 1 by omega, show (w : Int).toNat = w by omega]
      exact q
/-- the reference: the number at a place -/
theorem nu_0 {m : Nat → Nat → Int32} {b : Int} : nu m b 0 = (cu (m 128) (40 * b.toNat) (m 124 b.toNat).toInt.toNat : Int) := by
  have q := nu_cu (m := m) (b := b) (m 124 b.toNat).toInt.toNat 0 (by omega)
  rw [show (0 + (m 124 b.toNat).toInt.toNat) = (m 124 b.toNat).toInt.toNat by omega] at q
  have e : cu (m 128) (40 * b.toNat) 0 = 0 := rfl
  rw [show ((0 : Nat) : Int) = 0 from rfl] at q
  omega
theorem nu_IsN {m : Nat → Nat → Int32} {b p w : Int} (h0 : 0 ≤ w) (h1 : w < (m 124 b.toNat).toInt) (h2 : m 128 (40 * b.toNat + w.toNat) = 0) (h3 : nu m b w = nu m b 0 - p) (hp : 0 ≤ p) : IsN (m 128) (40 * b.toNat) (m 124 b.toNat).toInt.toNat p.toNat w.toNat := by
  refine ⟨by omega, h2, ?_⟩
  have q := nu_cu (m := m) (b := b) ((m 124 b.toNat).toInt.toNat - w.toNat) w.toNat (by omega)
  rw [show w.toNat + ((m 124 b.toNat).toInt.toNat - w.toNat) = (m 124 b.toNat).toInt.toNat by omega, show ((w.toNat : Nat) : Int) = w by omega] at q
  have r := nu_0 (m := m) (b := b)
  omega
/-- how often a LETTER is LEFT -/
def hof (f L : Nat → Int32) (b c : Nat) (x : Int) : Nat → Nat
  | 0 => 0
  | w + 1 => hof f L b c x w + (if f (b + w) = 0 ∧ (L (c + w)).toInt = x then 1 else 0)
theorem hof_y {f L : Nat → Int32} {b c w : Nat} {x : Int} (h : f (b + w) = 0) (k : (L (c + w)).toInt = x) : hof f L b c x (w + 1) = hof f L b c x w + 1 := by show hof f L b c x w + (if f (b + w) = 0 ∧ (L (c + w)).toInt = x then 1 else 0) = _; rw [if_pos ⟨h, k⟩]
theorem hof_n {f L : Nat → Int32} {b c w : Nat} {x : Int} (h : f (b + w) ≠ 0 ∨ (L (c + w)).toInt ≠ x) : hof f L b c x (w + 1) = hof f L b c x w := by
  show hof f L b c x w + (if f (b + w) = 0 ∧ (L (c + w)).toInt = x then 1 else 0) = _
  rw [if_neg (fun q => h.elim (fun z => z q.1) (fun z => z q.2))]
  rfl
theorem hof_eq {f L g K : Nat → Int32} {b c b2 c2 : Nat} {x : Int} : ∀ w : Nat, (∀ j, j < w → g (b2 + j) = f (b + j)) → (∀ j, j < w → (K (c2 + j)).toInt = (L (c + j)).toInt) → hof g K b2 c2 x w = hof f L b c x w
  | 0, _, _ => rfl
  | w + 1, h, k => by
    show hof g K b2 c2 x w + (if g (b2 + w) = 0 ∧ (K (c2 + w)).toInt = x then 1 else 0) = hof f L b c x w + (if f (b + w) = 0 ∧ (L (c + w)).toInt = x then 1 else 0)
    rw [hof_eq w (fun j hj => h j (by omega)) (fun j hj => k j (by omega)), h w (by omega), k w (by omega)]
/-- whether what has number w is gone -/
def gon (f : Nat → Int32) (b n : Nat) (w : Int) : Int := if w < 0 ∨ (n : Int) ≤ w then 1 else if f (b + w.toNat) = 0 then 0 else 1
theorem gon_eq {f g : Nat → Int32} {b c n : Nat} {w : Int} (e : ∀ j, j < n → g (c + j) = f (b + j)) : gon g c n w = gon f b n w := by
  unfold gon
  by_cases z : w < 0 ∨ (n : Int) ≤ w
  · rw [if_pos z, if_pos z]
  · rw [if_neg z, if_neg z, e w.toNat (by omega)]
/-- the facts that a LAW is asked with: S the struck, L the LETTERS, n how many -/
def FCT (F : Nat → Int32) (S L : Nat → Int32) (b c n : Nat) (p k d bn : Int) : Prop := ∃ w : Nat, IsN S b n p.toNat w ∧ (F 0).toInt = (L (c + w)).toInt ∧ (F 1).toInt = p ∧ (F 2).toInt = w ∧ (F 3).toInt = cu S b n ∧ (F 4).toInt = hof S L b c (L (c + w)).toInt n ∧ (F 5).toInt = k ∧ (F 6).toInt = d ∧ (F 7).toInt = bn ∧ (F 8).toInt = gon S b n (w - 1) ∧ (F 9).toInt = gon S b n (w + 1)
theorem FCT_eq {F G S L S2 L2 : Nat → Int32} {b c n b2 c2 : Nat} {p k d bn : Int} (h : FCT F S L b c n p k d bn) (h2 : FCT G S2 L2 b2 c2 n p k d bn) (e : ∀ j, j < n → S2 (b2 + j) = S (b + j)) (el : ∀ j, j < n → (L2 (c2 + j)).toInt = (L (c + j)).toInt) : ∀ j, j < 10 → G j = F j := by
  obtain ⟨w, a0, a1, a2, a3, a4, a5, a6, a7, a8, a9, a10⟩ := h
  obtain ⟨v, b0, b1, b2', b3, b4, b5, b6, b7, b8, b9, b10⟩ := h2
  have ev : v = w := IsN_one b0 (IsN_eq e a0)
  subst ev
  have eL := el v a0.1
  have z : ∀ x y : Int32, x.toInt = y.toInt → x = y := fun x y q => Int32.toInt_inj.mp q
  intro j hj
  have : j = 0 ∨ j = 1 ∨ j = 2 ∨ j = 3 ∨ j = 4 ∨ j = 5 ∨ j = 6 ∨ j = 7 ∨ j = 8 ∨ j = 9 := by omega
  rcases this with rfl | rfl | rfl | rfl | rfl | rfl | rfl | rfl | rfl | rfl
  · exact z _ _ (by rw [b1, a1, eL])
  · exact z _ _ (by rw [b2', a2])
  · exact z _ _ (by rw [b3, a3])
  · exact z _ _ (by rw [b4, a4, cu_eq n e])
  · exact z _ _ (by rw [b5, a5, eL, hof_eq n e el])
  · exact z _ _ (by rw [b6, a6])
  · exact z _ _ (by rw [b7, a7])
  · exact z _ _ (by rw [b8, a8])
  · exact z _ _ (by rw [b9, a9, gon_eq e])
  · exact z _ _ (by rw [b10, a10, gon_eq e])
/-! the class's BLANK at e: rows written (e + 1, LETTERS e + 2), LEFT (e + 3, LETTERS e + 4), own numbers (e + 5), struck (e + 6) -/
def wrN (m : Nat → Nat → Int32) (e : Nat) : Nat := (m (e + 1) 1).toInt.toNat
/-- the first k PLACES stand, over the first w numbers -/
def RSK (m : Nat → Nat → Int32) (e w : Nat) : Prop := (m (e + 3) 1).toInt = cu (m (e + 6)) 0 w ∧ ∀ p : Nat, p < cu (m (e + 6)) 0 w → 0 ≤ (m (e + 5) p).toInt ∧ IsN (m (e + 6)) 0 w p (m (e + 5) p).toInt.toNat ∧ m (e + 4) p = m (e + 2) (m (e + 5) p).toInt.toNat
def RST (m : Nat → Nat → Int32) (e : Nat) : Prop := RSK m e (wrN m e)
section RS
variable {m m1 m2 m3 : Nat → Nat → Int32} {e w : Nat} {x : Int}
theorem RSK_0 (h : (m (e + 3) 1).toInt = 0) : RSK m e 0 := ⟨h, fun p hp => by have : cu (m (e + 6)) 0 0 = 0 := rfl; omega⟩
theorem IsN_up {f : Nat → Int32} {b n n2 p w : Nat} (h : IsN f b n p w) (k : n ≤ n2) : IsN f b n2 p w := ⟨by have := h.1; omega, h.2⟩
theorem RSK_n {w2 : Nat} (h : RSK m e w) (k : m (e + 6) w ≠ 0) (hw : w2 = w + 1) : RSK m e w2 := by
  subst hw
  have ec : cu (m (e + 6)) 0 (w + 1) = cu (m (e + 6)) 0 w := cu_n (by rw [Nat.zero_add]; exact k)
  unfold RSK
  rw [ec]
  exact ⟨h.1, fun p hp => ⟨(h.2 p hp).1, IsN_up (h.2 p hp).2.1 (by omega), (h.2 p hp).2.2⟩⟩
theorem RSK_y {w2 i : Nat} {v x : Int32} (h : RSK m e w) (k : m (e + 6) w = 0) (hw : w2 = w + 1) (hi : (i : Int) = (m (e + 3) 1).toInt) (hv : v.toInt = w) (hx : x = m (e + 2) w) (a5 : m3 (e + 5) i = v) (b5 : ∀ j, j ≠ i → m3 (e + 5) j = m (e + 5) j) (a4 : m3 (e + 4) i = x) (b4 : ∀ j, j ≠ i → m3 (e + 4) j = m (e + 4) j) (c2 : ∀ j, m3 (e + 2) j = m (e + 2) j) (c6 : ∀ j, m3 (e + 6) j = m (e + 6) j) (f3 : (m3 (e + 3) 1).toInt = (m (e + 3) 1).toInt + 1) : RSK m3 e w2 := by
  subst hw
  have f6 : m3 (e + 6) = m (e + 6) := funext c6
  have f2 : m3 (e + 2) = m (e + 2) := funext c2
  have ec : cu (m (e + 6)) 0 (w + 1) = cu (m (e + 6)) 0 w + 1 := cu_y (by rw [Nat.zero_add]; exact k)
  have h0 := h.1
  unfold RSK
  rw [f6, f2, ec]
  refine ⟨by omega, fun p hp => ?_⟩
  by_cases z : p = i
  · subst z
    rw [a5, a4, hv, hx]
    exact ⟨by omega, ⟨by omega, by rw [Nat.zero_add]; exact k, by show cu (m (e + 6)) 0 (w : Int).toNat = p; rw [show ((w : Int)).toNat = w by omega]; omega⟩, rfl⟩
  · rw [b5 p z, b4 p z]
    obtain ⟨q1, q2, q3⟩ := h.2 p (by omega)
    exact ⟨q1, IsN_up q2 (by omega), q3⟩
/-- cells that a row of LEFT LETTERS rests on stay -/
theorem RST_eq (h : RST m e) (k : ∀ a j, e < a → a ≤ e + 6 → m1 a j = m a j) : RST m1 e := by
  have f : ∀ a, e < a → a ≤ e + 6 → m1 a = m a := fun a h1 h2 => funext fun j => k a j h1 h2
  unfold RST RSK wrN at h ⊢
  rw [f (e + 1) (by omega) (by omega), f (e + 2) (by omega) (by omega), f (e + 3) (by omega) (by omega), f (e + 4) (by omega) (by omega), f (e + 5) (by omega) (by omega), f (e + 6) (by omega) (by omega)]
  exact h
/-- how often in a row -/
def ctr (f : Nat → Int32) (x : Int) : Nat → Nat
  | 0 => 0
  | k + 1 => ctr f x k + (if (f k).toInt = x then 1 else 0)
theorem ctr_y {f : Nat → Int32} {k : Nat} (h : (f k).toInt = x) : ctr f x (k + 1) = ctr f x k + 1 := by show ctr f x k + (if (f k).toInt = x then 1 else 0) = _; rw [if_pos h]
theorem ctr_n {f : Nat → Int32} {k : Nat} (h : (f k).toInt ≠ x) : ctr f x (k + 1) = ctr f x k := by show ctr f x k + (if (f k).toInt = x then 1 else 0) = _; rw [if_neg h]; rfl
theorem ctr_hof (h : RST m e) : ∀ w, w ≤ wrN m e → ctr (m (e + 4)) x (cu (m (e + 6)) 0 w) = hof (m (e + 6)) (m (e + 2)) 0 0 x w
  | 0, _ => rfl
  | w + 1, hw => by
    have ih := ctr_hof h w (by omega)
    by_cases z : m (e + 6) w = 0
    · have z0 : m (e + 6) (0 + w) = 0 := by rw [Nat.zero_add]; exact z
      have hI : IsN (m (e + 6)) 0 (wrN m e) (cu (m (e + 6)) 0 w) w := ⟨by omega, z0, rfl⟩
      obtain ⟨q1, q2, q3⟩ := h.2 _ (IsN_lt hI)
      have e5 : (m (e + 5) (cu (m (e + 6)) 0 w)).toInt.toNat = w := IsN_one q2 hI
      rw [e5] at q3
      rw [cu_y z0]
      by_cases y : (m (e + 2) w).toInt = x
      · rw [ctr_y (by rw [q3]; exact y), hof_y z0 (by rw [Nat.zero_add]; exact y), ih]
      · rw [ctr_n (by rw [q3]; exact y), hof_n (Or.inr (by rw [Nat.zero_add]; exact y)), ih]
    · rw [cu_n (by rw [Nat.zero_add]; exact z), hof_n (Or.inl (by rw [Nat.zero_add]; exact z)), ih]
theorem RST_sz (h : RST m e) : (m (e + 3) 1).toInt = cu (m (e + 6)) 0 (wrN m e) := h.1
theorem RST_at {p : Int} (h : RST m e) (h0 : 0 ≤ p) (h1 : p < (m (e + 3) 1).toInt) : 0 ≤ (m (e + 5) p.toNat).toInt ∧ IsN (m (e + 6)) 0 (wrN m e) p.toNat (m (e + 5) p.toNat).toInt.toNat ∧ m (e + 4) p.toNat = m (e + 2) (m (e + 5) p.toNat).toInt.toNat := h.2 p.toNat (by have := h.1; unfold RST RSK at h; omega)
end RS
