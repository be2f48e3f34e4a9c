/-! how many of THE SHORTEST there are: sums over LETTERS, tables that obey one recursion agree -/
/-- LETTERS are from 0 to 25 -/
def L25 (n : Nat → Int) (s : Nat → Nat → Int) : Prop := ∀ d, d < 4 → ∀ k : Nat, (k : Int) < n d → 0 ≤ s d k ∧ s d k ≤ 25
theorem L25_hda {n : Nat → Int} {s : Nat → Nat → Int} {a : Nat → Int} {d : Nat} (h : L25 n s) (hv : VL4 n a) (hd : d < 4) (hne : hda n s a d ≠ -1) : 0 ≤ hda n s a d ∧ hda n s a d ≤ 25 := by
  have l := hda_lt hne
  have v := hv d hd
  unfold hda
  rw [if_pos l]
  exact h d hd _ (by omega)
theorem L25_of {n n2 : Nat → Int} {s s2 : Nat → Nat → Int} (hq : RQ4 n n2 s s2) (h : L25 n2 s2) : L25 n s := fun d hd k hk => by
  rw [(hq d hd).2 k hk]
  exact h d hd k (by rw [← (hq d hd).1]; exact hk)
def sgm (f : Nat → Int64) : Nat → Int64
  | 0 => 0
  | k + 1 => sgm f k + f k
theorem sgm_eq {f g : Nat → Int64} : ∀ k, (∀ l, l < k → g l = f l) → sgm g k = sgm f k
  | 0, _ => rfl
  | k + 1, h => by
    show sgm g k + g k = sgm f k + f k
    rw [sgm_eq k (fun l hl => h l (by omega)), h k (by omega)]
theorem sgm_0 {f : Nat → Int64} : ∀ k, (∀ l, l < k → f l = 0) → sgm f k = 0
  | 0, _ => rfl
  | k + 1, h => by
    show sgm f k + f k = 0
    rw [sgm_0 k (fun l hl => h l (by omega)), h k (by omega)]
    decide
theorem sgm_in {f g : Nat → Int64} {x : Int64} {l0 : Nat} : ∀ k, l0 < k → (∀ l, l < k → l ≠ l0 → g l = f l) → g l0 = f l0 + x → sgm g k = sgm f k + x
  | 0, h, _, _ => absurd h (by omega)
  | k + 1, h, h1, h2 => by
    show sgm g k + g k = sgm f k + f k + x
    by_cases z : l0 = k
    · rw [← z, h2, sgm_eq l0 (fun l hl => h1 l (by omega) (by omega)), Int64.add_assoc]
    · rw [sgm_in k (by omega) (fun l hl hn => h1 l (by omega) hn) h2, h1 k (by omega) (fun q => z q.symm), Int64.add_assoc, Int64.add_comm x, ← Int64.add_assoc]
def lhd (n : Nat → Int) (s : Nat → Nat → Int) (a : Nat → Int) : Nat → Int → Bool
  | 0, _ => false
  | d + 1, l => lhd n s a d l || decide (hda n s a d = l)
theorem lhd_iff {n : Nat → Int} {s : Nat → Nat → Int} {a : Nat → Int} {l : Int} : ∀ {d : Nat}, lhd n s a d l = true ↔ ∃ e, e < d ∧ hda n s a e = l
  | 0 => ⟨fun h => by simp [lhd] at h, fun ⟨e, he, _⟩ => absurd he (by omega)⟩
  | d + 1 => by
    simp only [lhd, Bool.or_eq_true, decide_eq_true_eq]
    rw [lhd_iff (d := d)]
    constructor
    · rintro (⟨e, he, h⟩ | h)
      · exact ⟨e, by omega, h⟩
      · exact ⟨d, by omega, h⟩
    · rintro ⟨e, he, h⟩
      by_cases z : e = d
      · rw [z] at h; exact Or.inr h
      · exact Or.inl ⟨e, by omega, h⟩
def tmc (n : Nat → Int) (s : Nat → Nat → Int) (F : (Nat → Int) → Int) (G : (Nat → Int) → Int64) (a : Nat → Int) (p : Int → Bool) (b : Int) (l : Nat) : Int64 := if p (l : Int) = true ∧ 1 + F (adv4 n s a (l : Int)) = b then G (adv4 n s a (l : Int)) else 0
def OC1 (n : Nat → Int) (s : Nat → Nat → Int) (F : (Nat → Int) → Int) (G : (Nat → Int) → Int64) (a : Nat → Int) (fv : Int) (v : Int64) : Prop := ((∀ d, d < 4 → hda n s a d = -1) ∧ v = 1) ∨ ((∃ d, d < 4 ∧ hda n s a d ≠ -1) ∧ v = sgm (tmc n s F G a (lhd n s a 4) fv) 26)
def OCY (n : Nat → Int) (s : Nat → Nat → Int) (F : (Nat → Int) → Int) (G : (Nat → Int) → Int64) : Prop := ∀ a, VL4 n a → OC1 n s F G a (F a) (G a)
def G4 (G : (Nat → Int) → Int64) : Prop := ∀ a b : Nat → Int, (∀ d, d < 4 → a d = b d) → G a = G b
theorem OCY_eq {n : Nat → Int} {s : Nat → Nat → Int} {F F2 : (Nat → Int) → Int} {G G2 : (Nat → Int) → Int64} (hF : OBY n s F) (hF2 : OBY n s F2) (hG : OCY n s F G) (hG2 : OCY n s F2 G2) : ∀ (k : Nat) (a : Nat → Int), VL4 n a → rst n a ≤ k → G a = G2 a
  | k, a, hv, hk => by
    have r0 := rst_0 hv
    have e0 := OBY_eq hF hF2 (rst n a).toNat a hv (by omega)
    rcases hG a hv with ⟨z1, e1⟩ | ⟨⟨d, hd, hne⟩, e1⟩ <;> rcases hG2 a hv with ⟨z2, e2⟩ | ⟨⟨d2, hd2, hne2⟩, e2⟩
    · rw [e1, e2]
    · exact absurd (z1 d2 hd2) hne2
    · exact absurd (z2 d hd) hne
    · rw [e1, e2]
      refine sgm_eq 26 (fun l hl => ?_)
      unfold tmc
      by_cases z : lhd n s a 4 (l : Int) = true
      · obtain ⟨e, he, hx⟩ := lhd_iff.mp z
        have c := adv_rst (n := n) (s := s) (a := a) he
        rw [hx] at c
        have v2 := adv_VL (s := s) hv (l := (l : Int)) (by omega)
        have q := rst_0 v2
        have i0 := OBY_eq hF hF2 (rst n (adv4 n s a (l : Int))).toNat _ v2 (by omega)
        match k, hk with
        | 0, hk => omega
        | k + 1, hk =>
          have i1 := OCY_eq hF hF2 hG hG2 k _ v2 (by omega)
          rw [i0, i1, e0]
      · rw [if_neg (fun q => z q.1), if_neg (fun q => z q.1)]
theorem OC1_g {n n2 : Nat → Int} {s s2 : Nat → Nat → Int} {F F2 : (Nat → Int) → Int} {G G2 : (Nat → Int) → Int64} {a b : Nat → Int} {fv : Int} {v : Int64} (e : ∀ d, d < 4 → hda n s a d = hda n2 s2 b d) (eF : ∀ d, d < 4 → hda n s a d ≠ -1 → F (adv4 n s a (hda n s a d)) = F2 (adv4 n2 s2 b (hda n s a d))) (eG : ∀ d, d < 4 → hda n s a d ≠ -1 → G (adv4 n s a (hda n s a d)) = G2 (adv4 n2 s2 b (hda n s a d))) (q : OC1 n s F G a fv v) : OC1 n2 s2 F2 G2 b fv v := by
  rcases q with ⟨z1, e1⟩ | ⟨⟨d, hd, hne⟩, e1⟩
  · exact Or.inl ⟨fun d hd => by rw [← e d hd]; exact z1 d hd, e1⟩
  · refine Or.inr ⟨⟨d, hd, by rw [← e d hd]; exact hne⟩, e1.trans (sgm_eq 26 (fun l hl => ?_))⟩
    have el : lhd n s a 4 (l : Int) = lhd n2 s2 b 4 (l : Int) := by
      simp only [lhd]
      rw [e 0 (by omega), e 1 (by omega), e 2 (by omega), e 3 (by omega)]
    unfold tmc
    rw [← el]
    by_cases z : lhd n s a 4 (l : Int) = true
    · obtain ⟨d, hd, hx⟩ := lhd_iff.mp z
      have f := eF d hd (by omega)
      have g := eG d hd (by omega)
      rw [hx] at f g
      rw [f, g]
    · rw [if_neg (fun q => z q.1), if_neg (fun q => z q.1)]
theorem OC1_of {n n2 : Nat → Int} {s s2 : Nat → Nat → Int} {F : (Nat → Int) → Int} {G : (Nat → Int) → Int64} {a : Nat → Int} {fv : Int} {v : Int64} (h4 : F4 F) (hg : G4 G) (hv : VL4 n2 a) (hq : RQ4 n n2 s s2) (h : OC1 n s F G a fv v) : OC1 n2 s2 F G a fv v := by
  have e : ∀ d, d < 4 → hda n s a d = hda n2 s2 a d := fun d hd => hda_of (hq d hd).1 (hv d hd).1 (hq d hd).2
  have e1 : ∀ l d, d < 4 → adv4 n s a l d = adv4 n2 s2 a l d := fun l d hd => by unfold adv4; rw [e d hd]
  exact OC1_g e (fun d hd _ => h4 _ _ (e1 _)) (fun d hd _ => hg _ _ (e1 _)) h
theorem OC1_4 {n : Nat → Int} {s : Nat → Nat → Int} {F : (Nat → Int) → Int} {G : (Nat → Int) → Int64} {a b : Nat → Int} {fv : Int} {v : Int64} (h4 : F4 F) (hg : G4 G) (hab : ∀ d, d < 4 → a d = b d) (h : OC1 n s F G a fv v) : OC1 n s F G b fv v := by
  have e : ∀ d, d < 4 → hda n s a d = hda n s b d := fun d hd => hda_4 (hab d hd)
  have e1 : ∀ l d, d < 4 → adv4 n s a l d = adv4 n s b l d := fun l d hd => by unfold adv4; rw [e d hd, hab d hd]
  exact OC1_g e (fun d hd _ => h4 _ _ (e1 _)) (fun d hd _ => hg _ _ (e1 _)) h
theorem OCY_of {n n2 : Nat → Int} {s s2 : Nat → Nat → Int} {F : (Nat → Int) → Int} {G : (Nat → Int) → Int64} (h4 : F4 F) (hg : G4 G) (h : OCY n s F G) (hq : RQ4 n n2 s s2) : OCY n2 s2 F G := fun a hv =>
  OC1_of h4 hg hv hq (h a (fun d hd => by rw [(hq d hd).1]; exact hv d hd))
/-- the number for a set of DEEDS -/
def SHN (m : Nat → Nat → Int32) (x : Int32) (c : Int64) : Prop := L25 (nmb m x) (smb m x) → ∃ F G, F4 F ∧ OBY (nmb m x) (smb m x) F ∧ G4 G ∧ OCY (nmb m x) (smb m x) F G ∧ c = G (fun _ => 0)
theorem SHN_det {m : Nat → Nat → Int32} {x : Int32} {v w : Int64} (h0 : ∀ k, 0 ≤ (m (61 + 2 * k) 1).toInt ∨ 8 ≤ k) (hl : L25 (nmb m x) (smb m x)) (a : SHN m x v) (b : SHN m x w) : v = w := by
  obtain ⟨F, G, _, hF, _, hG, rfl⟩ := a hl
  obtain ⟨F2, G2, _, hF2, _, hG2, rfl⟩ := b hl
  have hv : VL4 (nmb m x) (fun _ => 0) := fun d hd => ⟨Int.le_refl _, by
    unfold nmb
    cases h : (mbs x 8)[d]? with
    | none => exact Int.le_refl _
    | some k =>
      have := mbs_lt (List.mem_of_getElem? h)
      rcases h0 k with q | q
      · exact q
      · omega⟩
  exact OCY_eq hF hF2 hG hG2 (rst (nmb m x) (fun _ => 0)).toNat _ hv (by have := rst_0 hv; omega)
theorem SHN_eq {m m2 : Nat → Nat → Int32} {x : Int32} {v : Int64} (e : ∀ a j, 61 ≤ a → a ≤ 76 → m2 a j = m a j) (h : SHN m x v) : SHN m2 x v := by
  intro L
  have hq : RQ4 (nmb m x) (nmb m2 x) (smb m x) (smb m2 x) := fun d hd => by
    unfold nmb smb
    cases h : (mbs x 8)[d]? with
    | none => exact ⟨rfl, fun _ _ => rfl⟩
    | some k =>
      have := mbs_lt (List.mem_of_getElem? h)
      exact ⟨by show (m (61 + 2 * k) 1).toInt = (m2 (61 + 2 * k) 1).toInt; rw [e _ _ (by omega) (by omega)], fun j _ => by show (m (62 + 2 * k) j).toInt = (m2 (62 + 2 * k) j).toInt; rw [e _ _ (by omega) (by omega)]⟩
  obtain ⟨F, G, h4, hF, hg, hG, hv⟩ := h (L25_of hq L)
  exact ⟨F, G, h4, OBY_of h4 hF hq, hg, OCY_of h4 hg hG hq, hv⟩
def CCN (m : Nat → Nat → Int32) (n : Nat → Nat → Int64) : Prop := (m 169 1).toInt ≠ 0 → SHN m (m 169 1) (n 179 0)
theorem CCN_eq {m m2 : Nat → Nat → Int32} {n n2 : Nat → Nat → Int64} (h : CCN m n) (e9 : m2 169 1 = m 169 1) (en : n2 179 0 = n 179 0) (w : ∀ a j, 61 ≤ a → a ≤ 76 → m2 a j = m a j) : CCN m2 n2 := by
  unfold CCN at h ⊢
  rw [e9, en]
  exact fun q => SHN_eq w (h q)
theorem CCN_0 {m : Nat → Nat → Int32} {n : Nat → Nat → Int64} (h : (m 169 1).toInt = 0) : CCN m n := fun q => absurd h q
theorem CCN_of {m : Nat → Nat → Int32} {n : Nat → Nat → Int64} {x : Int32} (h : m 169 1 = x ∧ SHN m x (n 179 0)) : CCN m n := fun _ => by rw [h.1]; exact h.2
/-! the class's table -/
def gtb (m : Nat → Nat → Int32) (n : Nat → Nat → Int64) (pp : Nat → Nat) : (Nat → Int) → Int64 := fun b => n 179 (ix4 (szp m pp) b).toNat
theorem gtb_4 (m : Nat → Nat → Int32) (n : Nat → Nat → Int64) (pp : Nat → Nat) : G4 (gtb m n pp) := fun a b h => by unfold gtb; rw [ix4_of (fun _ _ => rfl) h]
def TBN (m : Nat → Nat → Int32) (n : Nat → Nat → Int64) (pp : Nat → Nat) (st : Int) : Prop := L25 (szp m pp) (srp m pp) → ∀ a, VL4 (szp m pp) a → st ≤ ix4 (szp m pp) a → OC1 (szp m pp) (srp m pp) (ftb m pp) (gtb m n pp) a (ftb m pp a) (gtb m n pp a)
theorem TBN_eq {m m2 : Nat → Nat → Int32} {n n2 : Nat → Nat → Int64} {pp : Nat → Nat} {st : Int} (hD : Dj pp) (h : TBN m n pp st) (e : ∀ b j, b ≤ 76 ∨ b = 173 ∨ b = 174 ∨ b = 178 → m2 b j = m b j) (en : ∀ j, n2 179 j = n 179 j) : TBN m2 n2 pp st := by
  obtain ⟨h1, h2⟩ := row_eq (m := m) (m2 := m2) hD (fun b j q => e b j (by omega))
  intro L a hv hs
  have ei : ∀ b, ix4 (szp m2 pp) b = ix4 (szp m pp) b := fun b => ix4_of (fun d hd => (h1 d hd).symm) (fun _ _ => rfl)
  have ef : ∀ b, ftb m2 pp b = ftb m pp b := fun b => by unfold ftb; rw [ei, e 178 _ (by omega)]
  have eg : ∀ b, gtb m2 n2 pp b = gtb m n pp b := fun b => by unfold gtb; rw [ei, en]
  have hv1 : VL4 (szp m pp) a := fun d hd => by rw [h1 d hd]; exact hv d hd
  have q := OC1_of (ftb_4 m pp) (gtb_4 m n pp) hv h2 (h (L25_of h2 L) a hv1 (by rw [← ei]; exact hs))
  rw [ef, eg]
  exact OC1_g (fun _ _ => rfl) (fun d _ _ => (ef _).symm) (fun d _ _ => (eg _).symm) q
theorem TBN_next {m m1 : Nat → Nat → Int32} {n n1 : Nat → Nat → Int64} {pp : Nat → Nat} {st st2 : Int} (hS : S12 (szp m pp)) (hD : Dj pp) (hA : ATx m pp) (T : TBN m n pp st) (hst : st - 1 = ix4 (szp m pp) (atp m)) (h0 : 0 ≤ st - 1) (f1 : ∀ b j, b ≤ 176 → m1 b j = m b j) (hs2 : st2 = st - 1) (p : ∀ j, j ≠ st2.toNat → m1 178 j = m 178 j) (pn : ∀ j, j ≠ st2.toNat → n1 179 j = n 179 j) (q : L25 (szp m pp) (srp m pp) → OC1 (szp m pp) (srp m pp) (ftb m pp) (gtb m n pp) (atp m) (m1 178 st2.toNat).toInt (n1 179 st2.toNat)) : TBN m1 n1 pp st2 := by
  obtain ⟨h1, h2⟩ := row_eq (m := m) (m2 := m1) hD (fun b j z => f1 b j (by omega))
  intro L a hv hs
  have ei : ∀ b, ix4 (szp m1 pp) b = ix4 (szp m pp) b := fun b => ix4_of (fun d hd => (h1 d hd).symm) (fun _ _ => rfl)
  have hv1 : VL4 (szp m pp) a := fun d hd => by rw [h1 d hd]; exact hv d hd
  rw [ei] at hs
  have ef : ∀ b, st ≤ ix4 (szp m pp) b → ftb m1 pp b = ftb m pp b := fun b hb => by
    unfold ftb
    rw [ei, p _ (by omega)]
  have eg : ∀ b, st ≤ ix4 (szp m pp) b → gtb m1 n1 pp b = gtb m n pp b := fun b hb => by
    unfold gtb
    rw [ei, pn _ (by omega)]
  have key : OC1 (szp m pp) (srp m pp) (ftb m pp) (gtb m n pp) a (ftb m1 pp a) (gtb m1 n1 pp a) := by
    by_cases z : st ≤ ix4 (szp m pp) a
    · rw [ef a z, eg a z]
      exact T (L25_of h2 L) a hv1 z
    · have ea : ix4 (szp m pp) a = st2 := by omega
      have eq4 := ix4_inj hS hv1 hA (by omega)
      have e3 : ftb m1 pp a = (m1 178 st2.toNat).toInt := by unfold ftb; rw [ei, ea]
      have e4 : gtb m1 n1 pp a = n1 179 st2.toNat := by unfold gtb; rw [ei, ea]
      rw [e3, e4]
      exact OC1_4 (ftb_4 m pp) (gtb_4 m n pp) (fun d hd => (eq4 d hd).symm) (q (L25_of h2 L))
  have e : ∀ d, d < 4 → hda (szp m pp) (srp m pp) a d = hda (szp m1 pp) (srp m1 pp) a d := fun d hd => hda_of (h2 d hd).1 (hv d hd).1 (h2 d hd).2
  have e1 : ∀ l d, d < 4 → adv4 (szp m pp) (srp m pp) a l d = adv4 (szp m1 pp) (srp m1 pp) a l d := fun l d hd => by unfold adv4; rw [e d hd]
  refine OC1_g e (fun d hd hne => ?_) (fun d hd hne => ?_) key
  · have i2 := adv_ix (a := a) hS hd
    rw [← ef _ (by omega)]
    exact ftb_4 m1 pp _ _ (e1 _)
  · have i2 := adv_ix (a := a) hS hd
    rw [← eg _ (by omega)]
    exact gtb_4 m1 n1 pp _ _ (e1 _)
theorem TBN_top {m : Nat → Nat → Int32} {n : Nat → Nat → Int64} {pp : Nat → Nat} {st : Int} (hS : S12 (szp m pp)) (h : st = cA (szp m pp) 4) : TBN m n pp st := by
  intro _ a hv hs
  have q := ix4_mono hS (fun d hd => (hv d hd).2)
  have e := ix4_s (s := szp m pp)
  omega
theorem SHN_tb {m : Nat → Nat → Int32} {n : Nat → Nat → Int64} {x : Int32} (I : IV BB m) (hS : S12 (szp m (ppx x 8))) (h : TBL m (ppx x 8) 0) (hn : TBN m n (ppx x 8) 0) : SHN m x (n 179 0) := by
  have hq : RQ4 (szp m (ppx x 8)) (nmb m x) (srp m (ppx x 8)) (smb m x) := by
    intro d _
    unfold szp srp nmb smb ppx
    cases h2 : (mbs x 8)[d]? with
    | none =>
      have a : (0 : Int) ≤ (m 173 1).toInt := (I 173 1).1
      have b : (m 173 1).toInt ≤ 0 := (I 173 1).2
      exact ⟨by show (m 173 1).toInt = 0; omega, fun k hk => by
        have hk : (k : Int) < (m 173 1).toInt := hk
        omega⟩
    | some k => exact ⟨rfl, fun j _ => by show (m (61 + 2 * k + 1) j).toInt = (m (62 + 2 * k) j).toInt; rw [show 61 + 2 * k + 1 = 62 + 2 * k by omega]⟩
  refine fun L => ⟨ftb m (ppx x 8), gtb m n (ppx x 8), ftb_4 _ _, OBY_of (ftb_4 _ _) (fun a ha => h a ha (ix4_0 hS (fun d hd => (ha d hd).1))) hq, gtb_4 _ _ _, OCY_of (ftb_4 _ _) (gtb_4 _ _ _) (fun a ha => hn (L25_of hq L) a ha (ix4_0 hS (fun d hd => (ha d hd).1))) hq, ?_⟩
  have z : ix4 (szp m (ppx x 8)) (fun _ => 0) = 0 := by
    show (0 : Int) * cA (szp m (ppx x 8)) 3 + 0 * cA (szp m (ppx x 8)) 2 + 0 * cA (szp m (ppx x 8)) 1 + 0 * cA (szp m (ppx x 8)) 0 = 0
    omega
  unfold gtb
  rw [z]
  rfl
/-- one entry of it -/
def RWS (m : Nat → Nat → Int32) (n : Nat → Nat → Int64) (pp : Nat → Nat) (d : Nat) (v : Int) (w : Int64) : Prop := (v = -1 ∧ w = 1) ∨ (v ≠ -1 ∧ w = sgm (tmc (szp m pp) (srp m pp) (ftb m pp) (gtb m n pp) (atp m) (lhd (szp m pp) (srp m pp) (atp m) d) (v + 1)) 26)
theorem RWS_0 {m : Nat → Nat → Int32} {n : Nat → Nat → Int64} {pp : Nat → Nat} : RWS m n pp 0 (-1) 1 := Or.inl ⟨rfl, rfl⟩
theorem lhd_skip {m : Nat → Nat → Int32} {pp : Nat → Nat} {d : Nat} (hs : lap m pp d = -1 ∨ ∃ x, x < d ∧ lap m pp x = lap m pp d) (l : Nat) : lhd (szp m pp) (srp m pp) (atp m) (d + 1) (l : Int) = lhd (szp m pp) (srp m pp) (atp m) d (l : Int) := by
  have e : ∀ x, hda (szp m pp) (srp m pp) (atp m) x = lap m pp x := fun x => (lap_hda m pp x).symm
  rw [Bool.eq_iff_iff, lhd_iff, lhd_iff]
  constructor
  · rintro ⟨x, hx, h⟩
    by_cases z : x < d
    · exact ⟨x, z, h⟩
    · rw [show x = d by omega, e] at h
      rcases hs with hs | ⟨y, hy, hs⟩
      · omega
      · exact ⟨y, hy, by rw [e]; omega⟩
  · rintro ⟨x, hx, h⟩
    exact ⟨x, by omega, h⟩
theorem RWS_skip {m : Nat → Nat → Int32} {n : Nat → Nat → Int64} {pp : Nat → Nat} {d : Nat} {v : Int} {w : Int64} (h : RWS m n pp d v w) (hs : lap m pp d = -1 ∨ ∃ x, x < d ∧ lap m pp x = lap m pp d) : RWS m n pp (d + 1) v w := by
  rcases h with h | ⟨h1, h2⟩
  · exact Or.inl h
  · refine Or.inr ⟨h1, h2.trans (sgm_eq 26 (fun l _ => ?_))⟩
    unfold tmc
    rw [lhd_skip hs l]
theorem tmc_no {m : Nat → Nat → Int32} {n : Nat → Nat → Int64} {pp : Nat → Nat} {d : Nat} {v t : Int} (hM : MNE m pp d v) (hv : v = -1 ∨ t < v) (l : Nat) : tmc (szp m pp) (srp m pp) (ftb m pp) (gtb m n pp) (atp m) (lhd (szp m pp) (srp m pp) (atp m) d) (t + 1) l = 0 := by
  have e : ∀ x, hda (szp m pp) (srp m pp) (atp m) x = lap m pp x := fun x => (lap_hda m pp x).symm
  unfold tmc
  refine if_neg (fun q => ?_)
  obtain ⟨x, hx, h⟩ := lhd_iff.mp q.1
  rw [e] at h
  have q2 := q.2
  rcases hM with ⟨_, h2⟩ | ⟨h0, _, h2⟩
  · have := h2 x hx; omega
  · have h3 := h2 x hx (by omega)
    have h4 : Tn m pp x = ftb m pp (adv4 (szp m pp) (srp m pp) (atp m) (l : Int)) := by
      show ftb m pp (adv4 (szp m pp) (srp m pp) (atp m) (lap m pp x)) = _
      rw [h]
    omega
theorem RWS_hit {m : Nat → Nat → Int32} {n : Nat → Nat → Int64} {pp : Nat → Nat} {d : Nat} {v v2 t : Int} {w w2 u : Int64} (h : RWS m n pp d v w) (hM : MNE m pp d v) (h0 : 0 ≤ lap m pp d) (h25 : lap m pp d ≤ 25) (hnew : ∀ x, x < d → lap m pp x ≠ lap m pp d) (ht : t = Tn m pp d) (t0 : 0 ≤ t) (hu : u = gtb m n pp (adv4 (szp m pp) (srp m pp) (atp m) (lap m pp d))) (hc : ((v = -1 ∨ t < v) ∧ v2 = t ∧ w2 = u) ∨ (v ≠ -1 ∧ t = v ∧ v2 = v ∧ w2 = w + u) ∨ (v ≠ -1 ∧ v < t ∧ v2 = v ∧ w2 = w)) : RWS m n pp (d + 1) v2 w2 := by
  have e : ∀ x, hda (szp m pp) (srp m pp) (atp m) x = lap m pp x := fun x => (lap_hda m pp x).symm
  obtain ⟨l0, hl0⟩ : ∃ l0 : Nat, (l0 : Int) = lap m pp d := ⟨(lap m pp d).toNat, by omega⟩
  have hl26 : l0 < 26 := by omega
  have yes : lhd (szp m pp) (srp m pp) (atp m) (d + 1) (l0 : Int) = true := lhd_iff.mpr ⟨d, by omega, by rw [e]; omega⟩
  have no : ¬ lhd (szp m pp) (srp m pp) (atp m) d (l0 : Int) = true := fun q => by
    obtain ⟨x, hx, hq⟩ := lhd_iff.mp q
    rw [e] at hq
    exact hnew x hx (by omega)
  have oth : ∀ l : Nat, l ≠ l0 → lhd (szp m pp) (srp m pp) (atp m) (d + 1) (l : Int) = lhd (szp m pp) (srp m pp) (atp m) d (l : Int) := fun l hl => by
    have hd : decide (hda (szp m pp) (srp m pp) (atp m) d = (l : Int)) = false := decide_eq_false (fun q => hl (by rw [e] at q; omega))
    show (lhd (szp m pp) (srp m pp) (atp m) d (l : Int) || decide (hda (szp m pp) (srp m pp) (atp m) d = (l : Int))) = _
    rw [hd, Bool.or_false]
  have hT : t = ftb m pp (adv4 (szp m pp) (srp m pp) (atp m) (l0 : Int)) := by rw [ht, hl0]; rfl
  rw [← hl0] at hu
  have at0 : ∀ b : Int, tmc (szp m pp) (srp m pp) (ftb m pp) (gtb m n pp) (atp m) (lhd (szp m pp) (srp m pp) (atp m) d) b l0 = 0 := fun b => by
    unfold tmc
    exact if_neg (fun q => no q.1)
  have at1 : ∀ b : Int, tmc (szp m pp) (srp m pp) (ftb m pp) (gtb m n pp) (atp m) (lhd (szp m pp) (srp m pp) (atp m) (d + 1)) b l0 = if 1 + t = b then u else 0 := fun b => by
    unfold tmc
    rw [yes, ← hT, ← hu]
    by_cases z : 1 + t = b
    · rw [if_pos ⟨rfl, z⟩, if_pos z]
    · rw [if_neg (fun q => z q.2), if_neg z]
  have ot : ∀ (b : Int) (l : Nat), l ≠ l0 → tmc (szp m pp) (srp m pp) (ftb m pp) (gtb m n pp) (atp m) (lhd (szp m pp) (srp m pp) (atp m) (d + 1)) b l = tmc (szp m pp) (srp m pp) (ftb m pp) (gtb m n pp) (atp m) (lhd (szp m pp) (srp m pp) (atp m) d) b l := fun b l hl => by
    unfold tmc
    rw [oth l hl]
  rcases hc with ⟨c1, c2, c3⟩ | ⟨c1, c2, c3, c4⟩ | ⟨c1, c2, c3, c4⟩
  · refine Or.inr ⟨by omega, ?_⟩
    have z0 := sgm_0 (f := tmc (szp m pp) (srp m pp) (ftb m pp) (gtb m n pp) (atp m) (lhd (szp m pp) (srp m pp) (atp m) d) (v2 + 1)) 26 (fun l _ => by rw [c2]; exact tmc_no hM c1 l)
    rw [sgm_in (f := tmc (szp m pp) (srp m pp) (ftb m pp) (gtb m n pp) (atp m) (lhd (szp m pp) (srp m pp) (atp m) d) (v2 + 1)) (x := u) (l0 := l0) 26 hl26 (fun l _ hl => ot _ l hl) (by rw [at1, at0, if_pos (by omega), Int64.zero_add]), z0, Int64.zero_add]
    exact c3
  · rcases h with ⟨h1, _⟩ | ⟨_, h2⟩
    · exact absurd h1 c1
    · refine Or.inr ⟨by omega, ?_⟩
      rw [sgm_in (f := tmc (szp m pp) (srp m pp) (ftb m pp) (gtb m n pp) (atp m) (lhd (szp m pp) (srp m pp) (atp m) d) (v2 + 1)) (x := u) (l0 := l0) 26 hl26 (fun l _ hl => ot _ l hl) (by rw [at1, at0, if_pos (by omega), Int64.zero_add]), c4, h2, c3]
  · rcases h with ⟨h1, _⟩ | ⟨_, h2⟩
    · exact absurd h1 c1
    · refine Or.inr ⟨by omega, ?_⟩
      rw [c4, h2, c3]
      refine (sgm_eq 26 (fun l _ => ?_)).symm
      by_cases z : l = l0
      · rw [z, at1, at0, if_neg (by omega)]
      · exact ot _ l z
theorem RWS_end {m : Nat → Nat → Int32} {n : Nat → Nat → Int64} {pp : Nat → Nat} {v : Int} {w : Int64} (h : RWS m n pp 4 v w) (hM : MNE m pp 4 v) : OC1 (szp m pp) (srp m pp) (ftb m pp) (gtb m n pp) (atp m) (v + 1) w := by
  rcases h with ⟨h1, h2⟩ | ⟨h1, h2⟩
  · rcases hM with ⟨_, k2⟩ | ⟨k0, _⟩
    · exact Or.inl ⟨fun d hd => k2 d hd, h2⟩
    · omega
  · rcases hM with ⟨k1, _⟩ | ⟨k0, ⟨e, he, hne, _⟩, _⟩
    · exact absurd k1 h1
    · exact Or.inr ⟨⟨e, he, hne⟩, h2⟩
def RWL (m : Nat → Nat → Int32) (n : Nat → Nat → Int64) (pp : Nat → Nat) (d : Nat) (v : Int) (w : Int64) : Prop := L25 (szp m pp) (srp m pp) → RWS m n pp d v w
theorem RWL_0 {m : Nat → Nat → Int32} {n : Nat → Nat → Int64} {pp : Nat → Nat} : RWL m n pp 0 (-1) 1 := fun _ => RWS_0
theorem RWL_skip {m : Nat → Nat → Int32} {n : Nat → Nat → Int64} {pp : Nat → Nat} {d : Nat} {v : Int} {w : Int64} (h : RWL m n pp d v w) (hs : lap m pp d = -1 ∨ ∃ x, x < d ∧ lap m pp x = lap m pp d) : RWL m n pp (d + 1) v w := fun L => RWS_skip (h L) hs
theorem RWL_hit {m : Nat → Nat → Int32} {n : Nat → Nat → Int64} {pp : Nat → Nat} {d : Nat} {v v2 t : Int} {w w2 u : Int64} (h : RWL m n pp d v w) (hM : MNE m pp d v) (hA : ATx m pp) (hd : d < 4) (hne : lap m pp d ≠ -1) (hnew : ∀ x, x < d → lap m pp x ≠ lap m pp d) (ht : t = Tn m pp d) (t0 : 0 ≤ t) (hu : u = gtb m n pp (adv4 (szp m pp) (srp m pp) (atp m) (lap m pp d))) (hc : ((v = -1 ∨ t < v) ∧ v2 = t ∧ w2 = u) ∨ (v ≠ -1 ∧ t = v ∧ v2 = v ∧ w2 = w + u) ∨ (v ≠ -1 ∧ v < t ∧ v2 = v ∧ w2 = w)) : RWL m n pp (d + 1) v2 w2 := fun L => by
  have q := L25_hda (n := szp m pp) (s := srp m pp) (a := atp m) (d := d) L hA hd (by rw [← lap_hda m pp d]; exact hne)
  rw [← lap_hda m pp d] at q
  exact RWS_hit (h L) hM q.1 q.2 hnew ht t0 hu hc
theorem RWL_end {m : Nat → Nat → Int32} {n : Nat → Nat → Int64} {pp : Nat → Nat} {v : Int} {w : Int64} (h : RWL m n pp 4 v w) (hM : MNE m pp 4 v) : L25 (szp m pp) (srp m pp) → OC1 (szp m pp) (srp m pp) (ftb m pp) (gtb m n pp) (atp m) (v + 1) w := fun L => RWS_end (h L) hM
