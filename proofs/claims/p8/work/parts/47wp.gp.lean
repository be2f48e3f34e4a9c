/-! gaps as rows of STROKES; many STROKES on both sides -/
def gpl : Nat → Nat → Nat → List (Nat × Nat)
  | 0, _, _ => []
  | f + 1, a, t => if a < t then (if a + 9 ≤ t then (t - 9, 9) :: gpl f a (t - 9) else [(a, t - a)]) else []
theorem gpl_0 {a t : Nat} (h : t ≤ a) : ∀ f, gpl f a t = []
  | 0 => rfl
  | f + 1 => if_neg (by omega)
theorem gpl_irr {a : Nat} : ∀ (f g t : Nat), t ≤ f → t ≤ g → gpl f a t = gpl g a t
  | 0, g, t, h, _ => by rw [gpl_0 (by omega), gpl_0 (by omega)]
  | f + 1, 0, t, _, h => by rw [gpl_0 (by omega), gpl_0 (by omega)]
  | f + 1, g + 1, t, h1, h2 => by
    show (if a < t then (if a + 9 ≤ t then (t - 9, 9) :: gpl f a (t - 9) else [(a, t - a)]) else []) = if a < t then (if a + 9 ≤ t then (t - 9, 9) :: gpl g a (t - 9) else [(a, t - a)]) else []
    rw [gpl_irr f g (t - 9) (by omega) (by omega)]
def gp (a t : Nat) : List (Nat × Nat) := gpl t a t
theorem gp_0 {a t : Nat} (h : t ≤ a) : gp a t = [] := gpl_0 h t
theorem gp_9 {a t : Nat} (h : a + 9 ≤ t) : gp a t = (t - 9, 9) :: gp a (t - 9) := by
  unfold gp
  obtain ⟨f, hf⟩ : ∃ f, t = f + 1 := ⟨t - 1, by omega⟩
  have e : gpl t a t = if a < t then (if a + 9 ≤ t then (t - 9, 9) :: gpl f a (t - 9) else [(a, t - a)]) else [] := by
    have : ∀ t2, gpl (f + 1) a t2 = if a < t2 then (if a + 9 ≤ t2 then (t2 - 9, 9) :: gpl f a (t2 - 9) else [(a, t2 - a)]) else [] := fun _ => rfl
    have q := this t
    rw [← hf] at q
    exact q
  rw [e, if_pos (by omega), if_pos h, gpl_irr f (t - 9) (t - 9) (by omega) (Nat.le_refl _)]
theorem gp_1 {a t : Nat} (h : a < t) (h2 : t < a + 9) : gp a t = [(a, t - a)] := by
  unfold gp
  obtain ⟨f, hf⟩ : ∃ f, t = f + 1 := ⟨t - 1, by omega⟩
  have e : gpl t a t = if a < t then (if a + 9 ≤ t then (t - 9, 9) :: gpl f a (t - 9) else [(a, t - a)]) else [] := by
    have : ∀ t2, gpl (f + 1) a t2 = if a < t2 then (if a + 9 ≤ t2 then (t2 - 9, 9) :: gpl f a (t2 - 9) else [(a, t2 - a)]) else [] := fun _ => rfl
    have q := this t
    rw [← hf] at q
    exact q
  rw [e, if_pos h, if_neg (by omega)]
theorem gp_len {a : Nat} : ∀ (k t : Nat), t ≤ k → (gp a t).length = (t - a + 8) / 9
  | 0, t, h => by rw [gp_0 (by omega)]; show 0 = _; omega
  | k + 1, t, h => by
    by_cases z : t ≤ a
    · rw [gp_0 z]; show 0 = _; omega
    · by_cases y : a + 9 ≤ t
      · rw [gp_9 y, List.length_cons, gp_len k (t - 9) (by omega)]; omega
      · rw [gp_1 (by omega) (by omega)]; show 1 = _; omega
/-- strokes from the end back, each behind the next -/
def DSN : List (Nat × Nat) → Nat → Prop
  | [], _ => True
  | q :: L, s => q.1 + q.2 ≤ s ∧ q.2 ≤ 9 ∧ DSN L q.1
theorem DSN_up : ∀ {L : List (Nat × Nat)} {s s2 : Nat}, DSN L s → s ≤ s2 → DSN L s2
  | [], _, _, _, _ => trivial
  | _ :: _, _, _, ⟨h1, h2, h3⟩, h => ⟨by omega, h2, h3⟩
theorem gp_dsn {a : Nat} {K : List (Nat × Nat)} (hK : DSN K a) : ∀ (k t : Nat), t ≤ k → (a ≤ t ∨ K = []) → DSN (gp a t ++ K) t
  | 0, t, h, hz => by
    rw [gp_0 (by omega)]
    rcases hz with hz | hz
    · exact DSN_up hK (by omega)
    · subst hz; trivial
  | k + 1, t, h, hz => by
    by_cases z : t ≤ a
    · rw [gp_0 z]
      rcases hz with hz | hz
      · exact DSN_up hK (by omega)
      · subst hz; trivial
    · by_cases y : a + 9 ≤ t
      · rw [gp_9 y]
        refine ⟨by show t - 9 + 9 ≤ t; omega, Nat.le_refl _, ?_⟩
        exact gp_dsn hK k (t - 9) (by omega) (Or.inl (by omega))
      · rw [gp_1 (by omega) (by omega)]
        exact ⟨by show a + (t - a) ≤ t; omega, by show t - a ≤ 9; omega, hK⟩
def dn (st : Nat → Nat) : Nat → Nat → List (Nat × Nat)
  | 0, t => gp 0 t
  | k + 1, t => gp (st k + 1) t ++ dn st k (st k)
theorem dn_s {st : Nat → Nat} {k t : Nat} : dn st (k + 1) t = gp (st k + 1) t ++ dn st k (st k) := rfl
theorem dn_dsn {st : Nat → Nat} : ∀ (k t : Nat), (∀ j, j + 1 < k → st j < st (j + 1)) → (∀ j, j < k → st j < t) → DSN (dn st k t) t
  | 0, t, _, _ => by
    have := gp_dsn (a := 0) (K := []) trivial t t (Nat.le_refl _) (Or.inr rfl)
    rw [List.append_nil] at this
    exact this
  | k + 1, t, h1, h2 => by
    rw [dn_s]
    refine gp_dsn (DSN_up (dn_dsn k (st k) (fun j hj => h1 j (by omega)) (fun j hj => ?_)) (by omega)) t t (Nat.le_refl _) (Or.inl (h2 k (by omega)))
    have : ∀ d, j + d < k → st j ≤ st (j + d) := by
      intro d
      induction d with
      | zero => intro _; exact Nat.le_refl _
      | succ d ih => intro hd; have a := ih (by omega); have b := h1 (j + d) (by omega); rw [← Nat.add_assoc]; omega
    have a := this (k - 1 - j) (by omega)
    have b := h1 (k - 1) (by omega)
    rw [show j + (k - 1 - j) = k - 1 by omega] at a
    rw [show k - 1 + 1 = k by omega] at b
    omega
/-- many STROKES -/
def SQc (e b : Nat) (cl : Int32) (pr : Nat → Int32) : List (Nat × Nat) → (Nat → Nat → Int32) → (Nat → Nat → Int32) → Prop
  | [], m, M => M = m
  | q :: L, m, M => ∃ M1, STKc m M1 e b q.1 q.2 cl (smc (fun i => pr (q.1 + i)) q.2) ∧ fr wS3 m M1 ∧ SQc e b cl pr L M1 M
def frK (m M : Nat → Nat → Int32) : Prop := ∀ a i, ¬ (a = 123 ∧ i = 3) → a ≠ 128 → (a < 143 ∨ 148 < a) → M a i = m a i
def SQr (b : Nat) (cl : Int32) (pr : Nat → Int32) : List (Nat × Nat) → (Nat → Nat → Int32) → (Nat → Nat → Int32) → Prop
  | [], m, M => M = m
  | q :: L, m, M => ∃ M1, STKr m M1 b q.1 q.2 cl (smc (fun i => pr (q.1 + i)) q.2) ∧ frK m M1 ∧ SQr b cl pr L M1 M
theorem SQc_app {e b : Nat} {cl : Int32} {pr : Nat → Int32} : ∀ {L K : List (Nat × Nat)} {m M M2 : Nat → Nat → Int32}, SQc e b cl pr L m M → SQc e b cl pr K M M2 → SQc e b cl pr (L ++ K) m M2
  | [], _, _, _, _, h, k => by have h : _ = _ := h; subst h; exact k
  | _ :: _, _, _, _, _, ⟨M1, h1, h2, h3⟩, k => ⟨M1, h1, h2, SQc_app h3 k⟩
theorem SQr_app {b : Nat} {cl : Int32} {pr : Nat → Int32} : ∀ {L K : List (Nat × Nat)} {m M M2 : Nat → Nat → Int32}, SQr b cl pr L m M → SQr b cl pr K M M2 → SQr b cl pr (L ++ K) m M2
  | [], _, _, _, _, h, k => by have h : _ = _ := h; subst h; exact k
  | _ :: _, _, _, _, _, ⟨M1, h1, h2, h3⟩, k => ⟨M1, h1, h2, SQr_app h3 k⟩
theorem SQc_fr {e b : Nat} {cl : Int32} {pr : Nat → Int32} : ∀ {L : List (Nat × Nat)} {m M : Nat → Nat → Int32}, SQc e b cl pr L m M → fr wS3 m M ∧ (M 97 6).toInt = (m 97 6).toInt + L.length
  | [], _, _, h => by have h : _ = _ := h; subst h; exact ⟨fr.rf, by show _ = _ + ((0 : Nat) : Int); omega⟩
  | _ :: _, _, _, ⟨M1, h1, h2, h3⟩ => by
    obtain ⟨a, b⟩ := SQc_fr h3
    refine ⟨h2.trans a, ?_⟩
    have := h1.1
    rw [List.length_cons]
    omega
theorem SQr_fr {b : Nat} {cl : Int32} {pr : Nat → Int32} : ∀ {L : List (Nat × Nat)} {m M : Nat → Nat → Int32}, SQr b cl pr L m M → frK m M
  | [], _, _, h => by have h : _ = _ := h; subst h; exact fun _ _ _ _ _ => rfl
  | _ :: _, _, _, ⟨M1, h1, h2, h3⟩ => fun a i q1 q2 q3 => (SQr_fr h3 a i q1 q2 q3).trans (h2 a i q1 q2 q3)
theorem SQc_pr {e b : Nat} {cl : Int32} {pr qr : Nat → Int32} : ∀ {L : List (Nat × Nat)} {m M : Nat → Nat → Int32}, (∀ q ∈ L, ∀ i, i < q.2 → qr (q.1 + i) = pr (q.1 + i)) → SQc e b cl pr L m M → SQc e b cl qr L m M
  | [], _, _, _, h => h
  | q :: L, _, _, e, ⟨M1, h1, h2, h3⟩ => ⟨M1, by rw [smc_eq (f := fun i => pr (q.1 + i)) q.2 (fun i hi => e q (List.mem_cons_self ..) i hi)]; exact h1, h2, SQc_pr (fun x hx => e x (List.mem_cons_of_mem _ hx)) h3⟩
theorem STKc_sz {m M : Nat → Nat → Int32} {e b p n : Nat} {cl cost : Int32} (h : STKc m M e b p n cl cost) (hR : RST m e) (hp : ((p + n : Nat) : Int) ≤ (m (e + 3) 1).toInt) (he : 4 ≤ e) (he2 : e ≤ 53) : (M (e + 3) 1).toInt = (m (e + 3) 1).toInt - n := by
  obtain ⟨_, _, _, _, _, _, _, _, _, s10, s11, s12⟩ := h
  have ew : wrN M e = wrN m e := by unfold wrN; rw [s11 _ _ (by omega) (by omega) (by omega)]
  have eS : M (e + 6) = mkd (m (e + 6)) (fun i => (m (e + 5) (p + i)).toInt.toNat) 1 n := funext s10
  have z := RST_sz hR
  have c := cu_mk (S := m (e + 6)) (f := fun i => (m (e + 5) (p + i)).toInt.toNat) (n := wrN m e) (p := p) (k := n) (fun i hi => by
    have q := RST_at (p := ((p + i : Nat) : Int)) hR (by omega) (by omega)
    rw [show ((p + i : Nat) : Int).toNat = p + i by omega] at q
    exact q.2.1) (wrN m e) (Nat.le_refl _)
  rw [RST_sz s12, ew, eS, c, z]
  by_cases y : n = 0
  · subst y; split <;> omega
  · rw [if_neg (by omega)]; omega
/-- while a gap is struck -/
def SGI (m M : Nat → Nat → Int32) (e b : Nat) (cl : Int32) (pr : Nat → Int32) (a t stop : Nat) : Prop := (∃ L, gp a t = L ++ gp a stop ∧ SQc e b cl pr L m M) ∧ RST M e ∧ (stop : Int) ≤ (M (e + 3) 1).toInt
theorem SGI_0 {m : Nat → Nat → Int32} {e b : Nat} {cl : Int32} {pr : Nat → Int32} {a t : Nat} (hR : RST m e) (ht : (t : Int) ≤ (m (e + 3) 1).toInt) : SGI m m e b cl pr a t t := ⟨⟨[], rfl, rfl⟩, hR, ht⟩
theorem SGI_s {m M M2 : Nat → Nat → Int32} {e b : Nat} {cl c : Int32} {pr : Nat → Int32} {a t stop stop2 p n : Nat} (h : SGI m M e b cl pr a t stop) (hs : a < stop) (hp : (a + 9 ≤ stop ∧ p + 9 = stop) ∨ (stop < a + 9 ∧ p = a)) (hn : n = stop - p) (s : STKc M M2 e b p n cl c) (hc : c = smc (fun i => pr (p + i)) n) (f : fr wS3 M M2) (h2 : stop2 = stop - 9) (he : 4 ≤ e) (he2 : e ≤ 53) : SGI m M2 e b cl pr a t stop2 := by
  obtain ⟨⟨L, l1, l2⟩, r1, r2⟩ := h
  subst hc
  have z := STKc_sz s r1 (by omega) he he2
  refine ⟨⟨L ++ [(p, n)], ?_, SQc_app l2 ⟨M2, s, f, rfl⟩⟩, s.2.2.2.2.2.2.2.2.2.2.2, by omega⟩
  rw [l1, List.append_assoc]
  congr 1
  by_cases y : a + 9 ≤ stop
  · rw [gp_9 y, h2, show p = stop - 9 by omega, show n = 9 by omega]; rfl
  · rw [gp_1 hs (by omega), gp_0 (t := stop2) (by omega), show p = a by omega, show n = stop - a by omega]; rfl
theorem SGI_e {m M : Nat → Nat → Int32} {e b : Nat} {cl : Int32} {pr : Nat → Int32} {a t stop : Nat} (h : SGI m M e b cl pr a t stop) (hs : stop ≤ a) : SQc e b cl pr (gp a t) m M := by
  obtain ⟨⟨L, l1, l2⟩, _, _⟩ := h
  rw [gp_0 hs, List.append_nil] at l1
  rw [l1]
  exact l2
theorem SGI_room {m M : Nat → Nat → Int32} {e b : Nat} {cl : Int32} {pr : Nat → Int32} {a t stop : Nat} (h : SGI m M e b cl pr a t stop) (hs : a < stop) (hr : (m 97 6).toInt + (gp a t).length ≤ 60) : (M 97 6).toInt ≤ 59 := by
  obtain ⟨⟨L, l1, l2⟩, _, _⟩ := h
  have q := (SQc_fr l2).2
  have l := congrArg List.length l1
  rw [List.length_append] at l
  have : 1 ≤ (gp a stop).length := by rw [gp_len stop stop (Nat.le_refl _)]; omega
  omega
section SQ
variable {la lb : Nat} {mc mr mc2 mr2 : Nat → Nat → Int32} {b : Nat} {cl : Int32} {pr : Nat → Int32}
theorem SQ_RE (hl : la = 77 ∨ la = 88) : ∀ (L : List (Nat × Nat)) {s : Nat} {mc mr mc2 mr2 : Nat → Nat → Int32}, SB2 mc mr → REST la lb mc mr → (b : Int) < (mc 0 2).toInt → DSN L s → (s : Int) ≤ (mc (4 + 7 * b + 3) 1).toInt → SQc (4 + 7 * b) b cl pr L mc mc2 → SQr b cl pr L mr mr2 → REST la lb mc2 mr2
  | [], _, _, _, _, _, _, h, _, _, _, c, r => by
    have c : _ = _ := c
    have r : _ = _ := r
    subst c; subst r; exact h
  | q :: L, s, mc, mr, mc2, mr2, hS, h, hb, ⟨d1, d2, d3⟩, hs, ⟨M1, c1, c2, c3⟩, ⟨M2, r1, r2, r3⟩ => by
    have b8 := hS.2.2.1
    obtain ⟨k2, k7, kl2, kl7, kla, kw⟩ := wO_keep hl (c2.sub wS3_wO)
    have e8 : M1 0 8 = M2 123 2 := by rw [c2 0 8 rfl, r2 123 2 (by omega) (by omega) (by omega)]; exact h.2.2.2.2.2.2
    have hR := STK_RE hl hS h hb (by omega) d2 c1 r1 rfl k2 e8 kl2 kl7 kla (fun a i q1 q2 => r2 a i (by omega) (by omega) (by omega)) (r2 123 20 (by omega) (by omega) (by omega))
    have hS1 : SB2 M1 M2 := SB2_k hS k7 k2 (fun a i z _ => kw a i z) (r2 123 0 (by omega) (by omega) (by omega)) (r2 123 1 (by omega) (by omega) (by omega)) (fun j => r2 124 j (by omega) (by omega) (by omega)) (fun j => r2 125 j (by omega) (by omega) (by omega))
    have z := STKc_sz c1 (h.2.1 b hb) (by omega) (by omega) (by omega)
    exact SQ_RE hl L hS1 hR (by rw [k2]; exact hb) d3 (by omega) c3 r3
end SQ
/-- counting the STROKES of all gaps -/
def CGI (st : Nat → Nat) (k : Nat) (tot fr : Int) : Prop := (k = 0 ∧ tot = 0 ∧ fr = 0) ∨ (∃ j, k = j + 1 ∧ tot = (dn st j (st j)).length ∧ fr = (st j : Int) + 1)
theorem CGI_s {st : Nat → Nat} {k k2 : Nat} {tot fr tot2 fr2 g : Int} (h : CGI st k tot fr) (hk : k2 = k + 1) (hg : g = ((st k : Int) - fr + 8) / 9) (h0 : 0 ≤ (st k : Int) - fr) (ht : tot2 = tot + g) (hf : fr2 = (st k : Int) + 1) : CGI st k2 tot2 fr2 := by
  refine Or.inr ⟨k, hk, ?_, hf⟩
  rcases h with ⟨h1, h2, h3⟩ | ⟨j, h1, h2, h3⟩
  · subst h1
    show _ = ((gp 0 (st 0)).length : Int)
    rw [gp_len _ _ (Nat.le_refl _)]
    omega
  · subst h1
    rw [dn_s, List.length_append, gp_len _ _ (Nat.le_refl _)]
    omega
theorem CGI_e {st : Nat → Nat} {k n : Nat} {tot fr g tot2 : Int} (h : CGI st k tot fr) (hk : 0 < k) (hg : g = ((n : Int) - fr + 8) / 9) (h0 : 0 ≤ (n : Int) - fr) (ht : tot2 = tot + g) : tot2 = (dn st k n).length := by
  rcases h with ⟨h1, h2, h3⟩ | ⟨j, h1, h2, h3⟩
  · omega
  · subst h1
    rw [dn_s, List.length_append, gp_len _ _ (Nat.le_refl _)]
    omega
/-- while all gaps are struck, the class -/
def DNI (m M : Nat → Nat → Int32) (e b : Nat) (cl : Int32) (pr : Nat → Int32) (st : Nat → Nat) (n1 n0 k t : Nat) : Prop := (∃ L, dn st n1 n0 = L ++ dn st k t ∧ SQc e b cl pr L m M) ∧ RST M e ∧ (t : Int) ≤ (M (e + 3) 1).toInt
theorem DNI_0 {m : Nat → Nat → Int32} {e b : Nat} {cl : Int32} {pr : Nat → Int32} {st : Nat → Nat} {n1 n0 : Nat} (hR : RST m e) (ht : (n0 : Int) ≤ (m (e + 3) 1).toInt) : DNI m m e b cl pr st n1 n0 n1 n0 := ⟨⟨[], rfl, rfl⟩, hR, ht⟩
theorem SQc_sz {e b : Nat} {cl : Int32} {pr : Nat → Int32} : ∀ {L : List (Nat × Nat)} {s : Nat} {m M : Nat → Nat → Int32}, SQc e b cl pr L m M → DSN L s → RST m e → (s : Int) ≤ (m (e + 3) 1).toInt → 4 ≤ e → e ≤ 53 → RST M e
  | [], _, _, _, h, _, r, _, _, _ => by have h : _ = _ := h; subst h; exact r
  | q :: L, s, m, M, ⟨M1, h1, h2, h3⟩, ⟨d1, d2, d3⟩, r, hs, he, he2 => by
    have z := STKc_sz h1 r (by omega) he he2
    exact SQc_sz h3 d3 h1.2.2.2.2.2.2.2.2.2.2.2 (by omega) he he2
theorem SQc_sz2 {e b : Nat} {cl : Int32} {pr : Nat → Int32} : ∀ {L : List (Nat × Nat)} {s x : Nat} {m M : Nat → Nat → Int32}, SQc e b cl pr L m M → DSN L s → RST m e → (s : Int) ≤ (m (e + 3) 1).toInt → (∀ q ∈ L, x ≤ q.1) → x ≤ s → 4 ≤ e → e ≤ 53 → (x : Int) ≤ (M (e + 3) 1).toInt
  | [], _, _, _, _, h, _, _, hs, _, hx, _, _ => by have h : _ = _ := h; subst h; omega
  | q :: L, s, x, m, M, ⟨M1, h1, h2, h3⟩, ⟨d1, d2, d3⟩, r, hs, hq, hx, he, he2 => by
    have z := STKc_sz h1 r (by omega) he he2
    exact SQc_sz2 h3 d3 h1.2.2.2.2.2.2.2.2.2.2.2 (by omega) (fun y hy => hq y (List.mem_cons_of_mem _ hy)) (hq q (List.mem_cons_self ..)) he he2
theorem gp_ge {a : Nat} : ∀ (k t : Nat), t ≤ k → ∀ q ∈ gp a t, a ≤ q.1 ∧ q.1 + q.2 ≤ t
  | 0, t, h, q, hq => by rw [gp_0 (by omega)] at hq; cases hq
  | k + 1, t, h, q, hq => by
    by_cases z : t ≤ a
    · rw [gp_0 z] at hq; cases hq
    · by_cases y : a + 9 ≤ t
      · rw [gp_9 y] at hq
        rcases List.mem_cons.mp hq with rfl | hq
        · show a ≤ t - 9 ∧ t - 9 + 9 ≤ t; omega
        · have := gp_ge k (t - 9) (by omega) q hq; omega
      · rw [gp_1 (by omega) (by omega)] at hq
        rcases List.mem_cons.mp hq with rfl | hq
        · show a ≤ a ∧ a + (t - a) ≤ t; omega
        · cases hq
theorem DNI_s {m M M2 : Nat → Nat → Int32} {e b : Nat} {cl : Int32} {pr : Nat → Int32} {st : Nat → Nat} {n1 n0 k t a t2 : Nat} (h : DNI m M e b cl pr st n1 n0 (k + 1) t) (s : SQc e b cl pr (gp a t) M M2) (ha : a = st k + 1) (hat : a ≤ t) (h2 : t2 = st k) (he : 4 ≤ e) (he2 : e ≤ 53) : DNI m M2 e b cl pr st n1 n0 k t2 := by
  subst ha; subst h2
  obtain ⟨⟨L, l1, l2⟩, r1, r2⟩ := h
  have d := gp_dsn (a := st k + 1) (K := []) trivial t t (Nat.le_refl _) (Or.inr rfl)
  rw [List.append_nil] at d
  refine ⟨⟨L ++ gp (st k + 1) t, by rw [l1, dn_s, List.append_assoc], SQc_app l2 s⟩, SQc_sz s d r1 r2 he he2, ?_⟩
  have := SQc_sz2 (x := st k + 1) s d r1 r2 (fun q hq => (gp_ge t t (Nat.le_refl _) q hq).1) hat he he2
  omega
theorem DNI_room {m M : Nat → Nat → Int32} {e b : Nat} {cl : Int32} {pr : Nat → Int32} {st : Nat → Nat} {n1 n0 k t : Nat} (h : DNI m M e b cl pr st n1 n0 k t) (hr : (m 97 6).toInt + (dn st n1 n0).length ≤ 60) : (M 97 6).toInt + (dn st k t).length ≤ 60 := by
  obtain ⟨⟨L, l1, l2⟩, _, _⟩ := h
  have q := (SQc_fr l2).2
  have l := congrArg List.length l1
  rw [List.length_append] at l
  omega
theorem dn_len_ge {st : Nat → Nat} {k t : Nat} : (gp (st k + 1) t).length ≤ (dn st (k + 1) t).length := by rw [dn_s, List.length_append]; omega
theorem DNI_e {m M M2 : Nat → Nat → Int32} {e b : Nat} {cl : Int32} {pr : Nat → Int32} {st : Nat → Nat} {n1 n0 t : Nat} (h : DNI m M e b cl pr st n1 n0 0 t) (s : SQc e b cl pr (gp 0 t) M M2) : SQc e b cl pr (dn st n1 n0) m M2 := by
  obtain ⟨⟨L, l1, l2⟩, _, _⟩ := h
  rw [l1]
  exact SQc_app l2 s
/-- what a LAW says of all PLACES: costs -/
def CKc (m : Nat → Nat → Int32) (la : Nat) (t : Int → Int) (b : Nat) (k : Int) (n0 : Nat) (c : Nat → Option Int) (pr : Nat → Int32) : Prop := ∀ p, p < n0 → PRc m la t b p k (pr p) ∧ (0 ≤ (pr p).toInt ∧ (pr p).toInt ≤ 99) ∧ ((FFc m la t b p k ∧ c p = some (pr p).toInt) ∨ (FBc m la t b p k ∧ c p = none))
def CKr (m : Nat → Nat → Int32) (t : Int → Int) (b : Nat) (k : Int) (n0 : Nat) (c : Nat → Option Int) (pr : Nat → Int32) : Prop := ∀ p, p < n0 → (FFr m t b p k ∧ PRr m t b p k (pr p) ∧ c p = some (pr p).toInt) ∨ (FBr m t b p k ∧ c p = none)
theorem clp_b (v : Int) : 0 ≤ clp v ∧ clp v ≤ 99 := by unfold clp; split <;> (try split) <;> omega
theorem prc_b {t : Int → Int} {fa : Nat → Int32} : ∀ n c, 0 ≤ prc t fa n c ∧ prc t fa n c ≤ 99
  | 0, _ => by show (0 : Int) ≤ 1 ∧ (1 : Int) ≤ 99; omega
  | n + 1, c => by
    by_cases h : t (cps t c) = 112 ∧ chb (CDC t (cps t c) fa) = true
    · rw [prc_y h.1 h.2]
      unfold prv
      split <;> first | exact clp_b _ | (constructor <;> decide)
    · rw [prc_n (by
        by_cases z : t (cps t c) = 112
        · refine Or.inr ?_
          cases hc : chb (CDC t (cps t c) fa) with
          | false => rfl
          | true => exact absurd ⟨z, hc⟩ h
        · exact Or.inl z)]
      exact prc_b n (c + 1)
theorem PRc_b {m : Nat → Nat → Int32} {la : Nat} {t : Int → Int} {b p : Nat} {k : Int} {v : Int32} (h : PRc m la t b p k v) : 0 ≤ v.toInt ∧ v.toInt ≤ 99 := by
  obtain ⟨fa, _, h2⟩ := h
  rw [h2]
  exact prc_b _ _
theorem CKc_of {m M : Nat → Nat → Int32} {la : Nat} {t : Int → Int} {b n0 : Nat} {k : Int} (h : ∀ p : Nat, p < n0 → ASK m la t b p k (M 108 p) (M 109 p)) : CKc m la t b k n0 (cCl M) (M 109) := fun p hp => by
  obtain ⟨h1, h2⟩ := h p hp
  refine ⟨h2, PRc_b h2, ?_⟩
  unfold cCl
  rcases h1 with ⟨a1, a2⟩ | ⟨a1, a2⟩
  · exact Or.inl ⟨a2, if_pos a1⟩
  · exact Or.inr ⟨a2, if_neg (by omega)⟩
theorem ddv_1 {m : Nat → Nat → Int32} {x : Int32} (h : (ddv m x).toInt = 1) : 0 ≤ x.toInt ∧ x.toInt ≤ 7 ∧ 0 < (m (61 + 2 * x.toInt.toNat) 1).toInt := by
  unfold ddv at h
  split at h
  · assumption
  · exact absurd h (by decide)
/-- done's answers, the class's -/
def DONc (ok : Prop) (m M : Nat → Nat → Int32) (la : Nat) (t : Int → Int) (b : Nat) (cl : Int32) (r dd : Nat → Int32) (n0 n1 : Nat) (v : Int) : Prop := (¬ ok ∧ v = -1 ∧ fr wN m M) ∨ (ok ∧ ∃ (c : Nat → Option Int) (pr : Nat → Int32), CKc m la t b cl.toInt n0 c pr ∧ ((ctv r dd c n0 n1 n0 0 = none ∧ v = -2 ∧ fr wN m M) ∨ (∃ (u : Int) (f : Nat → Int32), ctv r dd c n0 n1 n0 0 = some u ∧ STS r dd c n0 n1 f ∧ ((60 < (m 97 6).toInt + (dn (fun k => (f k).toInt.toNat) n1 n0).length ∧ v = -3 ∧ fr wN m M) ∨ ((m 97 6).toInt + (dn (fun k => (f k).toInt.toNat) n1 n0).length ≤ 60 ∧ v = (dn (fun k => (f k).toInt.toNat) n1 n0).length ∧ ∃ mq, fr wN m mq ∧ SQc (4 + 7 * b) b cl pr (dn (fun k => (f k).toInt.toNat) n1 n0) mq M)))))
