/-! the reference's reader of a LAW: what its rows hold while it reads -/
def opv (v : Int32) : Int := v.toInt / 1048576
def agv (v : Int32) : Int := v.toInt % 1048576
def pdv (v : Int32) : Int := if (2 ≤ opv v ∧ opv v ≤ 6) ∨ opv v = 10 then 1 else 0
def sov (v : Int32) : Int := if 2 ≤ opv v ∧ opv v ≤ 6 then 1 else 0
def ifv (v : Int32) : Prop := opv v = 11 ∨ opv v = 12
def sumF (g : Int32 → Int) (f : Nat → Int32) : Nat → Int
  | 0 => 0
  | k + 1 => sumF g f k + g (f k)
theorem sumF_eq {g : Int32 → Int} {f f' : Nat → Int32} : ∀ (k : Nat), (∀ j, j < k → f' j = f j) → sumF g f' k = sumF g f k
  | 0, _ => rfl
  | k + 1, h => by simp only [sumF]; rw [sumF_eq k (fun j hj => h j (by omega)), h k (by omega)]
theorem sumF_ge {g : Int32 → Int} {f : Nat → Int32} (hg : ∀ v, 0 ≤ g v) : ∀ k, 0 ≤ sumF g f k
  | 0 => Int.le_refl _
  | k + 1 => by simp only [sumF]; have := sumF_ge (f := f) hg k; have := hg (f k); omega
theorem pdv_ge (v : Int32) : 0 ≤ pdv v := by unfold pdv; split <;> omega
theorem sov_ge (v : Int32) : 0 ≤ sov v := by unfold sov; split <;> omega
abbrev plm (m : Nat → Nat → Int32) : Int := (m 123 12).toInt
abbrev lnm (m : Nat → Nat → Int32) : Int := (m 123 13).toInt
abbrev cmm (m : Nat → Nat → Int32) : Int := (m 123 16).toInt
abbrev wtm (m : Nat → Nat → Int32) : Int := (m 123 17).toInt
def SLK (m : Nat → Nat → Int32) : Int := plm m - cmm m - sumF pdv (m 131) (wtm m).toNat
def OPS (m : Nat → Nat → Int32) : Int := sumF sov (m 131) (wtm m).toNat
theorem OPS_ge (m : Nat → Nat → Int32) : 0 ≤ OPS m := sumF_ge sov_ge _
theorem SLK_cm {m : Nat → Nat → Int32} (h : 0 ≤ SLK m) : cmm m ≤ plm m := by have := sumF_ge (f := m 131) pdv_ge (wtm m).toNat; unfold SLK at h; omega
/-- one code of a row: heights by H, targets of its jumps set, or waiting -/
def okc (f w : Nat → Int32) (wn : Nat) (H : Nat → Int) (n k : Nat) : Prop :=
  (opv (f k) = 0 ∧ H (k + 1) ≤ H k + 1) ∨
  (opv (f k) = 1 ∧ H (k + 1) ≤ H k + 1 ∧ agv (f k) ≤ 9) ∨
  (opv (f k) = 10 ∧ 1 ≤ H k ∧ H (k + 1) ≤ H k) ∨
  (2 ≤ opv (f k) ∧ opv (f k) ≤ 9 ∧ 2 ≤ H k ∧ H (k + 1) ≤ H k - 1) ∨
  (ifv (f k) ∧ 1 ≤ H k ∧ H (k + 1) ≤ H k - 1 ∧ (((k : Int) < agv (f k) ∧ agv (f k) ≤ n ∧ H (agv (f k)).toNat ≤ H k) ∨ ∃ j, j < wn ∧ ifv (w j) ∧ agv (w j) = k))
def CW (cb c : Int) (m : Nat → Nat → Int32) : Prop := 0 ≤ cb ∧ cb ≤ cmm m ∧ ∃ H : Nat → Int, H cb.toNat = 0 ∧ H (cmm m).toNat = c ∧ ∀ k : Nat, cb.toNat ≤ k → k < (cmm m).toNat → okc (m 130) (m 131) (wtm m).toNat H (cmm m).toNat k
def EN (cb : Int) (m : Nat → Nat → Int32) : Prop := ∀ j : Nat, j < (wtm m).toNat → ifv (m 131 j) → cb ≤ agv (m 131 j) ∧ agv (m 131 j) < cmm m ∧ ifv (m 130 (agv (m 131 j)).toNat)
def HW (cb c : Int) (m : Nat → Nat → Int32) : Prop := CW cb (c + OPS m) m ∧ EN cb m
/-- what no place of it is touched keeps all -/
theorem HW_eq {cb c : Int} {m m' : Nat → Nat → Int32} (h1 : m' 123 16 = m 123 16) (h2 : m' 123 17 = m 123 17) (h3 : ∀ j, m' 130 j = m 130 j) (h4 : ∀ j, m' 131 j = m 131 j) (h : HW cb c m) : HW cb c m' := by
  have e3 : m' 130 = m 130 := funext h3
  have e4 : m' 131 = m 131 := funext h4
  unfold HW CW EN OPS cmm wtm at *
  rw [h1, h2, e3, e4]
  exact h
theorem SLK_eq {m m' : Nat → Nat → Int32} (h0 : m' 123 12 = m 123 12) (h1 : m' 123 16 = m 123 16) (h2 : m' 123 17 = m 123 17) (h4 : ∀ j, m' 131 j = m 131 j) : SLK m' = SLK m := by
  have e4 : m' 131 = m 131 := funext h4
  unfold SLK plm cmm wtm
  rw [h0, h1, h2, e4]
theorem HW_new {m : Nat → Nat → Int32} (h0 : 0 ≤ cmm m) (hw : wtm m = 0) : HW (cmm m) 0 m := by
  have e : OPS m = 0 := by unfold OPS; rw [hw]; rfl
  refine ⟨⟨h0, Int.le_refl _, fun _ => 0, rfl, by rw [e]; rfl, fun k h1 h2 => by omega⟩, fun j hj => ?_⟩
  rw [hw] at hj
  exact absurd hj (by simp)
theorem up2_f {m : Nat → Nat → Int32} {a i : Nat} {v : Int32} : up2 m a i v a i = v := up2_eq m a i v
/-- a code that is no jump is written -/
theorem HW_note {cb c d : Int} {m m1 m2 : Nat → Nat → Int32} {v u : Int32} (h : HW cb c m) (e1 : m1 = up2 m 130 (cmm m).toNat v) (e2 : m2 = up2 m1 123 16 u) (hu : u.toInt = cmm m + 1)
    (hop : (opv v = 0 ∧ d = 1) ∨ (opv v = 1 ∧ agv v ≤ 9 ∧ d = 1) ∨ (opv v = 10 ∧ d = 0 ∧ 1 ≤ c + OPS m) ∨ (2 ≤ opv v ∧ opv v ≤ 9 ∧ d = -1 ∧ 2 ≤ c + OPS m)) : HW cb (c + d) m2 ∧ SLK m2 = SLK m - 1 ∧ OPS m2 = OPS m := by
  obtain ⟨⟨hb0, hb, H, H0, Hc, hk⟩, hE⟩ := h
  have hcm : cmm m2 = cmm m + 1 := by unfold cmm; rw [e2, up2_f]; exact hu
  have hwt : wtm m2 = wtm m := by unfold wtm; rw [e2, e1, up2_ne (by omega), up2_ne (by omega)]
  have hpl : plm m2 = plm m := by unfold plm; rw [e2, e1, up2_ne (by omega), up2_ne (by omega)]
  have h131 : m2 131 = m 131 := by funext j; rw [e2, e1, up2_ne (by omega), up2_ne (by omega)]
  have h130 : ∀ k, k ≠ (cmm m).toNat → m2 130 k = m 130 k := fun k q => by rw [e2, e1, up2_ne (by omega), up2_ne (by omega)]
  have h130n : m2 130 (cmm m).toNat = v := by rw [e2, e1, up2_ne (by omega), up2_f]
  have hops : OPS m2 = OPS m := by unfold OPS; rw [hwt, h131]
  obtain ⟨H1, hH1, hH2⟩ : ∃ H1 : Nat → Int, H1 ((cmm m).toNat + 1) = c + OPS m + d ∧ ∀ k, k ≠ (cmm m).toNat + 1 → H1 k = H k := ⟨fun k => if k = (cmm m).toNat + 1 then c + OPS m + d else H k, if_pos rfl, fun k q => if_neg q⟩
  refine ⟨⟨⟨hb0, by omega, H1, ?_, ?_, ?_⟩, ?_⟩, ?_, hops⟩
  · rw [hH2 _ (by omega)]; exact H0
  · rw [hcm, show (cmm m + 1).toNat = (cmm m).toNat + 1 by omega, hH1, hops]; omega
  · intro k k1 k2
    by_cases hkn : k = (cmm m).toNat
    · subst hkn
      unfold okc
      rw [h130n, hH1, hH2 _ (by omega), Hc]
      rcases hop with ⟨q1, q2⟩ | ⟨q1, q2, q3⟩ | ⟨q1, q2, q3⟩ | ⟨q1, q2, q3, q4⟩
      · exact Or.inl ⟨q1, by omega⟩
      · exact Or.inr (Or.inl ⟨q1, by omega, q2⟩)
      · exact Or.inr (Or.inr (Or.inl ⟨q1, by omega, by omega⟩))
      · exact Or.inr (Or.inr (Or.inr (Or.inl ⟨q1, q2, by omega, by omega⟩)))
    · have k3 : k < (cmm m).toNat := by omega
      have q := hk k k1 k3
      unfold okc at q ⊢
      rw [h130 k hkn, hH2 (k + 1) (by omega), hH2 k (by omega), h131, hwt]
      rcases q with q | q | q | q | ⟨q1, q2, q3, q4⟩
      · exact Or.inl q
      · exact Or.inr (Or.inl q)
      · exact Or.inr (Or.inr (Or.inl q))
      · exact Or.inr (Or.inr (Or.inr (Or.inl q)))
      · refine Or.inr (Or.inr (Or.inr (Or.inr ⟨q1, q2, q3, ?_⟩)))
        rcases q4 with ⟨r1, r2, r3⟩ | r
        · exact Or.inl ⟨r1, by rw [hcm]; omega, by rw [hH2 _ (by omega)]; exact r3⟩
        · exact Or.inr r
  · intro j hj hf
    rw [hwt] at hj
    rw [h131] at hf ⊢
    obtain ⟨r1, r2, r3⟩ := hE j hj hf
    exact ⟨r1, by omega, by rw [h130 _ (by omega)]; exact r3⟩
  · unfold SLK; rw [hpl, hcm, hwt, h131]; omega
/-- one that is no jump begins to wait -/
theorem HW_push {cb c d : Int} {m m1 m2 : Nat → Nat → Int32} {v u : Int32} (h : HW cb c m) (h0 : 0 ≤ wtm m) (e1 : m1 = up2 m 131 (wtm m).toNat v) (e2 : m2 = up2 m1 123 17 u) (hu : u.toInt = wtm m + 1) (hv : ¬ ifv v) (hd : sov v = d) : HW cb (c - d) m2 ∧ SLK m2 = SLK m - pdv v ∧ OPS m2 = OPS m + d := by
  obtain ⟨⟨hb0, hb, H, H0, Hc, hk⟩, hE⟩ := h
  have hwt : wtm m2 = wtm m + 1 := by unfold wtm; rw [e2, up2_f]; exact hu
  have hcm : cmm m2 = cmm m := by unfold cmm; rw [e2, e1, up2_ne (by omega), up2_ne (by omega)]
  have hpl : plm m2 = plm m := by unfold plm; rw [e2, e1, up2_ne (by omega), up2_ne (by omega)]
  have h130 : m2 130 = m 130 := by funext j; rw [e2, e1, up2_ne (by omega), up2_ne (by omega)]
  have h131 : ∀ k, k ≠ (wtm m).toNat → m2 131 k = m 131 k := fun k q => by rw [e2, e1, up2_ne (by omega), up2_ne (by omega)]
  have h131n : m2 131 (wtm m).toNat = v := by rw [e2, e1, up2_ne (by omega), up2_f]
  have hn : (wtm m2).toNat = (wtm m).toNat + 1 := by omega
  have hops : OPS m2 = OPS m + d := by
    unfold OPS
    rw [hn]
    simp only [sumF]
    rw [sumF_eq _ (fun j hj => h131 j (by omega)), h131n, hd]
  refine ⟨⟨⟨hb0, by omega, H, H0, by rw [hcm, hops]; omega, ?_⟩, ?_⟩, ?_, hops⟩
  · intro k k1 k2
    rw [hcm] at k2
    have q := hk k k1 k2
    unfold okc at q ⊢
    rw [h130, hcm]
    rcases q with q | q | q | q | ⟨q1, q2, q3, q4⟩
    · exact Or.inl q
    · exact Or.inr (Or.inl q)
    · exact Or.inr (Or.inr (Or.inl q))
    · exact Or.inr (Or.inr (Or.inr (Or.inl q)))
    · refine Or.inr (Or.inr (Or.inr (Or.inr ⟨q1, q2, q3, ?_⟩)))
      rcases q4 with r | ⟨j, r1, r2, r3⟩
      · exact Or.inl r
      · exact Or.inr ⟨j, by omega, by rw [h131 j (by omega)]; exact r2, by rw [h131 j (by omega)]; exact r3⟩
  · intro j hj hf
    rw [hn] at hj
    by_cases hjn : j = (wtm m).toNat
    · rw [hjn, h131n] at hf; exact absurd hf hv
    · rw [h131 j hjn] at hf ⊢
      rw [h130, hcm]
      exact hE j (by omega) hf
  · unfold SLK
    rw [hpl, hcm, hn]
    simp only [sumF]
    rw [sumF_eq _ (fun j hj => h131 j (by omega)), h131n]
    omega
/-- the last one that waits, no jump, goes -/
theorem HW_pop {cb c d : Int} {m m2 : Nat → Nat → Int32} {u : Int32} (h : HW cb c m) (h0 : 1 ≤ wtm m) (e2 : m2 = up2 m 123 17 u) (hu : u.toInt = wtm m - 1) (hv : ¬ ifv (m 131 (wtm m - 1).toNat)) (hd : sov (m 131 (wtm m - 1).toNat) = d) : HW cb (c + d) m2 ∧ SLK m2 = SLK m + pdv (m 131 (wtm m - 1).toNat) ∧ OPS m2 = OPS m - d := by
  obtain ⟨⟨hb0, hb, H, H0, Hc, hk⟩, hE⟩ := h
  have hwt : wtm m2 = wtm m - 1 := by unfold wtm; rw [e2, up2_f]; exact hu
  have hcm : cmm m2 = cmm m := by unfold cmm; rw [e2, up2_ne (by omega)]
  have hpl : plm m2 = plm m := by unfold plm; rw [e2, up2_ne (by omega)]
  have h130 : m2 130 = m 130 := by funext j; rw [e2, up2_ne (by omega)]
  have h131 : m2 131 = m 131 := by funext j; rw [e2, up2_ne (by omega)]
  have hn : (wtm m).toNat = (wtm m - 1).toNat + 1 := by omega
  have hs : ∀ g : Int32 → Int, sumF g (m 131) (wtm m).toNat = sumF g (m 131) (wtm m - 1).toNat + g (m 131 (wtm m - 1).toNat) := fun g => by rw [hn]; rfl
  have hops : OPS m2 = OPS m - d := by unfold OPS; rw [hwt, h131, hs, hd]; omega
  refine ⟨⟨⟨hb0, by omega, H, H0, by rw [hcm, hops]; omega, ?_⟩, ?_⟩, ?_, hops⟩
  · intro k k1 k2
    rw [hcm] at k2
    have q := hk k k1 k2
    unfold okc at q ⊢
    rw [h130, h131, hcm]
    rcases q with q | q | q | q | ⟨q1, q2, q3, q4⟩
    · exact Or.inl q
    · exact Or.inr (Or.inl q)
    · exact Or.inr (Or.inr (Or.inl q))
    · exact Or.inr (Or.inr (Or.inr (Or.inl q)))
    · refine Or.inr (Or.inr (Or.inr (Or.inr ⟨q1, q2, q3, ?_⟩)))
      rcases q4 with r | ⟨j, r1, r2, r3⟩
      · exact Or.inl r
      · refine Or.inr ⟨j, ?_, r2, r3⟩
        by_cases hj : j = (wtm m - 1).toNat
        · rw [hj] at r2; exact absurd r2 hv
        · omega
  · intro j hj hf
    rw [h131] at hf ⊢
    rw [h130, hcm]
    exact hE j (by omega) hf
  · unfold SLK; rw [hpl, hcm, hwt, h131, hs]; omega
/-- a jump is written, and waits for its target -/
theorem HW_jump {cb c : Int} {m m1 m2 m3 m4 : Nat → Nat → Int32} {v u w z : Int32} (h : HW cb c m) (h0 : 0 ≤ wtm m) (e1 : m1 = up2 m 131 (wtm m).toNat v) (e2 : m2 = up2 m1 123 17 u) (hu : u.toInt = wtm m + 1) (e3 : m3 = up2 m2 130 (cmm m).toNat w) (e4 : m4 = up2 m3 123 16 z) (hz : z.toInt = cmm m + 1) (hv : ifv v) (hva : agv v = cmm m) (hw : ifv w) (hc : 1 ≤ c + OPS m) : HW cb (c - 1) m4 ∧ SLK m4 = SLK m - 1 ∧ OPS m4 = OPS m := by
  obtain ⟨⟨hb0, hb, H, H0, Hc, hk⟩, hE⟩ := h
  have hwt : wtm m4 = wtm m + 1 := by unfold wtm; rw [e4, e3, e2, up2_ne (by omega), up2_ne (by omega), up2_f]; exact hu
  have hcm : cmm m4 = cmm m + 1 := by unfold cmm; rw [e4, up2_f]; exact hz
  have hpl : plm m4 = plm m := by unfold plm; rw [e4, e3, e2, e1, up2_ne (by omega), up2_ne (by omega), up2_ne (by omega), up2_ne (by omega)]
  have h130 : ∀ k, k ≠ (cmm m).toNat → m4 130 k = m 130 k := fun k q => by rw [e4, e3, e2, e1, up2_ne (by omega), up2_ne (by omega), up2_ne (by omega), up2_ne (by omega)]
  have h130n : m4 130 (cmm m).toNat = w := by rw [e4, e3, up2_ne (by omega), up2_f]
  have h131 : ∀ k, k ≠ (wtm m).toNat → m4 131 k = m 131 k := fun k q => by rw [e4, e3, e2, e1, up2_ne (by omega), up2_ne (by omega), up2_ne (by omega), up2_ne (by omega)]
  have h131n : m4 131 (wtm m).toNat = v := by rw [e4, e3, e2, e1, up2_ne (by omega), up2_ne (by omega), up2_ne (by omega), up2_f]
  have hn : (wtm m4).toNat = (wtm m).toNat + 1 := by omega
  have hs0 : sov v = 0 := by unfold sov; unfold ifv at hv; rw [if_neg (by omega)]
  have hp0 : pdv v = 0 := by unfold pdv; unfold ifv at hv; rw [if_neg (by omega)]
  have hsu : ∀ g : Int32 → Int, sumF g (m4 131) (wtm m4).toNat = sumF g (m 131) (wtm m).toNat + g v := fun g => by
    rw [hn]; simp only [sumF]; rw [sumF_eq _ (fun j hj => h131 j (by omega)), h131n]
  have hops : OPS m4 = OPS m := by unfold OPS; rw [hsu, hs0]; omega
  obtain ⟨H1, hH1, hH2⟩ : ∃ H1 : Nat → Int, H1 ((cmm m).toNat + 1) = c - 1 + OPS m ∧ ∀ k, k ≠ (cmm m).toNat + 1 → H1 k = H k := ⟨fun k => if k = (cmm m).toNat + 1 then c - 1 + OPS m else H k, if_pos rfl, fun k q => if_neg q⟩
  refine ⟨⟨⟨hb0, by omega, H1, ?_, ?_, ?_⟩, ?_⟩, ?_, hops⟩
  · rw [hH2 _ (by omega)]; exact H0
  · rw [hcm, show (cmm m + 1).toNat = (cmm m).toNat + 1 by omega, hH1, hops]
  · intro k k1 k2
    by_cases hkn : k = (cmm m).toNat
    · subst hkn
      unfold okc
      rw [h130n, hH1, hH2 _ (by omega), Hc]
      exact Or.inr (Or.inr (Or.inr (Or.inr ⟨hw, by omega, by omega, Or.inr ⟨(wtm m).toNat, by omega, by rw [h131n]; exact hv, by rw [h131n, hva]; omega⟩⟩)))
    · have k3 : k < (cmm m).toNat := by omega
      have q := hk k k1 k3
      unfold okc at q ⊢
      rw [h130 k hkn, hH2 (k + 1) (by omega), hH2 k (by omega)]
      rcases q with q | q | q | q | ⟨q1, q2, q3, q4⟩
      · exact Or.inl q
      · exact Or.inr (Or.inl q)
      · exact Or.inr (Or.inr (Or.inl q))
      · exact Or.inr (Or.inr (Or.inr (Or.inl q)))
      · refine Or.inr (Or.inr (Or.inr (Or.inr ⟨q1, q2, q3, ?_⟩)))
        rcases q4 with ⟨r1, r2, r3⟩ | ⟨j, r1, r2, r3⟩
        · exact Or.inl ⟨r1, by rw [hcm]; omega, by rw [hH2 _ (by omega)]; exact r3⟩
        · exact Or.inr ⟨j, by omega, by rw [h131 j (by omega)]; exact r2, by rw [h131 j (by omega)]; exact r3⟩
  · intro j hj hf
    rw [hn] at hj
    by_cases hjn : j = (wtm m).toNat
    · rw [hjn, h131n, hva]
      exact ⟨hb, by omega, by rw [h130n]; exact hw⟩
    · rw [h131 j hjn] at hf ⊢
      obtain ⟨r1, r2, r3⟩ := hE j (by omega) hf
      exact ⟨r1, by omega, by rw [h130 _ (by omega)]; exact r3⟩
  · unfold SLK; rw [hpl, hcm, hsu, hp0]; omega
/-- the last jump that waits gets its target: here -/
theorem HW_land {cb c : Int} {m m1 m2 : Nat → Nat → Int32} {x u : Int32} (h : HW cb c m) (h0 : 1 ≤ wtm m) (hf : ifv (m 131 (wtm m - 1).toNat)) (e1 : m1 = up2 m 130 (agv (m 131 (wtm m - 1).toNat)).toNat x) (hx : opv x = opv (m 130 (agv (m 131 (wtm m - 1).toNat)).toNat)) (hxa : agv x = cmm m) (e2 : m2 = up2 m1 123 17 u) (hu : u.toInt = wtm m - 1) (hc : c + OPS m ≤ 1) : HW cb c m2 ∧ SLK m2 = SLK m ∧ OPS m2 = OPS m ∧ ∀ k : Nat, (k : Int) < cb → m2 130 k = m 130 k := by
  obtain ⟨⟨hb0, hb, H, H0, Hc, hk⟩, hE⟩ := h
  obtain ⟨t1, t2, t3⟩ := hE (wtm m - 1).toNat (by omega) hf
  generalize hp : agv (m 131 (wtm m - 1).toNat) = p at *
  have hwt : wtm m2 = wtm m - 1 := by unfold wtm; rw [e2, up2_f]; exact hu
  have hcm : cmm m2 = cmm m := by unfold cmm; rw [e2, e1, up2_ne (by omega), up2_ne (by omega)]
  have hpl : plm m2 = plm m := by unfold plm; rw [e2, e1, up2_ne (by omega), up2_ne (by omega)]
  have h131 : m2 131 = m 131 := by funext j; rw [e2, e1, up2_ne (by omega), up2_ne (by omega)]
  have h130 : ∀ k, k ≠ p.toNat → m2 130 k = m 130 k := fun k q => by rw [e2, e1, up2_ne (by omega), up2_ne (by omega)]
  have h130n : m2 130 p.toNat = x := by rw [e2, e1, up2_ne (by omega), up2_f]
  have hn : (wtm m).toNat = (wtm m - 1).toNat + 1 := by omega
  have hs : ∀ g : Int32 → Int, sumF g (m 131) (wtm m).toNat = sumF g (m 131) (wtm m - 1).toNat + g (m 131 (wtm m - 1).toNat) := fun g => by rw [hn]; rfl
  have hs0 : sov (m 131 (wtm m - 1).toNat) = 0 := by unfold sov; unfold ifv at hf; rw [if_neg (by omega)]
  have hp0 : pdv (m 131 (wtm m - 1).toNat) = 0 := by unfold pdv; unfold ifv at hf; rw [if_neg (by omega)]
  have hops : OPS m2 = OPS m := by unfold OPS; rw [hwt, h131, hs, hs0]; omega
  have hxi : ifv x := by unfold ifv at t3 ⊢; omega
  refine ⟨⟨⟨hb0, by omega, H, H0, by rw [hcm, hops]; exact Hc, ?_⟩, ?_⟩, ?_, hops, fun k hkb => h130 k (by omega)⟩
  · intro k k1 k2
    rw [hcm] at k2
    have q := hk k k1 k2
    unfold okc at q ⊢
    rw [h131, hcm]
    by_cases hkp : k = p.toNat
    · subst hkp
      rw [h130n, hxa]
      have q1 : 1 ≤ H p.toNat ∧ H (p.toNat + 1) ≤ H p.toNat - 1 := by
        unfold ifv at t3 q
        rcases q with q | q | q | q | q
        · omega
        · omega
        · omega
        · omega
        · exact ⟨q.2.1, q.2.2.1⟩
      exact Or.inr (Or.inr (Or.inr (Or.inr ⟨hxi, q1.1, q1.2, Or.inl ⟨by omega, by omega, by rw [Hc]; omega⟩⟩)))
    · rw [h130 k hkp]
      rcases q with q | q | q | q | ⟨q1, q2, q3, q4⟩
      · exact Or.inl q
      · exact Or.inr (Or.inl q)
      · exact Or.inr (Or.inr (Or.inl q))
      · exact Or.inr (Or.inr (Or.inr (Or.inl q)))
      · refine Or.inr (Or.inr (Or.inr (Or.inr ⟨q1, q2, q3, ?_⟩)))
        rcases q4 with r | ⟨j, r1, r2, r3⟩
        · exact Or.inl r
        · refine Or.inr ⟨j, ?_, r2, r3⟩
          by_cases hj : j = (wtm m - 1).toNat
          · rw [hj, hp] at r3; omega
          · omega
  · intro j hj hff
    rw [h131] at hff ⊢
    obtain ⟨r1, r2, r3⟩ := hE j (by omega) hff
    refine ⟨r1, by omega, ?_⟩
    by_cases hq : (agv (m 131 j)).toNat = p.toNat
    · rw [hq, h130n]; exact hxi
    · rw [h130 _ hq]; exact r3
  · unfold SLK; rw [hpl, hcm, hwt, h131, hs, hp0]; omega
/-- a row of codes that can be reckoned from a to b -/
def WFc (f : Nat → Int32) (a b : Nat) : Prop := ∃ H : Nat → Int, H a = 0 ∧ ∀ k : Nat, a ≤ k → k < b →
  ((opv (f k) = 0 ∧ H (k + 1) ≤ H k + 1) ∨ (opv (f k) = 1 ∧ H (k + 1) ≤ H k + 1 ∧ agv (f k) ≤ 9) ∨ (opv (f k) = 10 ∧ 1 ≤ H k ∧ H (k + 1) ≤ H k) ∨ (2 ≤ opv (f k) ∧ opv (f k) ≤ 9 ∧ 2 ≤ H k ∧ H (k + 1) ≤ H k - 1) ∨
   (ifv (f k) ∧ 1 ≤ H k ∧ H (k + 1) ≤ H k - 1 ∧ (k : Int) < agv (f k) ∧ agv (f k) ≤ b ∧ H (agv (f k)).toNat ≤ H k))
theorem HW_done {cb c : Int} {m : Nat → Nat → Int32} (h : HW cb c m) (hw : wtm m = 0) : WFc (m 130) cb.toNat (cmm m).toNat := by
  obtain ⟨⟨hb0, hb, H, H0, Hc, hk⟩, hE⟩ := h
  refine ⟨H, H0, fun k k1 k2 => ?_⟩
  have q := hk k k1 k2
  unfold okc at q
  rcases q with q | q | q | q | ⟨q1, q2, q3, q4⟩
  · exact Or.inl q
  · exact Or.inr (Or.inl q)
  · exact Or.inr (Or.inr (Or.inl q))
  · exact Or.inr (Or.inr (Or.inr (Or.inl q)))
  · rcases q4 with ⟨r1, r2, r3⟩ | ⟨j, r1, r2, r3⟩
    · exact Or.inr (Or.inr (Or.inr (Or.inr ⟨q1, q2, q3, r1, by omega, r3⟩)))
    · rw [hw] at r1; exact absurd r1 (by simp)
theorem WFc_eq {f f' : Nat → Int32} {a b : Nat} (h : WFc f a b) (he : ∀ k, a ≤ k → k < b → f' k = f k) : WFc f' a b := by
  obtain ⟨H, H0, hk⟩ := h
  refine ⟨H, H0, fun k k1 k2 => ?_⟩
  rw [he k k1 k2]
  exact hk k k1 k2
theorem WFc_nil {f : Nat → Int32} {a b : Nat} (h : b ≤ a) : WFc f a b := ⟨fun _ => 0, rfl, fun k k1 k2 => by omega⟩
def hereV (m : Nat → Nat → Int32) : Int := if (m 123 12).toInt < (m 123 13).toInt then (m 129 (m 123 12).toInt.toNat &&& 255).toInt else -1
theorem up2_ix {m : Nat → Nat → Int32} {a i j : Nat} {v : Int32} (h : i = j) : up2 m a i v = up2 m a j v := by rw [h]
/-- a code was written: op, v -/
def NOTE (op v : Int) (m m' : Nat → Nat → Int32) : Prop := ∃ u w : Int32, m' = up2 (up2 m 130 (m 123 16).toInt.toNat u) 123 16 w ∧ u.toInt = 1048576 * op + v ∧ w.toInt = (m 123 16).toInt + 1
theorem NOTE_op {op v : Int} {u : Int32} (h : u.toInt = 1048576 * op + v) (h1 : 0 ≤ v) (h2 : v < 1048576) : opv u = op ∧ agv u = v := by unfold opv agv; omega
def KB (cb : Int) (m m' : Nat → Nat → Int32) : Prop := ∀ k : Nat, (k : Int) < cb → m' 130 k = m 130 k
theorem KB.rf {cb : Int} {m : Nat → Nat → Int32} : KB cb m m := fun _ _ => rfl
theorem KB.trans {cb : Int} {m m' m2 : Nat → Nat → Int32} (h : KB cb m m') (h2 : KB cb m' m2) : KB cb m m2 := fun k q => (h2 k q).trans (h k q)
theorem KB_of {cb : Int} {m m' : Nat → Nat → Int32} (h : ∀ j, m' 130 j = m 130 j) : KB cb m m' := fun k _ => h k
theorem NOTE_KB {op v cb : Int} {m m' : Nat → Nat → Int32} (h : NOTE op v m m') (hc : cb ≤ (m 123 16).toInt) : KB cb m m' := by
  obtain ⟨u, w, e, -, -⟩ := h
  intro k hk
  rw [e, up2_ne (by omega), up2_ne (by omega)]
theorem NOTE_131 {op v : Int} {m m' : Nat → Nat → Int32} (h : NOTE op v m m') : (∀ j, m' 131 j = m 131 j) ∧ m' 123 17 = m 123 17 ∧ m' 123 12 = m 123 12 ∧ m' 123 13 = m 123 13 ∧ (m' 123 16).toInt = (m 123 16).toInt + 1 := by
  obtain ⟨u, w, e, -, hw⟩ := h
  refine ⟨fun j => by rw [e, up2_ne (by omega), up2_ne (by omega)], by rw [e, up2_ne (by omega), up2_ne (by omega)], by rw [e, up2_ne (by omega), up2_ne (by omega)], by rw [e, up2_ne (by omega), up2_ne (by omega)], by rw [e, up2_f]; exact hw⟩
theorem NOTE_HW {op v cb c d : Int} {m m' : Nat → Nat → Int32} (n : NOTE op v m m') (h : HW cb c m) (h1 : 0 ≤ v) (h2 : v < 1048576) (hop : (op = 0 ∧ d = 1) ∨ (op = 1 ∧ v ≤ 9 ∧ d = 1) ∨ (op = 10 ∧ d = 0 ∧ 1 ≤ c + OPS m) ∨ (2 ≤ op ∧ op ≤ 9 ∧ d = -1 ∧ 2 ≤ c + OPS m)) : HW cb (c + d) m' ∧ SLK m' = SLK m - 1 ∧ OPS m' = OPS m := by
  obtain ⟨u, w, e, hu, hw⟩ := n
  obtain ⟨q1, q2⟩ := NOTE_op hu h1 h2
  exact HW_note h rfl e hw (by rw [q1, q2]; exact hop)
theorem OPS_top {m : Nat → Nat → Int32} (h0 : 1 ≤ wtm m) (ht : 2 ≤ opv (m 131 (wtm m - 1).toNat) ∧ opv (m 131 (wtm m - 1).toNat) ≤ 6) : 1 ≤ OPS m := by
  unfold OPS
  rw [show (wtm m).toNat = (wtm m - 1).toNat + 1 by omega]
  simp only [sumF]
  have h1 := sumF_ge (f := m 131) sov_ge (wtm m - 1).toNat
  have h2 : sov (m 131 (wtm m - 1).toNat) = 1 := by unfold sov; rw [if_pos ht]
  omega
/-- a sign of a sum that waits is written and goes -/
theorem CS_step {cb c : Int} {m m2 m3 : Nat → Nat → Int32} {z : Int32} (h : HW cb c m) (hc : 1 ≤ c) (h0 : 1 ≤ (m 123 17).toInt) {op : Int} (hop : op = opv (m 131 ((m 123 17).toInt - 1).toNat)) (h1 : 2 ≤ op) (h2 : op ≤ 6) (n : NOTE op 0 m m2) (e : m3 = up2 m2 123 17 z) (hz : z.toInt = (m 123 17).toInt - 1) : HW cb c m3 ∧ SLK m3 = SLK m ∧ KB cb m m3 ∧ (∀ j, m3 131 j = m 131 j) ∧ (m3 123 17).toInt = (m 123 17).toInt - 1 := by
  have ho := OPS_top (m := m) h0 (by rw [← hop]; exact ⟨h1, h2⟩)
  obtain ⟨a1, a2, a3⟩ := NOTE_HW (d := -1) n h (by omega) (by omega) (by omega)
  obtain ⟨b1, b2, b3, b4, b5⟩ := NOTE_131 n
  have hb : cb ≤ (m 123 16).toInt := h.1.2.1
  have hw2 : wtm m2 = (m 123 17).toInt := by show (m2 123 17).toInt = _; rw [b2]
  have ht : m2 131 (wtm m2 - 1).toNat = m 131 ((m 123 17).toInt - 1).toNat := by rw [hw2, b1]
  have hs : sov (m2 131 (wtm m2 - 1).toNat) = 1 := by rw [ht]; unfold sov; rw [if_pos (by omega)]
  have hp : pdv (m2 131 (wtm m2 - 1).toNat) = 1 := by rw [ht]; unfold pdv; rw [if_pos (by omega)]
  obtain ⟨c1, c2, c3⟩ := HW_pop (d := 1) a1 (by rw [hw2]; exact h0) e (by rw [hw2]; exact hz) (by rw [ht]; unfold ifv; omega) hs
  refine ⟨by rw [show c = c + -1 + 1 by omega]; exact c1, by omega, ?_, ?_, by rw [e, up2_f]; exact hz⟩
  · exact (NOTE_KB n hb).trans (KB_of (fun j => by rw [e, up2_ne (by omega)]))
  · intro j; rw [e, up2_ne (by omega)]; exact b1 j
/-- a NOT that waits is written and goes -/
theorem EP_step {cb c : Int} {m m2 m3 m4 : Nat → Nat → Int32} {z y : Int32} (h : HW cb c m) (hc : 1 ≤ c) (h0 : 1 ≤ (m 123 17).toInt) (hop : opv (m 131 ((m 123 17).toInt - 1).toNat) = 10) (n : NOTE 10 0 m m2) (e : m3 = up2 m2 123 17 z) (hz : z.toInt = (m 123 17).toInt - 1) (e4 : m4 = up2 m3 123 15 y) : HW cb c m4 ∧ SLK m4 = SLK m ∧ KB cb m m4 ∧ (∀ j, m4 131 j = m 131 j) ∧ (m4 123 17).toInt = (m 123 17).toInt - 1 ∧ OPS m4 = OPS m := by
  have ho := OPS_ge m
  obtain ⟨a1, a2, a3⟩ := NOTE_HW (d := 0) n h (by omega) (by omega) (by omega)
  obtain ⟨b1, b2, b3, b4, b5⟩ := NOTE_131 n
  have hb : cb ≤ (m 123 16).toInt := h.1.2.1
  have hw2 : wtm m2 = (m 123 17).toInt := by show (m2 123 17).toInt = _; rw [b2]
  have ht : m2 131 (wtm m2 - 1).toNat = m 131 ((m 123 17).toInt - 1).toNat := by rw [hw2, b1]
  have hs : sov (m2 131 (wtm m2 - 1).toNat) = 0 := by rw [ht]; unfold sov; rw [if_neg (by omega)]
  have hp : pdv (m2 131 (wtm m2 - 1).toNat) = 1 := by rw [ht]; unfold pdv; rw [if_pos (by omega)]
  obtain ⟨c1, c2, c3⟩ := HW_pop (d := 0) a1 (by rw [hw2]; exact h0) e (by rw [hw2]; exact hz) (by rw [ht]; unfold ifv; omega) hs
  have g1 : m4 123 16 = m3 123 16 := by rw [e4, up2_ne (by omega)]
  have g2 : m4 123 17 = m3 123 17 := by rw [e4, up2_ne (by omega)]
  have g0 : m4 123 12 = m3 123 12 := by rw [e4, up2_ne (by omega)]
  have g3 : ∀ j, m4 130 j = m3 130 j := fun j => by rw [e4, up2_ne (by omega)]
  have g4 : ∀ j, m4 131 j = m3 131 j := fun j => by rw [e4, up2_ne (by omega)]
  refine ⟨HW_eq g1 g2 g3 g4 (by rw [show c = c + 0 + 0 by omega]; exact c1), by rw [SLK_eq g0 g1 g2 g4]; omega, ?_, ?_, by rw [g2, e, up2_f]; exact hz, ?_⟩
  · exact (NOTE_KB n hb).trans ((KB_of (fun j => by rw [e, up2_ne (by omega)])).trans (KB_of g3))
  · intro j; rw [g4, e, up2_ne (by omega)]; exact b1 j
  · have : OPS m4 = OPS m3 := by unfold OPS; rw [show wtm m4 = wtm m3 from congrArg Int32.toInt g2, show m4 131 = m3 131 from funext g4]
    omega
/-- what closesSums leaves -/
def CSI (cb c : Int) (m m' : Nat → Nat → Int32) : Prop := HW cb c m' ∧ SLK m' = SLK m ∧ KB cb m m' ∧ (m' 123 17).toInt ≤ (m 123 17).toInt ∧ 0 ≤ (m' 123 17).toInt ∧ (∀ j, m' 131 j = m 131 j) ∧ ∀ j : Nat, (m' 123 17).toInt ≤ j → (j : Int) < (m 123 17).toInt → 2 ≤ opv (m 131 j) ∧ opv (m 131 j) ≤ 6
theorem CSI.start {cb c : Int} {m : Nat → Nat → Int32} (h : HW cb c m) (h0 : 0 ≤ (m 123 17).toInt) : CSI cb c m m := ⟨h, rfl, KB.rf, Int.le_refl _, h0, fun _ => rfl, fun j h1 h2 => by omega⟩
theorem CSI.step {cb c : Int} {m0 m m2 m3 : Nat → Nat → Int32} {z : Int32} (h : CSI cb c m0 m) (hc : 1 ≤ c) (h0 : 1 ≤ (m 123 17).toInt) {op : Int} (hop : op = opv (m 131 ((m 123 17).toInt - 1).toNat)) (h1 : 2 ≤ op) (h2 : op ≤ 6) (n : NOTE op 0 m m2) (e : m3 = up2 m2 123 17 z) (hz : z.toInt = (m 123 17).toInt - 1) : CSI cb c m0 m3 := by
  obtain ⟨a1, a2, a3, a4, a5, a6, a7⟩ := h
  obtain ⟨b1, b2, b3, b4, b5⟩ := CS_step a1 hc h0 hop h1 h2 n e hz
  refine ⟨b1, by omega, a3.trans b3, by omega, by omega, fun j => (b4 j).trans (a6 j), fun j q1 q2 => ?_⟩
  by_cases hj : (j : Int) = (m 123 17).toInt - 1
  · have : j = ((m 123 17).toInt - 1).toNat := by omega
    rw [← a6, this, ← hop]; exact ⟨h1, h2⟩
  · exact a7 j (by omega) q2
theorem CSI.wt1 {cb c : Int} {m m' : Nat → Nat → Int32} (h : CSI cb c m m') {j : Nat} (hj : (j : Int) < (m 123 17).toInt) (hn : ¬ (2 ≤ opv (m 131 j) ∧ opv (m 131 j) ≤ 6)) : (j : Int) < (m' 123 17).toInt := by
  apply Int.lt_of_not_ge
  intro q
  exact hn (h.2.2.2.2.2.2 j q hj)
theorem pow10_s {k : Int} (h1 : 1 ≤ k) (h2 : k ≤ 5) : pow10 k = 10 * pow10 (k - 1) := by
  rcases (show k = 1 ∨ k = 2 ∨ k = 3 ∨ k = 4 ∨ k = 5 by omega) with q | q | q | q | q <;> subst q <;> rfl
theorem pow10_4 {k : Int} (h : k ≤ 4) : pow10 k ≤ 10000 := by unfold pow10; repeat' split <;> omega
