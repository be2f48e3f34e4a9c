/-! THE SHORTEST that is kept; both sides alike with it -/
def CCH (m : Nat → Nat → Int32) : Prop := (m 169 1).toInt ≠ 0 → SHC m (m 169 1) (m 170 1).toInt
theorem CCH_eq {m m2 : Nat → Nat → Int32} (h : CCH m) (e9 : m2 169 1 = m 169 1) (e0 : m2 170 1 = m 170 1) (w : ∀ a j, 61 ≤ a → a ≤ 76 → m2 a j = m a j) : CCH m2 := by
  unfold CCH at h ⊢
  rw [e9, e0]
  exact fun q => SHC_eq w (h q)
theorem CCH_0 {m : Nat → Nat → Int32} (h : (m 169 1).toInt = 0) : CCH m := fun q => absurd h q
theorem CCH_of {m : Nat → Nat → Int32} {x : Int32} (h : m 169 1 = x ∧ SHC m x (m 170 1).toInt) : CCH m := fun _ => by rw [h.1]; exact h.2
theorem tld_255 (m : Nat → Nat → Int32) : 0 ≤ (tld m 8).toInt ∧ (tld m 8).toInt ≤ 255 := by
  have hz : (tld m 8).toBitVec.toNat < 2 ^ 8 := by
    apply Nat.lt_pow_two_of_testBit
    intro j hj
    by_cases y : j < 32
    · have e := tld_bit m y 8 (by omega)
      have h8 : ¬ j < 8 := by omega
      simp only [h8, decide_false, Bool.false_and] at e
      exact e
    · exact Nat.testBit_lt_two_pow (Nat.lt_of_lt_of_le (tld m 8).toBitVec.isLt (Nat.pow_le_pow_right (by omega) (by omega)))
  have c := i32_cond (tld m 8)
  omega
theorem cOK_mbs {m : Nat → Nat → Int32} {x : Int32} (h : cOK m x) : x.toInt ≠ 0 ∧ (mbs x 8).length ≤ 4 ∧ ∀ k, k ∈ mbs x 8 → (m (61 + 2 * k) 1).toInt ≤ 12 := by
  obtain ⟨h1, h2, h3, h4⟩ := h
  have z : (x &&& (tld m 8 ^^^ -1)).toInt = 0 := by
    unfold adv at h1
    split at h1
    · assumption
    · exact absurd (show (0 : Int32).toInt = 0 by decide) h1
  have t := tld_255 m
  obtain ⟨x0, x1⟩ := sub255 t.1 t.2 z
  have e := bcn_x x0 x1
  have l := mbs_bF x 8
  refine ⟨fun q => ?_, by omega, fun k hk => h4 k (mbs_lt hk) (mbs_am hk)⟩
  have : x = 0 := Int32.toInt_inj.mp (by rw [q, Int32.toInt_zero])
  rw [this] at e
  have e0 : bF 0 8 = 0 := by decide
  rw [this] at h2
  omega
theorem cOK_G {m : Nat → Nat → Int32} {x : Int32} : cOK m x ↔ G1 m x ∧ G2 m x :=
  ⟨fun h => ⟨⟨h.1, h.2.1, h.2.2.1⟩, h.2.2.2⟩, fun h => ⟨h.1.1, h.1.2.1, h.1.2.2, h.2⟩⟩
theorem pxy_sz {m m2 : Nat → Nat → Int32} {x : Int32} {i j : Nat} (hij : i < j) (h8 : j < 8) (g : G2 m x) (bi : (amv x (Int32.ofInt i)).toInt ≠ 0) (bj : (amv x (Int32.ofInt j)).toInt ≠ 0) (w : ∀ a q, isW a = true → m2 a q = m a q) : ∀ k, k ∈ mbs (pxy i j) 8 → (m2 (61 + 2 * k) 1).toInt ≤ 12 := by
  intro k hk
  rw [mbs_pxy ⟨i, by omega⟩ ⟨j, h8⟩ hij] at hk
  have hk : k = i ∨ k = j := by simpa using hk
  rw [w _ _ (isW_i (by omega))]
  rcases hk with rfl | rfl
  · exact g _ (by omega) bi
  · exact g _ h8 bj
theorem pxy_ok {i j : Nat} (hij : i < j) (h8 : j < 8) : (pxy i j).toInt ≠ 0 ∧ (mbs (pxy i j) 8).length ≤ 4 := by
  refine ⟨(pxy_bits ⟨i, by omega⟩ ⟨j, h8⟩ hij).2.2.2, ?_⟩
  rw [mbs_pxy ⟨i, by omega⟩ ⟨j, h8⟩ hij]
  exact Nat.le_of_ble_eq_true rfl
theorem SHC_fr {m m2 : Nat → Nat → Int32} {x : Int32} {v : Int} (w : ∀ a q, isW a = true → m2 a q = m a q) (h : SHC m2 x v) : SHC m x v := SHC_eq (fun a q h1 h2 => (w a q (isW_i (Or.inl ⟨h1, h2⟩))).symm) h
/-- between two calls -/
def EQS (T : List mv_T) (m : Nat → Nat → Int32) : Prop := EQW m ∧ (T = TL → m 169 1 = 0) ∧ CCH m
theorem EQS_k {T : List mv_T} {m m2 : Nat → Nat → Int32} (h : EQS T m) (hW : EQW m2) (e9 : m2 169 1 = m 169 1) (e0 : m2 170 1 = m 170 1) (w : ∀ a j, isW a = true → m2 a j = m a j) : EQS T m2 :=
  ⟨hW, fun q => by rw [e9]; exact h.2.1 q, CCH_eq h.2.2 e9 e0 (fun a j h1 h2 => w a j (isW_i (Or.inl ⟨h1, h2⟩)))⟩
theorem TL2_ne : TL2 ≠ TL := fun h => by
  have := congrArg List.length h
  unfold TL2 TLc at this
  rw [List.length_append] at this
  simp at this
theorem EQS_c {T : List mv_T} {m : Nat → Nat → Int32} (hC : TC T) (hW : EQW m) (h : CCH m) : EQS T m := ⟨hW, fun q => absurd (hC.symm.trans q) TL2_ne, h⟩
theorem blank_ES {T : List mv_T} {m m1 m2 : Nat → Nat → Int32} {n v : Int} (I : IV BB m) (h : EQS T m) (hW : EQW m2) (hb : BLK n (m 0 2).toInt (m 1 1).toInt (LET 2 m n) v (m1 0 2).toInt (m1 1 1).toInt) (p : BLWc m m1 n) (dw : ∀ a j, isW a = true → m2 a j = m1 a j) (e9 : m2 169 1 = m 169 1) (e0 : m2 170 1 = m 170 1) : EQS T m2 := by
  have b0 : 0 ≤ (m 0 2).toInt := (I 0 2).1
  have b8 : (m 0 2).toInt ≤ 8 := (I 0 2).2
  refine ⟨hW, fun q => by rw [e9]; exact h.2.1 q, CCH_eq h.2.2 e9 e0 (fun a j h1 h2 => ?_)⟩
  have z := isW_i (a := a) (Or.inl ⟨h1, h2⟩)
  refine (dw a j z).trans (p.1 a j z ?_)
  rcases hb with ⟨_, _, a3, _⟩ | ⟨_, _, a3, _⟩
  · exact Or.inr ⟨by unfold cnc; omega, by unfold cnc; omega⟩
  · exact Or.inl a3
/-- what a DEED told does to it -/
def DFS (T : List mv_T) (m m1 : Nat → Nat → Int32) (v : Int) : Prop := (T = TL ∧ m1 169 1 = m 169 1) ∨ (TC T ∧ ((m1 169 1).toInt = 0 ∨ (v < 0 ∧ m1 169 1 = m 169 1 ∧ m1 170 1 = m 170 1 ∧ ∀ j, m1 171 j = m 171 j)))
theorem deed_ES {T : List mv_T} {m m1 m2 : Nat → Nat → Int32} {i n v : Int} (h : EQS T m) (hW : EQW m2) (p : DDWc m m1 i n v) (d : DFS T m m1 v) (dw : ∀ a j, isW a = true → m2 a j = m1 a j) (e9 : m2 169 1 = m1 169 1) (e0 : m2 170 1 = m1 170 1) : EQS T m2 := by
  rcases d with ⟨d1, d2⟩ | ⟨d1, d2⟩
  · have z : m2 169 1 = 0 := by rw [e9, d2]; exact h.2.1 d1
    exact ⟨hW, fun _ => z, CCH_0 (by rw [z]; exact Int32.toInt_zero)⟩
  · rcases d2 with d2 | ⟨d2, d3, d4, _⟩
    · exact EQS_c d1 hW (CCH_0 (by rw [e9]; exact d2))
    · exact EQS_c d1 hW (CCH_eq h.2.2 (e9.trans d3) (e0.trans d4) (fun a j h1 h2 => (dw a j (isW_i (Or.inl ⟨h1, h2⟩))).trans (p.1 a j (isW_i (Or.inl ⟨h1, h2⟩)) (Or.inl d2))))
theorem RFV_Z {m : Nat → Nat → Int32} {x v : Int32} (h : RFV m x v.toInt) : RFZ m x v := by
  unfold RFZ
  rw [cOK_G]
  rcases h with ⟨a, b⟩ | ⟨a, b, c⟩ | ⟨a, b, c⟩
  · exact ⟨fun q => by omega, fun q => absurd q.1 a⟩
  · exact ⟨fun q => by omega, fun q => absurd q.2 b⟩
  · exact ⟨fun _ => ⟨a, b⟩, fun _ => c⟩
theorem RFV_ok {m : Nat → Nat → Int32} {x v : Int32} (h : RFV m x v.toInt) (h0 : v.toInt = 0) : G1 m x ∧ G2 m x := cOK_G.mp ((RFV_Z h).mp h0)
theorem RFV_no {m : Nat → Nat → Int32} {x v : Int32} {S : Int32 → Int → Prop} (h : RFV m x v.toInt) (h0 : v.toInt ≠ 0) : BDV (G1 m x) (G2 m x) S x v.toInt := by
  rcases h with ⟨a, b⟩ | ⟨a, b, c⟩ | ⟨a, b, c⟩
  · exact Or.inl ⟨a, b⟩
  · exact Or.inr (Or.inl ⟨a, b, c⟩)
  · exact absurd c h0
theorem BMX_none {S : Int32 → Int → Prop} {x : Int32} (h : ∀ i j : Nat, i < j → j < 8 → (amv x (Int32.ofInt i)).toInt = 0 ∨ (amv x (Int32.ofInt j)).toInt = 0) : BMX S x 0 :=
  ⟨Int.le_refl _, fun i j a b c d => by
    have q := h i j a b
    rw [amv_bt, amv_bt] at q
    omega, Or.inl rfl⟩
