/-! what bound() tells of one memory is told of another with the same DEEDS -/
theorem tld_fr {m m2 : Nat → Nat → Int32} (w : ∀ a j, isW a = true → m2 a j = m a j) : ∀ k, k ≤ 8 → tld m2 k = tld m k
  | 0, _ => rfl
  | k + 1, hk => by
    have e : ddv m2 (Int32.ofInt k) = ddv m (Int32.ofInt k) := by
      unfold ddv
      by_cases h : 0 ≤ (Int32.ofInt (k : Int)).toInt ∧ (Int32.ofInt (k : Int)).toInt ≤ 7
      · rw [w (61 + 2 * (Int32.ofInt (k : Int)).toInt.toNat) 1 (isW_i (by omega))]
      · rw [if_neg (fun q => h ⟨q.1, q.2.1⟩), if_neg (fun q => h ⟨q.1, q.2.1⟩)]
    simp only [tld]
    rw [e, tld_fr w k (by omega)]
theorem G1_fr {m m2 : Nat → Nat → Int32} {x : Int32} (w : ∀ a j, isW a = true → m2 a j = m a j) : G1 m2 x ↔ G1 m x := by
  unfold G1 adv
  rw [tld_fr w 8 (by omega)]
theorem G2_fr {m m2 : Nat → Nat → Int32} {x : Int32} (w : ∀ a j, isW a = true → m2 a j = m a j) : G2 m2 x ↔ G2 m x := by
  unfold G2
  constructor
  · intro h i hi ha
    rw [← w _ _ (isW_i (by omega))]
    exact h i hi ha
  · intro h i hi ha
    rw [w _ _ (isW_i (by omega))]
    exact h i hi ha
theorem BMX_S {S S2 : Int32 → Int → Prop} {x : Int32} {v : Int} (h : ∀ y u, S y u → S2 y u) (k : BMX S x v) : BMX S2 x v :=
  ⟨k.1, fun i j a b c d => by obtain ⟨u, hu, hl⟩ := k.2.1 i j a b c d; exact ⟨u, h _ _ hu, hl⟩, k.2.2.imp id (fun ⟨i, j, a, b, c, d, e⟩ => ⟨i, j, a, b, c, d, h _ _ e⟩)⟩
theorem bound_fr {m m2 : Nat → Nat → Int32} {x : Int32} {v : Int} (w : ∀ a j, isW a = true → m2 a j = m a j) (h : BDV (G1 m x) (G2 m x) (SHC m) x v) : BDV (G1 m2 x) (G2 m2 x) (SHC m2) x v := by
  unfold BDV at h ⊢
  rw [G1_fr w, G2_fr w]
  rcases h with h | h | ⟨h1, h2, h3⟩
  · exact Or.inl h
  · exact Or.inr (Or.inl h)
  · exact Or.inr (Or.inr ⟨h1, h2, BMX_S (fun y u q => SHC_fr (fun a j h => (w a j h).symm) q) h3⟩)
