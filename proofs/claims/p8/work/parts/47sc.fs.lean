/-! the facts, made by the class's show -/
theorem FCT_of {F : Nat → Int32} {m : Nat → Nat → Int32} {e : Nat} {p k d bn a b : Int} (h : RST m e) (h0 : 0 ≤ p) (h1 : p < (m (e + 3) 1).toInt) (f0 : F 0 = m (e + 4) p.toNat) (f1 : (F 1).toInt = p) (f2 : F 2 = m (e + 5) p.toNat) (f3 : (F 3).toInt = (m (e + 3) 1).toInt) (f4 : (F 4).toInt = ctr (m (e + 4)) (m (e + 4) p.toNat).toInt (m (e + 3) 1).toInt.toNat) (f5 : (F 5).toInt = k) (f6 : (F 6).toInt = d) (f7 : (F 7).toInt = bn) (f8 : (F 8).toInt = gon (m (e + 6)) 0 (wrN m e) a) (f9 : (F 9).toInt = gon (m (e + 6)) 0 (wrN m e) b) (ha : a = (m (e + 5) p.toNat).toInt - 1) (hb : b = (m (e + 5) p.toNat).toInt + 1) : FCT F (m (e + 6)) (m (e + 2)) 0 0 (wrN m e) p k d bn := by
  obtain ⟨q1, q2, q3⟩ := RST_at h h0 h1
  have ew : (((m (e + 5) p.toNat).toInt.toNat : Nat) : Int) = (m (e + 5) p.toNat).toInt := by omega
  refine ⟨(m (e + 5) p.toNat).toInt.toNat, q2, ?_, f1, ?_, ?_, ?_, f5, f6, f7, ?_, ?_⟩
  · rw [f0, q3, Nat.zero_add]
  · rw [f2, ew]
  · rw [f3]; exact RST_sz h
  · have es : (m (e + 3) 1).toInt.toNat = cu (m (e + 6)) 0 (wrN m e) := by have := RST_sz h; omega
    rw [f4, es, q3, Nat.zero_add, ctr_hof h _ (Nat.le_refl _)]
  · rw [f8, ha, ew]
  · rw [f9, hb, ew]
/-- the facts, made by the reference -/
theorem FCT_rf {F : Nat → Int32} {m : Nat → Nat → Int32} {b p k d w x y : Int} (hN : IsN (m 128) (40 * b.toNat) (m 124 b.toNat).toInt.toNat p.toNat w.toNat) (hw : 0 ≤ w) (f0 : F 0 = m 125 (40 * b.toNat + w.toNat)) (f1 : (F 1).toInt = p) (f2 : (F 2).toInt = w) (f3 : (F 3).toInt = nu m b 0) (f4 : (F 4).toInt = hof (m 128) (m 125) (40 * b.toNat) (40 * b.toNat) (m 125 (40 * b.toNat + w.toNat)).toInt (m 124 b.toNat).toInt.toNat) (f5 : (F 5).toInt = k) (f6 : (F 6).toInt = d) (f7 : (F 7).toInt = b) (f8 : (F 8).toInt = gon (m 128) (40 * b.toNat) (m 124 b.toNat).toInt.toNat x) (f9 : (F 9).toInt = gon (m 128) (40 * b.toNat) (m 124 b.toNat).toInt.toNat y) (hx : x = w - 1) (hy : y = w + 1) : FCT F (m 128) (m 125) (40 * b.toNat) (40 * b.toNat) (m 124 b.toNat).toInt.toNat p k d b := by
  have ew : ((w.toNat : Nat) : Int) = w := by omega
  refine ⟨w.toNat, hN, by rw [f0], f1, by rw [f2, ew], by rw [f3]; exact nu_0, by rw [f4], f5, f6, f7, by rw [f8, hx, ew], by rw [f9, hy, ew]⟩
