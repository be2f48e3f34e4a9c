/-! the whole TEXT: what law() answers -/
def LWC (t : Int → Int) (en : Int) (k : Nat) (c p : Int) : Int := if p < en then (if t p = 59 then LWA t en k c (p + 1) else -1000 - p) else c
theorem LWA_o {t : Int → Int} {en c p q : Int} {k : Nat} (h : CLA t c p = (0, q)) : LWA t en (k + 1) c p = LWC t en k (c + 1) q := by
  show (if (CLA t c p).1 = 0 then _ else _) = _
  rw [h]
  rw [if_pos rfl]
  rfl
theorem LWA_f {t : Int → Int} {en c p f : Int} {k : Nat} (h : FLT (CLA t c p) f) : LWA t en (k + 1) c p = f := by
  show (if (CLA t c p).1 = 0 then _ else -1000 * (CLA t c p).1 - (CLA t c p).2) = _
  rw [if_neg h.1]
  exact h.2.symm
theorem LWC_e {t : Int → Int} {en c p : Int} {k : Nat} (h : en ≤ p) : LWC t en k c p = c := if_neg (by omega)
theorem LWC_y {t : Int → Int} {en c p : Int} {k : Nat} (h : p < en) (h2 : t p = 59) : LWC t en k c p = LWA t en k c (p + 1) := by
  unfold LWC
  rw [if_pos h, if_pos h2]
theorem LWC_n {t : Int → Int} {en c p f : Int} {k : Nat} (h : p < en) (h2 : t p ≠ 59) (hf : f = -1000 - p) : LWC t en k c p = f := by
  unfold LWC
  rw [if_pos h, if_neg h2, hf]
theorem CND_o {t : Int → Int} {p : Int} (h : t p = 40) : CND t p = bnd (CN t 5 (p + 1)) (cls t 41) := if_pos h
def tK (f : Nat → Int32) (n p : Int) : Int := if p < n then (f p.toNat).toInt else -1
def tN (f : Nat → Int32) (n p : Int) : Int := if p < n then (f p.toNat &&& 255).toInt else -1
def LWV (n tp : Int) (t : Int → Int) (v : Int) : Prop := (1 ≤ n ∧ n ≤ 160 ∧ n ≤ tp ∧ v = LWA t n 14 0 0) ∨ ((n < 1 ∨ 160 < n ∨ tp < n) ∧ v = -1)
theorem LWV_det {n tp v w : Int} {t u : Int → Int} (h : 1 ≤ n → n ≤ tp → t = u) (a : LWV n tp t v) (b : LWV n tp u w) : v = w := by
  rcases a with ⟨a1, a2, a3, a4⟩ | ⟨a1, a2⟩ <;> rcases b with ⟨b1, b2, b3, b4⟩ | ⟨b1, b2⟩
  · rw [a4, b4, h a1 a3]
  · omega
  · omega
  · omega
theorem tK_N {m : Nat → Nat → Int32} {n : Int} (h : EQK m) (h1 : 1 ≤ n) (h2 : n ≤ (m 1 1).toInt) : tK (m 2) n = tN (m 129) n := by
  funext p
  unfold tK tN
  by_cases z : p < n
  · rw [if_pos z, if_pos z, and255]
    exact h.2.2.2 p.toNat (by omega)
  · rw [if_neg z, if_neg z]
theorem tC_K {m m1 : Nat → Nat → Int32} {n : Int} (h1 : 1 ≤ n) (e2 : (m1 86 2).toInt = n) (e7 : ∀ j : Nat, (j : Int) < n → m1 87 j = m 2 j) : tC m1 = tK (m 2) n := by
  funext p
  unfold tC tK
  rw [e2]
  by_cases z : p < n
  · rw [if_pos z, if_pos z, e7 p.toNat (by omega)]
  · rw [if_neg z, if_neg z]
theorem TBC_K {m m1 : Nat → Nat → Int32} {n : Int} (I : IV BB m) (e : tC m1 = tK (m 2) n) : TBC m1 := by
  intro q
  rw [e]
  unfold tK
  split
  · have a : (0 : Int) ≤ (m 2 q.toNat).toInt := (I 2 _).1
    have b : (m 2 q.toNat).toInt ≤ 255 := (I 2 _).2
    omega
  · omega
theorem tR_N {m : Nat → Nat → Int32} {n : Int} {f : Nat → Int32} (e3 : (m 123 13).toInt = n) (e9 : ∀ j, m 129 j = f j) : tR m = tN f n := by
  funext p
  unfold tR tN
  rw [e3, e9]
section MC
variable {sc : pv_S} {g : pv_G} {M : pv_M} {Q : Option Value → List pv_C → Prop} {dp kc ks pc : Nat} {lo st : List Value} {T : List mv_T} {m : Nat → Nat → Int32} {n : Nat → Nat → Int64} {r : Nat → Value}
theorem iv_copyx {idx a0 a1 k0 k1 : Nat} {sp0 dp0 cn : Int32} {X Y Z l1 l2 u1 u2 : Int} (hd : decode M.2.2.1 pc = .ok (.invokestatic idx, 3)) (hl : Cond.methodLink M.1 idx arraycopyName ∈ pv_T) (hnat : Cond.native arraycopyName ∈ pv_T) (hst : Cond.static arraycopyName ∈ pv_T) (hin : Cond.initialized "java/lang/System" ∈ pv_T) (ha0 : T[a0]? = some (.inl (0, k0))) (ha1 : T[a1]? = some (.inl (0, k1))) (hx : sp0.toInt = X) (hy : dp0.toInt = Y) (hz : cn.toInt = Z) (h1 : 0 ≤ X) (h2 : 0 ≤ Y) (h3 : 0 ≤ Z) (h4 : X + Z ≤ k0) (h5 : Y + Z ≤ k1) (hw : (st.map fun v => v.category).sum ≤ 8) (hdp : 1 ≤ dp) (I : IV BB m) (hb0 : ∀ j, BB a0 j = (l1, l2)) (hb1 : ∀ j, BB a1 j = (u1, u2)) (h6 : u1 ≤ l1) (h7 : l2 ≤ u2) (n0 : Nat) (hp : pc + 3 = n0) (kk : ∀ m' : Nat → Nat → Int32, (∀ b, b ≠ a1 → m' b = m b) → (∀ j : Nat, m' a1 j = va_cpy (m a0) (m a1) X.toNat Y.toNat Z.toNat j) → IV BB m' → PV sc g M Q dp kc ks n0 lo st (mk T m' n r)) : PV sc g M Q dp kc ks pc lo (.int cn :: .int dp0 :: .ref a1 :: .int sp0 :: .ref a0 :: st) (mk T m n r) := by
  intro p e R s mm args below meth c Xx f1 f2 f3 f4 H locs cells slots ls hH hS g1 g2 hL T0 hT0 X0
  subst hp
  have hts := Xx.2.2.2.2.2.2.2.1
  have hn : ∀ {z : Int32} {Zz : Int}, z.toInt = Zz → 0 ≤ Zz → ¬ z < 0 := fun {z Zz} q1 q2 q3 => by
    have := Int32.lt_iff_toInt_lt.mp q3
    rw [Int32.toInt_zero] at this
    omega
  have cl0 : ∀ {z : Int32} {Zz : Int}, z.toInt = Zz → 0 ≤ Zz → z.toInt = (z.toNatClampNeg : Int) := fun {z Zz} q1 q2 => by rw [iv_cl q1]; omega
  have hC0 : H[g.2.2.2 + a0]? = some (vp_cell (g.2.2.1 0) (k0, .inl (m a0))) := hH.1 a0 _ (pv_W_get (mk_get (m := m) (n := n) (r := r) ha0))
  have hC1 : H[g.2.2.2 + a1]? = some (vp_cell (g.2.2.1 0) (k1, .inl (m a1))) := hH.1 a1 _ (pv_W_get (mk_get (m := m) (n := n) (r := r) ha1))
  obtain ⟨-, kx, hkx, cx, hkkx⟩ := (Xx.2.2.2.2.2.2.2.2.1.2 0 _ rfl).1 k0 (fun j => .int (m a0 j))
  obtain ⟨-, ky, hky, cy, hkky⟩ := (Xx.2.2.2.2.2.2.2.2.1.2 0 _ rfl).1 k1 (fun j => .int (m a1 j))
  have hq4 : sp0.toNatClampNeg + cn.toNatClampNeg ≤ k0 := by rw [iv_cl hx, iv_cl hz]; omega
  obtain ⟨vm', X', stp⟩ := X0.arraycopy Xx.1 Xx.2.2.2.2.1 (hts _ hl) (hts _ hnat) (hts _ hst) (hts _ hin) (src := g.2.2.2 + a0) (dst := g.2.2.2 + a1) (cs := vp_cell (g.2.2.1 0) (k0, .inl (m a0))) (cd := vp_cell (g.2.2.1 0) (k1, .inl (m a1))) (srcPos := sp0) (destPos := dp0) (n := cn)
    (by rw [hT0]; exact hC0) (by rw [hT0]; exact hC1) (fun _ q => by cases q) (fun _ q => by cases q) (fun q => by cases q) (fun q => by cases q) hkx hky hkkx hkky rfl (hn hx h1) (hn hy h2) (hn hz h3)
    (by rw [hx, hz]; show ¬ _ > ((arrV (g.2.2.1 0) k0 (fun j => .int (m a0 j))).slots.size : Int); rw [arrV_size]; omega)
    (by rw [hy, hz]; show ¬ _ > ((arrV (g.2.2.1 0) k1 (fun j => .int (m a1 j))).slots.size : Int); rw [arrV_size]; omega)
    (fun vm₁ _ i hi => by
      have ev : (vp_cell (g.2.2.1 0) (k0, .inl (m a0))).slots.getD (sp0.toNatClampNeg + i) .null = .int (m a0 (sp0.toNatClampNeg + i)) := by
        show (arrV (g.2.2.1 0) k0 (fun j => .int (m a0 j))).slots.getD _ _ = _
        rw [Array.getD_eq_getD_getElem?, arrV_read _ _ (by omega)]
        rfl
      rw [ev]
      exact ⟨rfl, trivial⟩)
    (g := F0 mm pc ls (.int cn :: .int dp0 :: .ref (g.2.2.2 + a1) :: .int sp0 :: .ref (g.2.2.2 + a0) :: st.map (pv_lf g.2.2.2))) rfl (by rw [Xx.2.2.2.1]; exact hL.1) (rest := st.map (pv_lf g.2.2.2)) rfl (by rw [Xx.2.1]; exact hd) (by omega) (by rw [pv_cats]; show 2 * 0 + _ + _ ≤ _; simp [nativeFrameWords]; omega)
  have ec : copied (vp_cell (g.2.2.1 0) (k0, .inl (m a0))) (vp_cell (g.2.2.1 0) (k1, .inl (m a1))) sp0 dp0 cn = vp_cell (g.2.2.1 0) (k1, .inl (va_cpy (m a0) (m a1) sp0.toNatClampNeg dp0.toNatClampNeg cn.toNatClampNeg)) := va_copied (fun z => .int z) (g.2.2.1 0) (g.2.2.1 0) (m a0) (m a1) hq4
  rw [ec] at X' stp
  let m' : Nat → Nat → Int32 := fun b j => if b = a1 then va_cpy (m a0) (m a1) sp0.toNatClampNeg dp0.toNatClampNeg cn.toNatClampNeg j else m b j
  have em : m' a1 = va_cpy (m a0) (m a1) sp0.toNatClampNeg dp0.toNatClampNeg cn.toNatClampNeg := by funext j; simp [m']
  have hoff : ∀ b, b ≠ a1 → m' b = m b := fun b hb => by funext j; simp [m', hb]
  have hset : (mk T m n r).set a1 (pv_i k1 (m' a1)) = mk T m' n r := mk_set ha1 rfl (fun b u _ hb => mv_c_m (hoff b hb))
  have hI : IV BB m' := by
    intro b j
    by_cases hb : b = a1
    · subst hb
      rw [hb1, em]
      simp only [va_cpy]
      split
      · have q := I a0 (sp0.toNatClampNeg + (j - dp0.toNatClampNeg)); rw [hb0] at q; exact ⟨Int.le_trans h6 q.1, Int.le_trans q.2 h7⟩
      · have q := I b j; rw [hb1] at q; exact q
    · rw [hoff b hb]; exact I b j
  have hlt : g.2.2.2 + a1 < H.size := (Array.getElem?_eq_some_iff.mp hC1).1
  have oq : ∀ q : Nat, q ≠ g.2.2.2 + a1 → (H.setIfInBounds (g.2.2.2 + a1) (vp_cell (g.2.2.1 0) (k1, .inl (m' a1))))[q]? = H[q]? := fun q hq => by simp [Array.getElem?_setIfInBounds, Ne.symm hq]
  have hat : (H.setIfInBounds (g.2.2.2 + a1) (vp_cell (g.2.2.1 0) (k1, .inl (m' a1))))[g.2.2.2 + a1]? = some (vp_cell (g.2.2.1 0) (k1, .inl (m' a1))) := by simp [Array.getElem?_setIfInBounds, hlt]
  have hP2 : va_P g.2.1 vwCl (pv_W g.2.2.1 g.2.2.2 (mk T m' n r)) (H.setIfInBounds (g.2.2.2 + a1) (vp_cell (g.2.2.1 0) (k1, .inl (m' a1)))) := by
    rw [← hset, ← pv_W_set]
    exact hH.1.set pv_D (pv_W_get (mk_get ha1)) hat oq
  have hsz : (H.setIfInBounds (g.2.2.2 + a1) (vp_cell (g.2.2.1 0) (k1, .inl (m' a1)))).size = g.2.2.2 + (mk T m' n r).length := by
    rw [Array.size_setIfInBounds, hH.2]
    simp [mk]
  rw [← em] at X' stp
  obtain ⟨t, t1, t2⟩ := kk m' hoff (fun j => by rw [em, iv_cl hx, iv_cl hy, iv_cl hz]) hI p e R s mm args below meth c Xx f1 f2 f3 f4 (H.setIfInBounds (g.2.2.2 + a1) (vp_cell (g.2.2.1 0) (k1, .inl (m' a1)))) _ cells slots ls ⟨hP2, hsz⟩ ⟨by rw [Array.size_setIfInBounds]; exact hS.1, fun q z1 z2 => by
      rw [oq q (fun e => z2 (by rw [e]; show g.2.2.2 ≤ g.2.2.2 + a1; omega))]
      exact hS.2.1 q z1 z2, fun q hq => by
      rcases List.mem_append.mp hq with w | w
      · exact hS.2.2 q w
      · obtain ⟨z, -, hz⟩ := List.mem_map.mp w
        rw [← hz]
        show g.2.2.2 ≤ g.2.2.2 + a1
        omega⟩ g1 g2 hL _ (by rw [← hT0]; rfl) X'
  exact ⟨t, stp t t1, t2⟩
end MC
/-- law() on both sides -/
theorem law_A {m m1 : Nat → Nat → Int32} {n v w : Int} (h : EQK m) (c2 : m1 123 11 = m 123 11) (c3 : ∀ j, m1 129 j = m 129 j) (a : LWV n (m 1 1).toInt (tK (m 2) n) v) (b : LWV n (m1 123 11).toInt (tN (m1 129) n) w) : w = v := by
  rw [c2, show m1 129 = m 129 from funext c3, ← h.2.2.1] at b
  exact (LWV_det (fun h1 h2 => tK_N h h1 h2) a b).symm
