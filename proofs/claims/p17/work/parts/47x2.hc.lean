/-! HIDDEN in the class: rows, table, the LETTERS one by one -/
def rwv (m : Nat → Nat → Int32) (a : Nat) (j : Nat) : Int := if (j : Int) < (m a 1).toInt then (m (a + 1) j).toInt else 0
theorem rwv_at {m : Nat → Nat → Int32} {a j : Nat} (h : (j : Int) < (m a 1).toInt) : rwv m a j = (m (a + 1) j).toInt := by unfold rwv; rw [if_pos h]
def p3 (a b c : Nat) : Nat → Nat
  | 0 => a
  | 1 => b
  | _ => c
theorem p3_le {a b c : Nat} (h1 : a ≤ 75) (h2 : b ≤ 75) (h3 : c ≤ 75) : ∀ d, p3 a b c d ≤ 75
  | 0 => h1
  | 1 => h2
  | _ + 2 => h3
def nR (m : Nat → Nat → Int32) (p : Nat → Nat) : Nat → Int := fun d => (m (p d) 1).toInt
def sR (m : Nat → Nat → Int32) (p : Nat → Nat) : Nat → Nat → Int := fun d => rwv m (p d)
def Hc (m : Nat → Nat → Int32) (a b c : Int) : Int := (m 115 (hidx a b c)).toInt
theorem rwv_eq {m m2 : Nat → Nat → Int32} {a : Nat} (h : ∀ b j, b ≤ 76 → m2 b j = m b j) (ha : a ≤ 75) : rwv m2 a = rwv m a := by
  funext j
  unfold rwv
  rw [h a 1 (by omega), h (a + 1) j (by omega)]
theorem nR_eq {m m2 : Nat → Nat → Int32} {p : Nat → Nat} (h : ∀ b j, b ≤ 76 → m2 b j = m b j) (hp : ∀ d, p d ≤ 75) : nR m2 p = nR m p ∧ sR m2 p = sR m p := by
  refine ⟨funext fun d => ?_, funext fun d => ?_⟩
  · show (m2 (p d) 1).toInt = (m (p d) 1).toInt
    rw [h _ _ (by have := hp d; omega)]
  · exact rwv_eq h (hp d)
theorem NXc {m m2 : Nat → Nat → Int32} {a : Nat} {f l v : Int} (h : ∀ b j, b ≤ 76 → m2 b j = m b j) (ha : a ≤ 75) (k : NX1 (m2 a 1).toInt (rwv m2 a) f l v) : NX1 (m a 1).toInt (rwv m a) f l v := by
  rw [rwv_eq h ha, h a 1 (by omega)] at k
  exact k
def N16 (n : Nat → Int) : Prop := ∀ d, d < 3 → 0 ≤ n d ∧ n d ≤ 16
theorem N16_of {m : Nat → Nat → Int32} {a b c : Nat} (h0 : 0 ≤ (m a 1).toInt ∧ (m a 1).toInt ≤ 16) (h1 : 0 ≤ (m b 1).toInt ∧ (m b 1).toInt ≤ 16) (h2 : 0 ≤ (m c 1).toInt ∧ (m c 1).toInt ≤ 16) : N16 (nR m (p3 a b c)) := by
  intro d hd
  have : d = 0 ∨ d = 1 ∨ d = 2 := by omega
  rcases this with rfl | rfl | rfl
  · exact h0
  · exact h1
  · exact h2
/-- the table is filled behind A, B, C -/
def TB3 (n : Nat → Int) (s : Nat → Nat → Int) (F : Int → Int → Int → Int) (A B C : Int) : Prop := ∀ a b c : Int, HI3 n a b c → lg3 a b c A B C → MX1 n s a b c (F a b c)
section TB
variable {n : Nat → Int} {s : Nat → Nat → Int} {F : Int → Int → Int → Int} {A B C : Int}
theorem TB3_a (hn : N16 n) (h : n 0 ≤ A) : TB3 n s F A 16 16 := by
  intro a b c hi hg
  have h1 := hn 1 (by omega)
  have h2 := hn 2 (by omega)
  obtain ⟨i1, i2, i3, i4, i5, i6⟩ := hi
  unfold lg3 at hg
  exfalso
  omega
theorem TB3_b (hn : N16 n) (h : TB3 n s F A 16 16) (hB : n 1 ≤ B) : TB3 n s F A B 16 := by
  intro a b c hi hg
  have h1 := hn 1 (by omega)
  have h2 := hn 2 (by omega)
  refine h a b c hi ?_
  obtain ⟨i1, i2, i3, i4, i5, i6⟩ := hi
  unfold lg3 at *
  omega
theorem TB3_c (hn : N16 n) (h : TB3 n s F A B 16) (hC : n 2 ≤ C) : TB3 n s F A B C := by
  intro a b c hi hg
  have h2 := hn 2 (by omega)
  refine h a b c hi ?_
  obtain ⟨i1, i2, i3, i4, i5, i6⟩ := hi
  unfold lg3 at *
  omega
theorem TB3_bb {C2 B2 : Int} (hn : N16 n) (h : TB3 n s F A B C) (hC : C = -1) (hC2 : C2 = 16) (hB : B2 = B - 1) : TB3 n s F A B2 C2 := by
  intro a b c hi hg
  have h2 := hn 2 (by omega)
  refine h a b c hi ?_
  obtain ⟨i1, i2, i3, i4, i5, i6⟩ := hi
  unfold lg3 at *
  omega
theorem TB3_aa {A2 : Int} (hn : N16 n) (h : TB3 n s F A B 16) (hB : B = -1) (hA : A2 = A - 1) : TB3 n s F A2 16 16 := by
  intro a b c hi hg
  have h1 := hn 1 (by omega)
  have h2 := hn 2 (by omega)
  refine h a b c hi ?_
  obtain ⟨i1, i2, i3, i4, i5, i6⟩ := hi
  unfold lg3 at *
  omega
theorem TB3_end (h : TB3 n s F A 16 16) (hA : A = -1) : TM3 n s F := by
  intro a b c hi
  refine h a b c hi ?_
  have := hi.1
  unfold lg3
  omega
end TB
theorem TB3_set {n : Nat → Int} {s : Nat → Nat → Int} {m m2 : Nat → Nat → Int32} {A B C C2 : Int} {v : Int32} (hn : N16 n) (h : TB3 n s (Hc m) A B C) (e : m2 = up2 m 115 (hidx A B C) v) (hA : HI3 n A B C) (hv : MX1 n s A B C v.toInt) (hC : C2 = C - 1) : TB3 n s (Hc m2) A B C2 := by
  intro a b c hi hg
  have h1 := hn 1 (by omega)
  have h2 := hn 2 (by omega)
  by_cases q : a = A ∧ b = B ∧ c = C
  · have e1 : Hc m2 a b c = v.toInt := by unfold Hc; rw [e, q.1, q.2.1, q.2.2, up2_eq]
    rw [e1, q.1, q.2.1, q.2.2]
    exact hv
  · have e1 : Hc m2 a b c = Hc m a b c := by
      unfold Hc
      rw [e, up2_ne]
      intro z
      obtain ⟨a1, a2, a3, a4, a5, a6⟩ := hi
      obtain ⟨b1, b2, b3, b4, b5, b6⟩ := hA
      exact q (hidx_inj a1 a3 (by omega) a5 (by omega) b1 b3 (by omega) b5 (by omega) z.2)
    rw [e1]
    refine h a b c hi ?_
    unfold lg3 at *
    omega
/-- LETTER by LETTER -/
def TRH (m M : Nat → Nat → Int32) (p : Nat → Nat) (i j k more : Int) : Prop := HI3 (nR m p) i j k ∧ 0 ≤ (M 113 1).toInt ∧ (M 113 1).toInt + more ≤ Hc m 0 0 0 ∧ (L25h (nR m p) (sR m p) → (M 113 1).toInt = Hc m 0 0 0 - more ∧ Hc m i j k = more ∧ HPT (nR m p) (sR m p) (Hc m) (fun q => (M 114 q).toInt) (M 113 1).toInt.toNat i j k)
theorem TRH_0 {m M : Nat → Nat → Int32} {p : Nat → Nat} {more : Int} (hn : N16 (nR m p)) (h : (M 113 1).toInt = 0) (hm : more = Hc m 0 0 0) : TRH m M p 0 0 0 more := by
  have h0 := (hn 0 (by omega)).1
  have h1 := (hn 1 (by omega)).1
  have h2 := (hn 2 (by omega)).1
  refine ⟨⟨Int.le_refl _, h0, Int.le_refl _, h1, Int.le_refl _, h2⟩, by omega, by omega, fun _ => ⟨by omega, hm.symm, ?_⟩⟩
  rw [h, show (0 : Int).toNat = 0 from rfl]
  exact ⟨rfl, rfl, rfl⟩
/-- no LETTER below l leads on -/
def NLM (n : Nat → Int) (s : Nat → Nat → Int) (F : Int → Int → Int → Int) (i j k more l : Int) : Prop := ∀ q : Int, 0 ≤ q → q < l → ∀ x y z : Int, NX1 (n 0) (s 0) i q x → NX1 (n 1) (s 1) j q y → NX1 (n 2) (s 2) k q z → x ≠ -1 → y ≠ -1 → z ≠ -1 → F (x + 1) (y + 1) (z + 1) ≠ more - 1
theorem NLM_0 {n : Nat → Int} {s : Nat → Nat → Int} {F : Int → Int → Int → Int} {i j k more : Int} : NLM n s F i j k more 0 := fun q a b => by exfalso; omega
theorem NLM_step {n : Nat → Int} {s : Nat → Nat → Int} {F : Int → Int → Int → Int} {i j k more l x y z : Int} (h : NLM n s F i j k more l) (hi : HI3 n i j k) (hx : NX1 (n 0) (s 0) i l x) (hy : NX1 (n 1) (s 1) j l y) (hz : NX1 (n 2) (s 2) k l z) (hn : x = -1 ∨ y = -1 ∨ z = -1 ∨ F (x + 1) (y + 1) (z + 1) ≠ more - 1) : NLM n s F i j k more (l + 1) := by
  intro q q0 q1 x' y' z' gx gy gz nx ny nz
  by_cases w : q < l
  · exact h q q0 w x' y' z' gx gy gz nx ny nz
  · have e : q = l := by omega
    rw [e] at gx gy gz
    have ex := NX1_fn hi.1 hx gx
    have ey := NX1_fn hi.2.2.1 hy gy
    have ez := NX1_fn hi.2.2.2.2.1 hz gz
    rw [← ex] at nx ⊢
    rw [← ey] at ny ⊢
    rw [← ez] at nz ⊢
    rcases hn with w1 | w1 | w1 | w1
    · exact absurd w1 nx
    · exact absurd w1 ny
    · exact absurd w1 nz
    · exact w1
theorem TRH_hit {m M M2 : Nat → Nat → Int32} {p : Nat → Nat} {i j k more l x y z i2 j2 k2 more2 : Int} (h : TRH m M p i j k more) (nl : NLM (nR m p) (sR m p) (Hc m) i j k more l) (l0 : 0 ≤ l) (l1 : l ≤ 25) (hx : NX1 (nR m p 0) (sR m p 0) i l x) (hy : NX1 (nR m p 1) (sR m p 1) j l y) (hz : NX1 (nR m p 2) (sR m p 2) k l z) (nx : x ≠ -1) (ny : y ≠ -1) (nz : z ≠ -1) (hF : Hc m (x + 1) (y + 1) (z + 1) = more - 1) (e1 : (M2 113 1).toInt = (M 113 1).toInt + 1) (e2 : (M2 114 (M 113 1).toInt.toNat).toInt = l) (e3 : ∀ q : Nat, q ≠ (M 113 1).toInt.toNat → M2 114 q = M 114 q) (e4 : i2 = x + 1) (e5 : j2 = y + 1) (e6 : k2 = z + 1) (e7 : more2 = more - 1) : TRH m M2 p i2 j2 k2 more2 := by
  rw [e4, e5, e6, e7]
  obtain ⟨h1, h2, h3, h4⟩ := h
  obtain ⟨i1, i2, i3, i4, i5, i6⟩ := h1
  have gx := NX1_to hx nx
  have gy := NX1_to hy ny
  have gz := NX1_to hz nz
  refine ⟨⟨by omega, by omega, by omega, by omega, by omega, by omega⟩, by omega, by omega, fun hl => ?_⟩
  obtain ⟨q1, q2, q3⟩ := h4 hl
  refine ⟨by omega, hF, ?_⟩
  rw [e1, show ((M 113 1).toInt + 1).toNat = (M 113 1).toInt.toNat + 1 by omega]
  have hls : HLS (nR m p) (sR m p) (Hc m) i j k l x y z := ⟨l0, l1, ⟨hx, hy, hz, nx, ny, nz, by rw [hF, q2]⟩, fun q a b x' y' z' g => nl q a b x' y' z' g.1 g.2.1 g.2.2.1 g.2.2.2.1 g.2.2.2.2.1 g.2.2.2.2.2.1 (by have w := g.2.2.2.2.2.2; rw [q2] at w; exact w)⟩
  rw [← e2] at hls
  exact ⟨i, j, k, x, y, z, HPT_f (fun q hq => congrArg Int32.toInt (e3 q (by omega))) q3, hls, rfl, rfl, rfl⟩
theorem TRH_no {m M : Nat → Nat → Int32} {p : Nat → Nat} {i j k more l more2 : Int} (h : TRH m M p i j k more) (hT : TM3 (nR m p) (sR m p) (Hc m)) (nl : NLM (nR m p) (sR m p) (Hc m) i j k more l) (hl : 26 ≤ l) (hm : 0 < more) (e7 : more2 = more - 1) : TRH m M p i j k more2 := by
  rw [e7]
  obtain ⟨h1, h2, h3, h4⟩ := h
  refine ⟨h1, h2, by omega, fun hL => ?_⟩
  exfalso
  obtain ⟨q1, q2, q3⟩ := h4 hL
  obtain ⟨l', x, y, z, a1, a2, g⟩ := HST_some hT hL h1 (by rw [q2]; exact hm)
  exact nl l' a1 (by omega) x y z g.1 g.2.1 g.2.2.1 g.2.2.2.1 g.2.2.2.2.1 g.2.2.2.2.2.1 (by have w := g.2.2.2.2.2.2; rw [q2] at w; exact w)
theorem TRH_end {m M : Nat → Nat → Int32} {p : Nat → Nat} {i j k more : Int} (h : TRH m M p i j k more) (hT : TM3 (nR m p) (sR m p) (Hc m)) (hm : more = 0) : HSF (nR m p) (sR m p) (M 113 1).toInt (fun q => (M 114 q).toInt) := fun hL => ⟨Hc m, i, j, k, hT, by have := (h.2.2.2 hL).1; omega, (h.2.2.2 hL).2.2⟩
theorem Hc_eq {m m2 : Nat → Nat → Int32} (h : ∀ j, m2 115 j = m 115 j) : Hc m2 = Hc m := by
  funext a b c
  unfold Hc
  rw [h]
/-! which DEEDS -/
def gk (x : Int32) (d : Nat) : Nat := ((mbs x 8)[d]?).getD 0
def g2k (x : Int32) : Nat := ((mbs x 8)[2]?).getD (gk x 0)
def kk3 (x : Int32) : Nat → Nat := p3 (gk x 0) (gk x 1) (g2k x)
def pdk (x : Int32) : Nat → Nat := fun d => 61 + 2 * kk3 x d
theorem gk_lt (x : Int32) (d : Nat) : gk x d < 8 := by
  unfold gk
  cases h : (mbs x 8)[d]? with
  | none => exact Nat.le_of_ble_eq_true rfl
  | some k => exact mbs_lt (List.mem_of_getElem? h)
theorem g2k_lt (x : Int32) : g2k x < 8 := by
  unfold g2k
  cases h : (mbs x 8)[2]? with
  | none => exact gk_lt x 0
  | some k => exact mbs_lt (List.mem_of_getElem? h)
theorem kk3_lt (x : Int32) : ∀ d, kk3 x d < 8
  | 0 => gk_lt x 0
  | 1 => gk_lt x 1
  | _ + 2 => g2k_lt x
theorem gk_of {x : Int32} {d k : Nat} (h : (mbs x 8)[d]? = some k) : gk x d = k := by unfold gk; rw [h]; rfl
theorem pdk_of {x : Int32} {k0 k1 k2 a0 a1 a2 : Nat} (h0 : (mbs x 8)[0]? = some k0) (h1 : (mbs x 8)[1]? = some k1) (h2 : (mbs x 8)[2]? = some k2 ∨ ((mbs x 8)[2]? = none ∧ k2 = k0)) (e0 : a0 = 61 + 2 * k0) (e1 : a1 = 61 + 2 * k1) (e2 : a2 = 61 + 2 * k2) : p3 a0 a1 a2 = pdk x := by
  have g0 := gk_of h0
  have g1 := gk_of h1
  have g2 : g2k x = k2 := by
    unfold g2k
    rcases h2 with h2 | ⟨h2, h3⟩
    · rw [h2]; rfl
    · rw [h2, h3]; exact g0
  funext d
  match d with
  | 0 => show a0 = 61 + 2 * gk x 0; rw [g0, e0]
  | 1 => show a1 = 61 + 2 * gk x 1; rw [g1, e1]
  | d + 2 => show a2 = 61 + 2 * g2k x; rw [g2, e2]
theorem mbs_pre {x : Int32} {q k : Nat} : ∀ (j i : Nat), i ≤ j → (mbs x i)[q]? = some k → (mbs x j)[q]? = some k
  | 0, i, h, e => by rw [show i = 0 by omega] at e; exact e
  | j + 1, i, h, e => by
    by_cases z : i = j + 1
    · rw [z] at e; exact e
    · have a := mbs_pre j i (by omega) e
      simp only [mbs]
      split
      · rw [List.getElem?_append_left (List.getElem?_eq_some_iff.mp a).1]; exact a
      · exact a
/-- where a member lies -/
def DAK (x : Int32) (d a : Nat) : Prop := ∃ k, (mbs x 8)[d]? = some k ∧ a = 61 + 2 * k
/-- the last one so far, how many so far -/
def DAM (x : Int32) (i : Nat) (last seen : Int) : Prop := seen = ((mbs x i).length : Int) ∧ (0 < seen → (mbs x i)[seen.toNat - 1]? = some last.toNat)
theorem DAM_0 {x : Int32} {last : Int} : DAM x 0 last 0 := ⟨rfl, fun h => absurd h (by decide)⟩
theorem DAM_no {x : Int32} {i : Nat} {last seen : Int} (h : DAM x i last seen) (ha : (amv x (Int32.ofInt i)).toInt = 0) : DAM x (i + 1) last seen := by
  unfold DAM
  rw [mbs_no ha]
  exact h
theorem DAM_yes {x : Int32} {i : Nat} {last seen l2 s2 : Int} (h : DAM x i last seen) (ha : (amv x (Int32.ofInt i)).toInt ≠ 0) (hl : l2 = i) (hs : s2 = seen + 1) : DAM x (i + 1) l2 s2 := by
  have e := (mbs_yes ha).1
  have h1 := h.1
  refine ⟨by omega, fun _ => ?_⟩
  have e2 : mbs x (i + 1) = mbs x i ++ [i] := by simp only [mbs]; rw [if_pos ha]
  rw [e2, show s2.toNat - 1 = (mbs x i).length by omega, List.getElem?_append_right (Nat.le_refl _), Nat.sub_self, show l2.toNat = i by omega]
  rfl
theorem DAM_end {x : Int32} {i : Nat} {last seen : Int} {a : Nat} (h : DAM x i last seen) (hi : i ≤ 8) (ha : a < (mbs x 8).length) (hs : seen ≤ (a : Int) + 1) (he : i = 8 ∨ (a : Int) < seen) : (mbs x 8)[a]? = some last.toNat := by
  have h1 := h.1
  have e : seen = (a : Int) + 1 := by
    rcases he with he | he
    · rw [he] at h1; omega
    · omega
  have q := h.2 (by omega)
  rw [show seen.toNat - 1 = a by omega] at q
  exact mbs_pre 8 i hi q
/-- what is kept of HIDDEN -/
def HSC (m : Nat → Nat → Int32) (x : Int32) : Prop := HSF (nR m (pdk x)) (sR m (pdk x)) (m 113 1).toInt (fun q => (m 114 q).toInt)
theorem nR_k {m m2 : Nat → Nat → Int32} {x : Int32} (e : ∀ a j, 61 ≤ a → a ≤ 76 → m2 a j = m a j) : nR m2 (pdk x) = nR m (pdk x) ∧ sR m2 (pdk x) = sR m (pdk x) := by
  have hd : ∀ d, 61 ≤ pdk x d ∧ pdk x d ≤ 75 := fun d => by
    have := kk3_lt x d
    unfold pdk
    omega
  refine ⟨funext fun d => ?_, funext fun d => ?_⟩
  · show (m2 (pdk x d) 1).toInt = (m (pdk x d) 1).toInt
    rw [e _ _ (hd d).1 (by have := (hd d).2; omega)]
  · show rwv m2 (pdk x d) = rwv m (pdk x d)
    funext j
    unfold rwv
    have := hd d
    rw [e (pdk x d) 1 (by omega) (by omega), e (pdk x d + 1) j (by omega) (by omega)]
theorem HSC_eq {m m2 : Nat → Nat → Int32} {x : Int32} (e : ∀ a j, 61 ≤ a → a ≤ 76 → m2 a j = m a j) (e3 : m2 113 1 = m 113 1) (e4 : ∀ j, m2 114 j = m 114 j) (h : HSC m x) : HSC m2 x := by
  unfold HSC at h ⊢
  rw [(nR_k e).1, (nR_k e).2, e3, show (fun q => (m2 114 q).toInt) = (fun q => (m 114 q).toInt) from funext fun q => by rw [e4]]
  exact h
def CHD (m : Nat → Nat → Int32) : Prop := (m 112 1).toInt ≠ 0 → HSC m (m 112 1)
theorem CHD_eq {m m2 : Nat → Nat → Int32} (h : CHD m) (e2 : m2 112 1 = m 112 1) (e3 : m2 113 1 = m 113 1) (e4 : ∀ j, m2 114 j = m 114 j) (w : ∀ a j, 61 ≤ a → a ≤ 76 → m2 a j = m a j) : CHD m2 := by
  unfold CHD at h ⊢
  rw [e2]
  exact fun q => HSC_eq w e3 e4 (h q)
theorem CHD_0 {m : Nat → Nat → Int32} (h : (m 112 1).toInt = 0) : CHD m := fun q => absurd h q
theorem CHD_of {m : Nat → Nat → Int32} {x : Int32} (h1 : m 112 1 = x) (h2 : HSC m x) : CHD m := fun _ => by rw [h1]; exact h2
/-- what hidden() answers -/
def H1 (m : Nat → Nat → Int32) (x : Int32) : Prop := (adv m x).toInt ≠ 0 ∧ 2 ≤ (bcn x).toInt ∧ (bcn x).toInt ≤ 3
theorem H1_mbs {m : Nat → Nat → Int32} {x : Int32} (h : H1 m x) : x.toInt ≠ 0 ∧ ((mbs x 8).length : Int) = (bcn x).toInt := by
  obtain ⟨h1, h2, h3⟩ := h
  have z : (x &&& (tld m 8 ^^^ -1)).toInt = 0 := by
    unfold adv at h1
    split at h1
    · assumption
    · exact absurd (show (0 : Int32).toInt = 0 by decide) h1
  have t := tld_255 m
  obtain ⟨x0, x1⟩ := sub255 t.1 t.2 z
  have e := bcn_x x0 x1
  have l := mbs_bF x 8
  refine ⟨fun q => ?_, by omega⟩
  have : x = 0 := Int32.toInt_inj.mp (by rw [q, Int32.toInt_zero])
  rw [this] at e
  have e0 : bF 0 8 = 0 := by decide
  rw [this] at h2
  omega
def HDV (g : Prop) (n : Nat → Int) (s : Nat → Nat → Int) (i v : Int) : Prop := ((i < -1 ∨ ¬ g) ∧ v = -1) ∨ (-1 ≤ i ∧ g ∧ ∃ u f, HSF n s u f ∧ ((i = -1 ∧ v = u) ∨ (0 ≤ i ∧ u ≤ i ∧ v = -1) ∨ (0 ≤ i ∧ i < u ∧ v = f i.toNat)))
theorem HDV_ok {m M : Nat → Nat → Int32} {x : Int32} {i v : Int} (g : H1 m x) (hi : -1 ≤ i) (w : ∀ a j, isW a = true → M a j = m a j) (h : HSC M x) (hv : (i = -1 ∧ v = (M 113 1).toInt) ∨ (i ≠ -1 ∧ v = atv M 113 i)) : HDV (H1 m x) (nR m (pdk x)) (sR m (pdk x)) i v := by
  have e := nR_k (m := m) (m2 := M) (x := x) (fun a j h1 h2 => w a j (isW_i (Or.inl ⟨h1, h2⟩)))
  unfold HSC at h
  rw [e.1, e.2] at h
  refine Or.inr ⟨hi, g, _, _, h, ?_⟩
  rcases hv with hv | ⟨h1, h2⟩
  · exact Or.inl hv
  · unfold atv at h2
    by_cases z : i < (M 113 1).toInt
    · rw [if_pos ⟨by omega, z⟩] at h2
      exact Or.inr (Or.inr ⟨by omega, z, h2⟩)
    · rw [if_neg (fun q => z q.2)] at h2
      exact Or.inr (Or.inl ⟨by omega, by omega, h2⟩)
theorem H1_fr {m m2 : Nat → Nat → Int32} {x : Int32} (w : ∀ a j, isW a = true → m2 a j = m a j) : H1 m2 x ↔ H1 m x := by
  unfold H1 adv
  rw [tld_fr w 8 (by omega)]
theorem hid_fr {m m2 : Nat → Nat → Int32} {x : Int32} {i v : Int} (w : ∀ a j, isW a = true → m2 a j = m a j) (h : HDV (H1 m x) (nR m (pdk x)) (sR m (pdk x)) i v) : HDV (H1 m2 x) (nR m2 (pdk x)) (sR m2 (pdk x)) i v := by
  have e := nR_k (m := m) (m2 := m2) (x := x) (fun a j h1 h2 => w a j (isW_i (Or.inl ⟨h1, h2⟩)))
  unfold HDV at h ⊢
  rw [H1_fr w, e.1, e.2]
  exact h
