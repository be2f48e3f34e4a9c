/-! by STROKES of one width alone, and in how many ways: one table on both sides -/
theorem upg_at {α : Type} {m : Nat → Nat → α} {a i j : Nat} {v : α} (h : i = j) : up2 m a i v a j = v := by
  subst h
  exact up2_eq m a i v
theorem upg_ix {α : Type} {m : Nat → Nat → α} {a i j : Nat} {v : α} (h : i = j) : up2 m a i v = up2 m a j v := by rw [h]
def sumS (f : Nat → Int64) (w : Int) (k : Nat) : Nat → Int64
  | 0 => 0
  | t + 1 => sumS f w k t + (if ((k : Int) - (t : Int)) % w = 0 then f t else 0)
theorem sumS_0 {f : Nat → Int64} {w : Int} {k : Nat} : sumS f w k 0 = 0 := rfl
theorem sumS_s {f : Nat → Int64} {w : Int} {k t : Nat} : sumS f w k (t + 1) = sumS f w k t + (if ((k : Int) - (t : Int)) % w = 0 then f t else 0) := rfl
theorem sumS_y {f : Nat → Int64} {w : Int} {k t : Nat} (h : ((k : Int) - (t : Int)) % w = 0) : sumS f w k (t + 1) = sumS f w k t + f t := by rw [sumS_s, if_pos h]
theorem sumS_n {f : Nat → Int64} {w : Int} {k t : Nat} (h : ((k : Int) - (t : Int)) % w ≠ 0) : sumS f w k (t + 1) = sumS f w k t := by rw [sumS_s, if_neg h, Int64.add_zero]
theorem sumS_eq {f g : Nat → Int64} {w : Int} {k : Nat} : ∀ t, (∀ q, q < t → f q = g q) → sumS f w k t = sumS g w k t
  | 0, _ => rfl
  | t + 1, h => by rw [sumS_s, sumS_s, sumS_eq t (fun q hq => h q (by omega)), h t (by omega)]
/-- with width 1 all count -/
theorem sumS_1 {f : Nat → Int64} {k k2 : Nat} : ∀ t, sumS f 1 k t = sumS f 1 k2 t
  | 0 => rfl
  | t + 1 => by rw [sumS_y (by omega), sumS_y (by omega), sumS_1 t]
theorem sumS_skip {f : Nat → Int64} {w : Int} {k t : Nat} : ∀ d, (∀ q : Nat, t ≤ q → q < t + d → ((k : Int) - (q : Int)) % w ≠ 0) → sumS f w k (t + d) = sumS f w k t
  | 0, _ => rfl
  | d + 1, h => by rw [show t + (d + 1) = t + d + 1 by omega, sumS_n (h (t + d) (by omega) (by omega)), sumS_skip d (fun q h1 h2 => h q h1 (by omega))]
/-- one term, and on below -/
theorem sumS_b {f : Nat → Int64} {w : Int} {k : Nat} {p : Int} (h1 : 1 ≤ w) (h9 : w ≤ 9) (h0 : 0 ≤ p) (hm : ((k : Int) - p) % w = 0) : sumS f w k (p + 1).toNat = sumS f w k (p - w + 1).toNat + f p.toNat := by
  rw [show (p + 1).toNat = p.toNat + 1 by omega, sumS_y (by rw [show ((p.toNat : Nat) : Int) = p by omega]; exact hm)]
  have e : sumS f w k p.toNat = sumS f w k (p - w + 1).toNat := by
    have z := sumS_skip (f := f) (w := w) (k := k) (t := (p - w + 1).toNat) (p.toNat - (p - w + 1).toNat) (fun q q1 q2 => by
      have : w = 1 ∨ w = 2 ∨ w = 3 ∨ w = 4 ∨ w = 5 ∨ w = 6 ∨ w = 7 ∨ w = 8 ∨ w = 9 := by omega
      rcases this with rfl | rfl | rfl | rfl | rfl | rfl | rfl | rfl | rfl <;> omega)
    rw [show (p - w + 1).toNat + (p.toNat - (p - w + 1).toNat) = p.toNat by omega] at z
    exact z
  rw [e]
theorem sumS_m {w p : Int} {k : Nat} (hm : ((k : Int) - p) % w = 0) : ((k : Int) - (p - w)) % w = 0 := by
  rw [show (k : Int) - (p - w) = ((k : Int) - p) + w by omega, Int.add_emod_right]
  exact hm
/-- the class's sum from above -/
theorem sumS_c {f : Nat → Int64} {w p p2 : Int} {k : Nat} {L L2 x T : Int64} (h1 : 1 ≤ w) (h9 : w ≤ 9) (h0 : 0 ≤ p) (hm : ((k : Int) - p) % w = 0) (h : L + sumS f w k (p + 1).toNat = T) (hx : x = f p.toNat) (hL : L2 = L + x) (hp : p2 = p - w) : L2 + sumS f w k (p2 + 1).toNat = T := by
  rw [hL, hp, ← h, sumS_b h1 h9 h0 hm, hx, Int64.add_assoc, Int64.add_comm (f p.toNat)]
/-- the reference's from below -/
theorem sumS_r {f : Nat → Int64} {w : Int} {k t : Nat} {L L2 x : Int64} (h : L = sumS f w k t) (hL : L2 = L + x) (hx : (((k : Int) - (t : Int)) % w = 0 ∧ x = f t) ∨ (((k : Int) - (t : Int)) % w ≠ 0 ∧ x = 0)) : L2 = sumS f w k (t + 1) := by
  rcases hx with ⟨a, b⟩ | ⟨a, b⟩
  · rw [hL, sumS_y a, h, b]
  · rw [hL, sumS_n a, h, b, Int64.add_zero]
def mgF (r dd : Nat → Int32) (w : Int) : Nat → Nat → Int64
  | 0 => fun k => if k = 0 then 1 else 0
  | j + 1 => fun k => if k = 0 then 0 else if r (k - 1) = dd j then sumS (mgF r dd w j) w (k - 1) k else 0
theorem mgF_0 {r dd : Nat → Int32} {w : Int} {k : Nat} : mgF r dd w 0 k = if k = 0 then 1 else 0 := rfl
theorem mgF_z {r dd : Nat → Int32} {w : Int} {j : Nat} : mgF r dd w (j + 1) 0 = 0 := rfl
theorem mgF_y {r dd : Nat → Int32} {w : Int} {j k : Nat} (h : r k = dd j) : mgF r dd w (j + 1) (k + 1) = sumS (mgF r dd w j) w k (k + 1) := by
  show (if k + 1 = 0 then 0 else if r (k + 1 - 1) = dd j then sumS (mgF r dd w j) w (k + 1 - 1) (k + 1) else 0) = _
  rw [if_neg (by omega), show k + 1 - 1 = k by omega, if_pos h]
theorem mgF_n {r dd : Nat → Int32} {w : Int} {j k : Nat} (h : r k ≠ dd j) : mgF r dd w (j + 1) (k + 1) = 0 := by
  show (if k + 1 = 0 then 0 else if r (k + 1 - 1) = dd j then sumS (mgF r dd w j) w (k + 1 - 1) (k + 1) else 0) = _
  rw [if_neg (by omega), show k + 1 - 1 = k by omega, if_neg h]
theorem mgF_00 {r dd : Nat → Int32} {w : Int} {J K : Nat} (hj : J = 0) (hk : K = 0) : (1 : Int64) = mgF r dd w J K := by subst hj hk; rfl
theorem mgF_0n {r dd : Nat → Int32} {w : Int} {J K : Nat} (hj : J = 0) (hk : K ≠ 0) : (0 : Int64) = mgF r dd w J K := by subst hj; rw [mgF_0, if_neg hk]
theorem mgF_zz {r dd : Nat → Int32} {w : Int} {j J K : Nat} (hj : J = j + 1) (hk : K = 0) : (0 : Int64) = mgF r dd w J K := by subst hj hk; rfl
theorem mgF_nn {r dd : Nat → Int32} {w : Int} {j k J K : Nat} (hj : J = j + 1) (hk : K = k + 1) (h : r k ≠ dd j) : (0 : Int64) = mgF r dd w J K := by subst hj hk; exact (mgF_n h).symm
theorem mgF_yy {r dd : Nat → Int32} {w : Int} {j k J K t : Nat} {v : Int64} (hj : J = j + 1) (hk : K = k + 1) (ht : t = k + 1) (h : r k = dd j) (hv : v = sumS (mgF r dd w j) w k t) : v = mgF r dd w J K := by
  subst hj hk ht
  rw [mgF_y h]
  exact hv
theorem mgF_eq {r dd r2 dd2 : Nat → Int32} {w : Int} {n0 n1 : Nat} (hr : ∀ p, p < n0 → r2 p = r p) (hd : ∀ j, j < n1 → dd2 j = dd j) : ∀ j, j ≤ n1 → ∀ k, k ≤ n0 → mgF r2 dd2 w j k = mgF r dd w j k
  | 0, _, _, _ => rfl
  | j + 1, hj, 0, _ => rfl
  | j + 1, hj, k + 1, hk => by
    by_cases z : r k = dd j
    · rw [mgF_y z, mgF_y (by rw [hr k (by omega), hd j (by omega)]; exact z)]
      exact sumS_eq (k + 1) (fun q hq => mgF_eq hr hd j (by omega) q (by omega))
    · rw [mgF_n z, mgF_n (by rw [hr k (by omega), hd j (by omega)]; exact z)]
/-- all gaps too -/
def evT (r dd : Nat → Int32) (w : Int) (n0 n1 : Nat) : Int64 := sumS (mgF r dd w n1) w n0 (n0 + 1)
theorem evT_eq {r dd r2 dd2 : Nat → Int32} {w : Int} {n0 n1 : Nat} (hr : ∀ p, p < n0 → r2 p = r p) (hd : ∀ j, j < n1 → dd2 j = dd j) : evT r2 dd2 w n0 n1 = evT r dd w n0 n1 := sumS_eq _ (fun q hq => mgF_eq hr hd n1 (Nat.le_refl _) q (by omega))
/-- the class's row: some entries new, the others as they were -/
def EVT (N : Nat → Nat → Int64) (f g : Nat → Int64) (n0 : Nat) (p : Int) : Prop := ∀ k : Nat, k ≤ n0 → (p < (k : Int) → N 106 k = g k) ∧ ((k : Int) ≤ p → N 106 k = f k)
theorem EVT_s {N N2 : Nat → Nat → Int64} {f g : Nat → Int64} {n0 i : Nat} {p p2 : Int} {v : Int64} (h : EVT N f g n0 p) (e : N2 = up2 N 106 i v) (hi : (i : Int) = p) (hv : v = g i) (hp : p2 = p - 1) : EVT N2 f g n0 p2 := fun k hk => by
  by_cases z : k = i
  · subst z
    exact ⟨fun _ => by rw [e, up2_eq]; exact hv, fun q => by omega⟩
  · exact ⟨fun q => by rw [e, up2_ne (by omega)]; exact (h k hk).1 (by omega), fun q => by rw [e, up2_ne (by omega)]; exact (h k hk).2 (by omega)⟩
/-- the reference's table -/
def EWR (N : Nat → Nat → Int64) (f : Nat → Nat → Int64) (n0 J K : Nat) : Prop := ∀ j k : Nat, k ≤ n0 → (j < J ∨ (j = J ∧ k < K)) → N 156 (17 * k + j) = f j k
theorem EWR_0 {N : Nat → Nat → Int64} {f : Nat → Nat → Int64} {n0 : Nat} : EWR N f n0 0 0 := fun j k _ q => by omega
theorem EWR_s {N N2 : Nat → Nat → Int64} {f : Nat → Nat → Int64} {n0 J K : Nat} {v : Int64} (h : EWR N f n0 J K) (e : N2 = up2 N 156 (17 * K + J) v) (hK : K ≤ n0) (hJ : J ≤ 16) (hv : v = f J K) : EWR N2 f n0 J (K + 1) := fun j k hk q => by
  by_cases z : j = J ∧ k = K
  · obtain ⟨z1, z2⟩ := z
    subst z1 z2
    rw [e, up2_eq]; exact hv
  · rw [e, up2_ne (fun w => z (by have w2 := w.2; omega))]
    exact h j k hk (by omega)
theorem EWR_n {N : Nat → Nat → Int64} {f : Nat → Nat → Int64} {n0 J K : Nat} (h : EWR N f n0 J K) (hK : n0 < K) : EWR N f n0 (J + 1) 0 := fun j k hk q => h j k hk (by omega)
/-- the reference's ways: one row, taken again for each place -/
def wyF (r dd : Nat → Int32) (n0 p j : Nat) : Int64 := sumS (mgF r dd 1 j) 1 n0 (p + 1)
theorem wyF_0 {r dd : Nat → Int32} {n0 j : Nat} : wyF r dd n0 0 j = if j = 0 then 1 else 0 := by
  show sumS (mgF r dd 1 j) 1 n0 (0 + 1) = _
  rw [sumS_y (by omega), sumS_0, Int64.zero_add]
  cases j with
  | zero => rfl
  | succ j => rfl
theorem wyF_z {r dd : Nat → Int32} {n0 p : Nat} : wyF r dd n0 (p + 1) 0 = wyF r dd n0 p 0 := by
  show sumS (mgF r dd 1 0) 1 n0 (p + 1 + 1) = sumS (mgF r dd 1 0) 1 n0 (p + 1)
  rw [sumS_y (t := p + 1) (by omega), mgF_0, if_neg (by omega), Int64.add_zero]
theorem wyF_y {r dd : Nat → Int32} {n0 p j : Nat} (h : r p = dd j) : wyF r dd n0 (p + 1) (j + 1) = wyF r dd n0 p (j + 1) + wyF r dd n0 p j := by
  show sumS (mgF r dd 1 (j + 1)) 1 n0 (p + 1 + 1) = sumS (mgF r dd 1 (j + 1)) 1 n0 (p + 1) + sumS (mgF r dd 1 j) 1 n0 (p + 1)
  rw [sumS_y (t := p + 1) (by omega), mgF_y h, sumS_1 (k := p) (k2 := n0)]
theorem wyF_n {r dd : Nat → Int32} {n0 p j : Nat} (h : r p ≠ dd j) : wyF r dd n0 (p + 1) (j + 1) = wyF r dd n0 p (j + 1) := by
  show sumS (mgF r dd 1 (j + 1)) 1 n0 (p + 1 + 1) = sumS (mgF r dd 1 (j + 1)) 1 n0 (p + 1)
  rw [sumS_y (t := p + 1) (by omega), mgF_n h, Int64.add_zero]
def WYS (N : Nat → Nat → Int64) (p : Int) : Prop := ∀ j : Nat, (j : Int) < p → N 151 j = if j = 0 then 1 else 0
theorem WYS_0 {N : Nat → Nat → Int64} : WYS N 0 := fun j h => by omega
theorem WYS_s {N N2 : Nat → Nat → Int64} {p p2 : Int} {i : Nat} {v : Int64} (h : WYS N p) (e : N2 = up2 N 151 i v) (hi : (i : Int) = p) (hv : v = if i = 0 then 1 else 0) (hp : p2 = p + 1) : WYS N2 p2 := fun j hj => by
  by_cases z : j = i
  · subst z
    rw [e, up2_eq]; exact hv
  · rw [e, up2_ne (by omega)]; exact h j (by omega)
def WYT (N : Nat → Nat → Int64) (r dd : Nat → Int32) (n0 n1 p : Nat) (q : Int) : Prop := ∀ j : Nat, j ≤ n1 → (q < (j : Int) → N 151 j = wyF r dd n0 (p + 1) j) ∧ ((j : Int) ≤ q → N 151 j = wyF r dd n0 p j)
def WYR (N : Nat → Nat → Int64) (r dd : Nat → Int32) (n0 n1 p : Nat) : Prop := ∀ j : Nat, j ≤ n1 → N 151 j = wyF r dd n0 p j
theorem WYR_0 {N : Nat → Nat → Int64} {r dd : Nat → Int32} {n0 n1 : Nat} {p : Int} (h : WYS N p) (hp : (n1 : Int) < p) : WYR N r dd n0 n1 0 := fun j hj => by rw [wyF_0]; exact h j (by omega)
theorem WYT_0 {N : Nat → Nat → Int64} {r dd : Nat → Int32} {n0 n1 p : Nat} {q : Int} (h : WYR N r dd n0 n1 p) (hq : q = n1) : WYT N r dd n0 n1 p q := fun j hj => ⟨fun z => by omega, fun _ => h j hj⟩
theorem WYT_e {N : Nat → Nat → Int64} {r dd : Nat → Int32} {n0 n1 p p2 : Nat} {q : Int} (h : WYT N r dd n0 n1 p q) (hq : q = 0) (hp : p2 = p + 1) : WYR N r dd n0 n1 p2 := fun j hj => by
  subst hp
  by_cases z : j = 0
  · subst z; rw [wyF_z]; exact (h 0 hj).2 (by omega)
  · exact (h j hj).1 (by omega)
theorem WYT_s {N N2 : Nat → Nat → Int64} {r dd : Nat → Int32} {n0 n1 p i : Nat} {q q2 : Int} {v : Int64} (h : WYT N r dd n0 n1 p q) (e : N2 = up2 N 151 i v) (hi : (i : Int) = q) (h0 : 1 ≤ q) (hr : r p = dd (i - 1)) (hv : v = wyF r dd n0 p i + wyF r dd n0 p (i - 1)) (hq : q2 = q - 1) : WYT N2 r dd n0 n1 p q2 := fun j hj => by
  by_cases z : j = i
  · subst z
    refine ⟨fun _ => ?_, fun q => by omega⟩
    rw [e, up2_eq, hv]
    obtain ⟨l, rfl⟩ : ∃ l, j = l + 1 := ⟨j - 1, by omega⟩
    exact (wyF_y hr).symm
  · exact ⟨fun q => by rw [e, up2_ne (by omega)]; exact (h j hj).1 (by omega), fun q => by rw [e, up2_ne (by omega)]; exact (h j hj).2 (by omega)⟩
theorem WYT_n {N : Nat → Nat → Int64} {r dd : Nat → Int32} {n0 n1 p i : Nat} {q q2 : Int} (h : WYT N r dd n0 n1 p q) (hi : (i : Int) = q) (h0 : 1 ≤ q) (hr : r p ≠ dd (i - 1)) (hq : q2 = q - 1) : WYT N r dd n0 n1 p q2 := fun j hj => by
  by_cases z : j = i
  · subst z
    refine ⟨fun _ => ?_, fun q => by omega⟩
    rw [(h j hj).2 (by omega)]
    obtain ⟨l, rfl⟩ : ∃ l, j = l + 1 := ⟨j - 1, by omega⟩
    exact (wyF_n hr).symm
  · exact ⟨fun q => (h j hj).1 (by omega), fun q => (h j hj).2 (by omega)⟩
/-- what both sides answer -/
def EVF (ok : Prop) (x v : Int64) : Prop := (¬ ok ∧ v = -1) ∨ (ok ∧ v = x)
def EWRx (m1 : Nat → Nat → Int32) (b i : Nat) (w : Int) (n0 n1 : Nat) (v : Int64) : Prop := ∃ rr dr : Nat → Int32, (∀ p, p < n0 → ∃ q, IsN (m1 128) (40 * b) (m1 124 b).toInt.toNat p q ∧ rr p = m1 125 (40 * b + q)) ∧ (∀ k, k < n1 → dr k = m1 127 (16 * i + k)) ∧ v = evT rr dr w n0 n1
theorem EWRx_i {m1 : Nat → Nat → Int32} {b i : Nat} {w : Int} {n0 n1 : Nat} {v : Int64} {rr dr : Nat → Int32} (h1 : ∀ p, p < n0 → ∃ q, IsN (m1 128) (40 * b) (m1 124 b).toInt.toNat p q ∧ rr p = m1 125 (40 * b + q)) (h2 : ∀ k, k < n1 → dr k = m1 127 (16 * i + k)) (h3 : v = evT rr dr w n0 n1) : EWRx m1 b i w n0 n1 v := ⟨rr, dr, h1, h2, h3⟩
def EWRr (ok : Prop) (m1 : Nat → Nat → Int32) (b i : Nat) (w : Int) (n0 n1 : Nat) (v : Int64) : Prop := (¬ ok ∧ v = -1) ∨ (ok ∧ EWRx m1 b i w n0 n1 v)
theorem even_EA {la lb : Nat} {m m1 m2 : Nat → Nat → Int32} {x0 x1 : Int32} {wd : Int} {ok : Prop} {v w : Int64} (I : IV BB m) (hl : la = 77 ∨ la = 88) (h : EQA la lb m)
    (c : EVF ((0 ≤ x0.toInt ∧ x0.toInt < (m 0 2).toInt) ∧ (ddv m x1).toInt = 1 ∧ ok) (evT (m (4 + 7 * x0.toInt.toNat + 4)) (m (62 + 2 * x1.toInt.toNat)) wd (m (4 + 7 * x0.toInt.toNat + 3) 1).toInt.toNat (m (61 + 2 * x1.toInt.toNat) 1).toInt.toNat) v)
    (r : EWRr ((0 ≤ x0.toInt ∧ x0.toInt < (m1 123 0).toInt) ∧ (idr m1 x1).toInt = 1 ∧ ok) m1 x0.toInt.toNat x1.toInt.toNat wd (nu m1 x0.toInt 0).toNat (m1 126 x1.toInt.toNat).toInt.toNat w)
    (fn : fr wN m m1) (rR : ∀ a i, isR a i = true → m2 a i = m1 a i) (rf : ∀ a i, isF a i = true → m2 a i = m1 a i) : w = v ∧ EQA la lb m2 := by
  have fo : fr wO m m1 := fun a i q => fn a i (wN_wO a i q)
  have hR := REST_m I hl h fo
  have hS := SB2_m I h fo
  have hc0 : (m 0 2).toInt = (m1 123 0).toInt := hS.2.1
  have hdd : (ddv m x1).toInt = 1 ↔ (idr m1 x1).toInt = 1 := by
    have e : idr m1 x1 = idr m x1 := by unfold idr; rw [fo 123 4 rfl]
    rw [e]
    exact dd_1 I h.1
  refine ⟨?_, EQA_k I hl h (fun a i q => (rR a i q).trans (fn a i (wN_isR q))) (fun a i q => (rf a i q).trans (fn a i (wN_isF q)))⟩
  rcases c with ⟨c1, c2⟩ | ⟨c1, c2⟩ <;> rcases r with ⟨r1, r2⟩ | ⟨r1, r2⟩
  · exact r2.trans c2.symm
  · exact absurd ⟨⟨r1.1.1, by rw [hc0]; exact r1.1.2⟩, hdd.mpr r1.2.1, r1.2.2⟩ c1
  · exact absurd ⟨⟨c1.1.1, by rw [← hc0]; exact c1.1.2⟩, hdd.mp c1.2.1, c1.2.2⟩ r1
  · have c10 := c1.1
    have ex : ((x0.toInt.toNat : Nat) : Int) = x0.toInt := by omega
    have hb : ((x0.toInt.toNat : Nat) : Int) < (m 0 2).toInt := by omega
    have hx1 := FGH_ok r1.2.1
    have hz := SZ_nu (b := x0.toInt.toNat) hS hR hb
    rw [ex] at hz
    have hn0 : (nu m1 x0.toInt 0).toNat = (m (4 + 7 * x0.toInt.toNat + 3) 1).toInt.toNat := by rw [hz]
    have d1 := dd_row (i := x1.toInt.toNat) h.1 (by omega)
    have hn1 : (m1 126 x1.toInt.toNat).toInt.toNat = (m (61 + 2 * x1.toInt.toNat) 1).toInt.toNat := by rw [fo 126 _ rfl, d1.1]
    rw [hn0, hn1] at r2
    obtain ⟨rr, dr, rR', rD, r3⟩ := r2
    rw [evT_eq (r := m (4 + 7 * x0.toInt.toNat + 4)) (dd := m (62 + 2 * x1.toInt.toNat)) (fun p hp => left_row hS hR hb (by omega) (rR' p hp)) (fun k hk => by
      rw [rD k hk, fo 127 _ rfl]
      exact d1.2 k (by have := d1.1; omega))] at r3
    exact r3.trans c2.symm
theorem pv_lcmp0 {sc : pv_S} {g : pv_G} {M : pv_M} {Q : Option Value → List pv_C → Prop} {dp kc ks pc : Nat} {lo st : List Value} {h : List pv_C} {x y : Int64} (hd : decode M.2.2.1 pc = .ok (.lcmp, 1)) (n0 : Nat) (hp : pc + 1 = n0) (e : x = y) (k : PV sc g M Q dp kc ks n0 lo (.int 0 :: st) h) : PV sc g M Q dp kc ks pc lo (.long y :: .long x :: st) h := pv_lcmp (v := 0) hd n0 hp (by subst e; simp [lg_cmp]) k
theorem BB_rest {b : Nat} (h : b < 8) : BB (4 + 7 * b + 3) 1 = (0, 40) := by
  have : b = 0 ∨ b = 1 ∨ b = 2 ∨ b = 3 ∨ b = 4 ∨ b = 5 ∨ b = 6 ∨ b = 7 := by omega
  rcases this with rfl | rfl | rfl | rfl | rfl | rfl | rfl | rfl <;> rfl
