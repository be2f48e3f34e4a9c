/-! references that change: fields and places of r -/
theorem up1_eq {α : Type} (r : Nat → α) (j : Nat) (v : α) : up1 r j v j = v := by simp [up1]
theorem up1_ne {α : Type} {r : Nat → α} {j k : Nat} {v : α} (h : k ≠ j) : up1 r j v k = r k := by simp [up1, h]
/-- a cell that does not look at place j of r -/
def nmB (b j : Nat) : mv_T → Bool
  | .inl (t, _) => !((t == 4 || t == 5) && decide (1000 * b ≤ j ∧ j < 1000 * b + 1000))
  | .inr (_, ds) => ds.all (fun d => match d with
    | some (.inr k) => !(k == j)
    | _ => true)
def NM (T : List mv_T) (a j : Nat) : Prop := ∀ b u, T[b]? = some u → b ≠ a → nmB b j u = true
theorem mv_q_off {r : Nat → Value} {b j : Nat} {v : Value} (h : ¬ (1000 * b ≤ j ∧ j < 1000 * b + 1000)) : mv_q (up1 r j v) b = mv_q r b := by
  funext i
  unfold mv_q
  split
  · rw [up1_ne (by omega)]
  · rfl
theorem mv_fs_off {m : Nat → Nat → Int32} {r : Nat → Value} {b j : Nat} {v : Value} {ds : List (Option (Nat ⊕ Nat))} (h : ds.all (fun d => match d with | some (.inr k) => !(k == j) | _ => true) = true) : mv_fs m (up1 r j v) b ds = mv_fs m r b ds := by
  apply List.ext_getElem?
  intro i
  simp only [mv_fs, List.getElem?_mapIdx]
  cases hu : ds[i]? with
  | none => rfl
  | some d =>
    have hm : d ∈ ds := List.mem_of_getElem? hu
    have q := List.all_eq_true.mp h d hm
    match d, q with
    | none, _ => rfl
    | some (.inl c), _ => rfl
    | some (.inr k), q =>
      have hk : k ≠ j := by simpa using q
      simp [mv_f, up1_ne hk]
theorem mv_c_r {m : Nat → Nat → Int32} {n : Nat → Nat → Int64} {r : Nat → Value} {b j : Nat} {v : Value} {u : mv_T} (h : nmB b j u = true) : mv_c m n (up1 r j v) b u = mv_c m n r b u := by
  unfold mv_c
  split
  · rfl
  · rw [mv_q_off]
    intro z
    simp [nmB] at h
    omega
  · rw [mv_q_off]
    intro z
    simp [nmB] at h
    omega
  · rfl
  · rename_i ci ds
    rw [mv_fs_off]
    exact h
theorem mv_fs_setr {m : Nat → Nat → Int32} {r : Nat → Value} {a k j : Nat} {v : Value} {ds : List (Option (Nat ⊕ Nat))} (hk : ds[k]? = some (some (.inr j))) (hu : ∀ i, i ≠ k → ds[i]? ≠ some (some (.inr j))) : (mv_fs m r a ds).set k v = mv_fs m (up1 r j v) a ds := by
  apply List.ext_getElem?
  intro i
  have hl : k < ds.length := (List.getElem?_eq_some_iff.mp hk).1
  simp only [mv_fs, List.getElem?_set, List.getElem?_mapIdx, List.length_mapIdx]
  by_cases hj : k = i
  · subst hj
    rw [if_pos rfl, if_pos hl, hk]
    simp [mv_f, up1_eq]
  · simp only [hj, if_false]
    have q := hu i (fun z => hj z.symm)
    cases hd : ds[i]? with
    | none => rfl
    | some d =>
      match d, hd with
      | none, _ => rfl
      | some (.inl c), _ => rfl
      | some (.inr l), hd =>
        have hl : l ≠ j := fun z => q (by rw [hd, z])
        simp [mv_f, up1_ne hl]
theorem mk_setr {T : List mv_T} {m : Nat → Nat → Int32} {n : Nat → Nat → Int64} {r : Nat → Value} {a ci k j : Nat} {ds : List (Option (Nat ⊕ Nat))} {v : Value} (h : T[a]? = some (.inr (ci, ds))) (hk : ds[k]? = some (some (.inr j))) (hu : ∀ i, i ≠ k → ds[i]? ≠ some (some (.inr j))) (hN : NM T a j) : (mk T m n r).set a (pv_o ci ((mv_fs m r a ds).set k v)) = mk T m n (up1 r j v) := by
  refine mk_set h ?_ (fun b u hb hne => mv_c_r (hN b u hb hne))
  rw [mv_fs_setr hk hu]
  rfl
theorem mv_q_set {r : Nat → Value} {a i v : Nat} (hi : i < 1000) : mv_q (up1 r (1000 * a + i) (.ref v)) a = va_up (mv_q r a) i (some v) := by
  funext j
  unfold mv_q va_up
  by_cases z : j = i
  · subst z; simp [hi, up1_eq]
  · have e : 1000 * a + j ≠ 1000 * a + i := by omega
    simp [z, up1_ne e]
theorem mk_setq {T : List mv_T} {m : Nat → Nat → Int32} {n : Nat → Nat → Int64} {r : Nat → Value} {a t k i v : Nat} (h : T[a]? = some (.inl (t, k))) (ht : t = 4 ∨ t = 5) (hi : i < 1000) (hN : NM T a (1000 * a + i)) : (mk T m n r).set a (pv_q t k (va_up (mv_q r a) i (some v))) = mk T m n (up1 r (1000 * a + i) (.ref v)) := by
  refine mk_set h ?_ (fun b u hb hne => mv_c_r (hN b u hb hne))
  rcases ht with rfl | rfl <;> simp [mv_c, mv_q_set hi]
section MR
variable {sc : pv_S} {g : pv_G} {M : pv_M} {Q : Option Value → List pv_C → Prop} {dp kc ks pc : Nat} {lo st : List Value} {T : List mv_T} {m : Nat → Nat → Int32} {n : Nat → Nat → Int64} {r : Nat → Value}
theorem mv_putr {idx a ci N j : Nat} {C : String} {TT : u_T} {ty : Nat → FieldType} {ds : List (Option (Nat ⊕ Nat))} {v : Value} (hd : decode M.2.2.1 pc = .ok (.putfield idx, 3)) (F : pv_F ci C TT N ty) (i : Nat) (hw : Cond.fieldLink M.1 idx (TT i).1 (TT i).2.1 (TT i).2.2.1 ∈ pv_T) (hi : i < N) (hf : (TT i).2.2.2 = false) (ha : T[a]? = some (.inr (ci, ds))) (hk : ds[i]? = some (some (.inr j))) (hu : ∀ q, q ≠ i → ds[q]? ≠ some (some (.inr j))) (hN : NM T a j) (hn : ∀ b, narrow (ty i) (pv_lf b v) = pv_lf b v) (hft : ∀ b, fits (ty i) (pv_lf b v) = true) (n0 : Nat) (hp : pc + 3 = n0) (kk : ∀ r' : Nat → Value, r' = up1 r j v → PV sc g M Q dp kc ks n0 lo st (mk T m n r')) : PV sc g M Q dp kc ks pc lo (v :: .ref a :: st) (mk T m n r) :=
  pv_put hd F i hw hi hf (mk_get ha) (by rw [mv_fs_len]; exact (List.getElem?_eq_some_iff.mp hk).1) hn hft rfl (mk_setr ha hk hu hN) n0 hp (kk _ rfl)
theorem mv_aastr {a t k v ci : Nat} {i : Int32} {X : Int} {rc : vw_C} {ds : List (Option (Nat ⊕ Nat))} (hd : decode M.2.2.1 pc = .ok (.aastore, 1)) (ha : T[a]? = some (.inl (t, k))) (ht : t = 4 ∨ t = 5) (hk1 : k ≤ 1000) (hv : T[v]? = some (.inr (ci, ds))) (hc : vwCl[ci]? = some rc) (hty : ∀ kA : Nat → ClassId, (pv_tys kA)[t]? = some (kA t, .object rc.1)) (hx : i.toInt = X) (h1 : 0 ≤ X) (h2 : X < k) (hN : NM T a (1000 * a + X.toNat)) (n0 : Nat) (hp : pc + 1 = n0) (kk : ∀ r' : Nat → Value, r' = up1 r (1000 * a + X.toNat) (.ref v) → PV sc g M Q dp kc ks n0 lo st (mk T m n r')) : PV sc g M Q dp kc ks pc lo (.ref v :: .int i :: .ref a :: st) (mk T m n r) := by
  have e : mv_c m n r a (.inl (t, k)) = pv_q t k (mv_q r a) := by rcases ht with rfl | rfl <;> rfl
  exact pv_aast hd ((mk_get ha).trans (congrArg some e)) (mk_get hv) hc hty (iv_in (X := X) hx h1 h2) (j := X.toNat) (by rw [← hx]; rfl) (mk_setq ha ht (by omega) hN) n0 hp (kk _ rfl)
end MR
theorem NM_of {T : List mv_T} {a j : Nat} (h : (T.mapIdx (fun b u => b == a || nmB b j u)).all id = true) : NM T a j := by
  intro b u hb hne
  have hm : (b == a || nmB b j u) ∈ T.mapIdx (fun b u => b == a || nmB b j u) := List.mem_of_getElem? (i := b) (by rw [List.getElem?_mapIdx, hb]; rfl)
  have q := List.all_eq_true.mp h _ hm
  simpa [hne] using q
theorem NM1 : NM TL 0 1 := NM_of (by decide +kernel)
theorem NM3 : NM TL 86 3 := NM_of (by decide +kernel)
/-- the cells of what is made when THE SHORTEST is first asked for -/
abbrev ds169 : List (Option (Nat ⊕ Nat)) := [some (.inl 170), none, some (.inl 172), some (.inl 173), none, some (.inl 175), some (.inl 176), some (.inl 177), some (.inl 178), some (.inl 179)]
abbrev ds170 : List (Option (Nat ⊕ Nat)) := [some (.inl 171), none]
abbrev ds173 : List (Option (Nat ⊕ Nat)) := [some (.inl 174), none]
def TLc : List mv_T := [.inr (3, ds169), .inr (8, ds170), .inl (0, 48), .inl (5, 4), .inr (8, ds173), .inl (0, 0), .inl (0, 4), .inl (0, 4), .inl (0, 4), .inl (0, 28561), .inl (2, 28561)]
def TL2 : List mv_T := TL ++ TLc
theorem TL_len : TL.length = 169 := by decide +kernel
def TC (T : List mv_T) : Prop := T = TL2
theorem TC_TX {T : List mv_T} (h : TC T) : TX T := by
  intro a t ha
  have hl : a < TL.length := (List.getElem?_eq_some_iff.mp ha).1
  rw [h]
  unfold TL2
  rw [List.getElem?_append_left hl]
  exact ha
theorem TC_at {T : List mv_T} (h : TC T) {k : Nat} {t : mv_T} (ht : TLc[k]? = some t) : T[169 + k]? = some t := by
  rw [h]
  unfold TL2
  rw [List.getElem?_append_right (by rw [TL_len]; omega), TL_len, show 169 + k - 169 = k by omega]
  exact ht
theorem NM1c : NM TL2 0 1 := NM_of (by decide +kernel)
theorem NM2c : NM TL2 0 2 := NM_of (by decide +kernel)
theorem NM3c : NM TL2 86 3 := NM_of (by decide +kernel)
theorem NMp {X : Nat} (h : X < 4) : NM TL2 172 (1000 * 172 + X) := by
  have : X = 0 ∨ X = 1 ∨ X = 2 ∨ X = 3 := by omega
  rcases this with rfl | rfl | rfl | rfl <;> exact NM_of (by decide +kernel)
theorem tc169 {T : List mv_T} (h : TC T) : T[169]? = some (.inr (3, ds169)) := TC_at h (k := 0) rfl
theorem tc170 {T : List mv_T} (h : TC T) : T[170]? = some (.inr (8, ds170)) := TC_at h (k := 1) rfl
theorem tc171 {T : List mv_T} (h : TC T) : T[171]? = some (.inl (0, 48)) := TC_at h (k := 2) rfl
theorem tc172 {T : List mv_T} (h : TC T) : T[172]? = some (.inl (5, 4)) := TC_at h (k := 3) rfl
theorem tc173 {T : List mv_T} (h : TC T) : T[173]? = some (.inr (8, ds173)) := TC_at h (k := 4) rfl
theorem tc174 {T : List mv_T} (h : TC T) : T[174]? = some (.inl (0, 0)) := TC_at h (k := 5) rfl
theorem tc175 {T : List mv_T} (h : TC T) : T[175]? = some (.inl (0, 4)) := TC_at h (k := 6) rfl
theorem tc176 {T : List mv_T} (h : TC T) : T[176]? = some (.inl (0, 4)) := TC_at h (k := 7) rfl
theorem tc177 {T : List mv_T} (h : TC T) : T[177]? = some (.inl (0, 4)) := TC_at h (k := 8) rfl
theorem tc178 {T : List mv_T} (h : TC T) : T[178]? = some (.inl (0, 28561)) := TC_at h (k := 9) rfl
theorem tc179 {T : List mv_T} (h : TC T) : T[179]? = some (.inl (2, 28561)) := TC_at h (k := 10) rfl
theorem row170 {T : List mv_T} (h : TC T) : RowAt T 170 48 := ⟨tc170 h, tc171 h, rfl, fun _ => rfl, by decide, by decide, by decide⟩
theorem row173 {T : List mv_T} (h : TC T) : RowAt T 173 0 := ⟨tc173 h, tc174 h, rfl, fun _ => rfl, by decide, by decide, by decide⟩
/-- the parts: which rows they are -/
def PX (T : List mv_T) (r : Nat → Value) (p q : Nat → Nat) : Prop := ∀ d, d < 4 → r (172000 + d) = .ref (p d) ∧ RowAt T (p d) (q d)
section MP
variable {sc : pv_S} {g : pv_G} {M : pv_M} {Q : Option Value → List pv_C → Prop} {dp kc ks pc : Nat} {lo st : List Value} {T : List mv_T} {m : Nat → Nat → Int32} {n : Nat → Nat → Int64} {r : Nat → Value}
theorem iv_qpart {p q : Nat → Nat} {i : Int32} {X : Int} (hd : decode M.2.2.1 pc = .ok (.aaload, 1)) (hC : TC T) (P : PX T r p q) (hx : i.toInt = X) (h1 : 0 ≤ X) (h2 : X < 4) (n0 : Nat) (hp : pc + 1 = n0) (kk : ∀ b rm : Nat, b = p X.toNat → rm = q X.toNat → RowAt T b rm → PV sc g M Q dp kc ks n0 lo (.ref b :: st) (mk T m n r)) : PV sc g M Q dp kc ks pc lo (.int i :: .ref 172 :: st) (mk T m n r) :=
  mv_qald (C := RX8) hd (tc172 hC) (Or.inr rfl) (by decide) hx h1 (by omega) (P X.toNat (by omega)).1 n0 hp (kk _ _ rfl rfl (P X.toNat (by omega)).2)
end MP
/-- what stands at a place of a row -/
def atv (m : Nat → Nat → Int32) (a : Nat) (i : Int) : Int := if 0 ≤ i ∧ i < (m a 1).toInt then (m (a + 1) i.toNat).toInt else -1
/-! which DEEDS are told, whether THE SHORTEST is refused: exactly -/
def amv (x i : Int32) : Int32 := if ((x >>> (i &&& 31)) &&& 1).toInt = 1 then 1 else 0
def ddv (m : Nat → Nat → Int32) (x : Int32) : Int32 := if 0 ≤ x.toInt ∧ x.toInt ≤ 7 ∧ 0 < (m (61 + 2 * x.toInt.toNat) 1).toInt then 1 else 0
def tld (m : Nat → Nat → Int32) : Nat → Int32
  | 0 => 0
  | k + 1 => if (ddv m (Int32.ofInt k)).toInt = 0 then tld m k else tld m k ||| ((1 : Int32) <<< (Int32.ofInt k &&& 31))
theorem ofn {x : Int32} (h : 0 ≤ x.toInt) : Int32.ofInt ((x.toInt.toNat : Nat) : Int) = x := by
  rw [show ((x.toInt.toNat : Nat) : Int) = x.toInt by omega]
  exact Int32.ofInt_toInt x
theorem tld_s {m : Nat → Nat → Int32} {x : Int32} {k : Nat} (h : 0 ≤ x.toInt) (hk : k = x.toInt.toNat + 1) : tld m k = if (ddv m x).toInt = 0 then tld m x.toInt.toNat else tld m x.toInt.toNat ||| ((1 : Int32) <<< (x &&& 31)) := by
  subst hk
  simp only [tld, ofn h]
def adv (m : Nat → Nat → Int32) (x : Int32) : Int32 := if (x &&& (tld m 8 ^^^ -1)).toInt = 0 then 1 else 0
def ush (x k : Int32) : Int32 := (x.toUInt32 >>> (k.toUInt32 &&& Int32.toUInt32 31)).toInt32
def bc1 (x : Int32) : Int32 := x - (ush x 1 &&& 1431655765)
def bc2 (x : Int32) : Int32 := (x &&& 858993459) + (ush x 2 &&& 858993459)
def bc3 (x : Int32) : Int32 := (x + ush x 4) &&& 252645135
def bc4 (x : Int32) : Int32 := x + ush x 8
def bc5 (x : Int32) : Int32 := x + ush x 16
def bcn (x : Int32) : Int32 := bc5 (bc4 (bc3 (bc2 (bc1 x)))) &&& 63
def cOK (m : Nat → Nat → Int32) (x : Int32) : Prop := (adv m x).toInt ≠ 0 ∧ 2 ≤ (bcn x).toInt ∧ (bcn x).toInt ≤ 4 ∧ ∀ i : Nat, i < 8 → (amv x (Int32.ofInt i)).toInt ≠ 0 → (m (61 + 2 * i) 1).toInt ≤ 12
def RFZ (m : Nat → Nat → Int32) (x v : Int32) : Prop := v.toInt = 0 ↔ cOK m x
theorem rfz_no {m : Nat → Nat → Int32} {x v : Int32} (hv : v.toInt ≠ 0) (h : ¬ cOK m x) : RFZ m x v := ⟨fun q => absurd q hv, fun q => absurd q h⟩
