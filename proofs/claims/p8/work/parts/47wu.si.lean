set_option maxHeartbeats 2000000 in
set_option maxRecDepth 20000 in
theorem s_X12_isAsked_va (g : pv_G) {T : List mv_T} {m : Nat → Nat → Int32} {n : Nat → Nat → Int64} {r : Nat → Value} (hT : TX T) (I : IV BB m) (x0 : Int32) (x1 : Int32) : PM g mX12_isAsked yX12_isAsked (sqP (mk T m n r) 0 1 (fun v => (v = 0 ∨ ((0 ≤ x0.toInt ∧ x0.toInt ≤ 7) ∧ (0 ≤ x1.toInt ∧ x1.toInt ≤ 7))) ∧ ((v.toInt = 1 ∧ (0 ≤ x0.toInt ∧ x0.toInt < (m 123 0).toInt) ∧ (idr m x1).toInt = 1) ∨ (v.toInt = 0 ∧ ¬ ((0 ≤ x0.toInt ∧ x0.toInt < (m 123 0).toInt) ∧ (idr m x1).toInt = 1))))) 2 0 0 [.ref 123, .int x0, .int x1] (mk T m n r) := by
  have Kp : fr (wl []) m m := fr.rf
  have z12 : 0 ≤ (m 123 0).toInt ∧ (m 123 0).toInt ≤ 8 := I 123 0
  refine PM.of 0 (lo := [.ref 123, .int x0, .int x1]) rfl (by decide) rfl rfl (Nat.le_of_ble_eq_true rfl) ?_
  refine pv_aload_n (M := mX12_isAsked) 0 dX12_isAsked_0 1 rfl rfl rfl ?_
  refine pv_iload_n (M := mX12_isAsked) 1 dX12_isAsked_1 2 rfl rfl rfl ?_
  refine pv_callv (M := mX12_isAsked) (as := [.int x0]) (st := []) (kc2 := 0) (ks2 := 0) dX12_isAsked_2 wd1389 YX12_isBlank ⟨wd1391, wd55⟩ (mk_get (tl123 hT)) rfl rfl (s_X12_isBlank_vx g hT I x0) rfl rfl (Nat.le_of_ble_eq_true rfl) (by decide) rfl rfl 5 rfl (fun rv h1 q1 => ?_)
  obtain ⟨v2, rfl, rfl, pv2, qv2, rv2⟩ := q1
  replace rv2 : (v2 = 0 ∨ (0 ≤ x0.toInt ∧ x0.toInt ≤ 7)) ∧ ((v2.toInt = 1 ∧ 0 ≤ x0.toInt ∧ x0.toInt < (m 123 0).toInt) ∨ (v2.toInt = 0 ∧ (x0.toInt < 0 ∨ (m 123 0).toInt ≤ x0.toInt))) := rv2
  show PV _ _ _ _ _ _ _ 5 [.ref 123, .int x0, .int x1] [.int v2] _
  have k5 := rv2.2
  refine pv_if_eq (M := mX12_isAsked) (tgt := 20) dX12_isAsked_5 8 rfl (by decide) (fun c4 => ?_) (fun c4 => ?_)
  · have c4 := iv_eq (X := v2.toInt) (Y := 0) c4 rfl (by decide)
    refine pv_iconst (M := mX12_isAsked) (v := 0) dX12_isAsked_20 21 rfl (by decide) ?_
    have z5 : (0 : Int32).toInt = 0 := by decide
    exact pv_iret (M := mX12_isAsked) dX12_isAsked_21 rfl rfl ⟨_, rfl, rfl, by decide, by decide, ⟨Or.inl rfl, Or.inr ⟨by decide, by omega⟩⟩⟩
  · have pc4 := rv2.1.resolve_left c4
    have c4 := iv_ne (X := v2.toInt) (Y := 0) c4 rfl (by decide)
    refine pv_aload_n (M := mX12_isAsked) 0 dX12_isAsked_8 9 rfl rfl rfl ?_
    refine pv_iload_n (M := mX12_isAsked) 2 dX12_isAsked_9 10 rfl rfl rfl ?_
    refine pv_callv (M := mX12_isAsked) (as := [.int x1]) (st := []) (kc2 := 0) (ks2 := 0) dX12_isAsked_10 wd1558 YX12_isDeed ⟨wd1560, wd87⟩ (mk_get (tl123 hT)) rfl rfl (s_X12_isDeed_vy g hT I x1) rfl rfl (Nat.le_of_ble_eq_true rfl) (by decide) rfl rfl 13 rfl (fun rv h1 q6 => ?_)
    obtain ⟨v7, rfl, rfl, pv7, qv7, rv7⟩ := q6
    replace rv7 : (v7 = 0 ∨ (0 ≤ x1.toInt ∧ x1.toInt ≤ 7)) ∧ v7 = idr m x1 := rv7
    show PV _ _ _ _ _ _ _ 13 [.ref 123, .int x0, .int x1] [.int v7] _
    have k12 : (idr m x1).toInt = v7.toInt := congrArg Int32.toInt rv7.2.symm
    refine pv_if_eq (M := mX12_isAsked) (tgt := 20) dX12_isAsked_13 16 rfl (by decide) (fun c9 => ?_) (fun c9 => ?_)
    · have c9 := iv_eq (X := v7.toInt) (Y := 0) c9 rfl (by decide)
      refine pv_iconst (M := mX12_isAsked) (v := 0) dX12_isAsked_20 21 rfl (by decide) ?_
      have z10 : (0 : Int32).toInt = 0 := by decide
      exact pv_iret (M := mX12_isAsked) dX12_isAsked_21 rfl rfl ⟨_, rfl, rfl, by decide, by decide, ⟨Or.inl rfl, Or.inr ⟨by decide, by omega⟩⟩⟩
    · have pc9 := rv7.1.resolve_left c9
      have c9 := iv_ne (X := v7.toInt) (Y := 0) c9 rfl (by decide)
      refine pv_iconst (M := mX12_isAsked) (v := 1) dX12_isAsked_16 17 rfl (by decide) ?_
      refine pv_goto (M := mX12_isAsked) (tgt := 21) dX12_isAsked_17 (by decide) ?_
      have z11 : (1 : Int32).toInt = 1 := by decide
      exact pv_iret (M := mX12_isAsked) dX12_isAsked_21 rfl rfl ⟨_, rfl, rfl, by decide, by decide, ⟨Or.inr (by omega), Or.inl ⟨by decide, by omega, by omega⟩⟩⟩

set_option maxHeartbeats 2000000 in
set_option maxRecDepth 20000 in
theorem s_X12_cheapestOf_va (g : pv_G) {T : List mv_T} {m : Nat → Nat → Int32} {n : Nat → Nat → Int64} {r : Nat → Value} (hT : TX T) (I : IV BB m) (x0 : Int32) (hl0 : 0 ≤ x0.toInt) (hh0 : x0.toInt ≤ 7) (x1 : Int32) (hl1 : 0 ≤ x1.toInt) (hh1 : x1.toInt ≤ 7) (x2 : Int32) (t : Int → Int) (hp0 : LX m) (hp1 : LAWr m t (m 123 20).toInt.toNat) : PM g mX12_cheapestOf yX12_cheapestOf (sqI T BB (wl [(123, 123, some 40), (123, 123, some 41), (141, 141, none), (142, 142, none), (149, 149, none), (150, 150, none), (152, 152, none), (153, 153, none), (154, 154, none)]) r m (-2) 1999999998 (fun m' v => (m' 123 40).toInt = nu m x0.toInt 0 ∧ (m' 123 41).toInt = (m 126 x1.toInt.toNat).toInt ∧ CHE m m' t x0.toInt.toNat x2.toInt (nu m x0.toInt 0).toNat (m 126 x1.toInt.toNat).toInt.toNat x1.toInt.toNat v.toInt)) 5 0 0 [.ref 123, .int x0, .int x1, .int x2] (mk T m n r) := by
  have Kp : fr (wl [(123, 123, some 40), (123, 123, some 41), (141, 141, none), (142, 142, none), (149, 149, none), (150, 150, none), (152, 152, none), (153, 153, none), (154, 154, none)]) m m := fr.rf
  have kLX := hp0
  have z98 : 0 ≤ (m 123 40).toInt ∧ (m 123 40).toInt ≤ 40 := I 123 40
  have z99 : 0 ≤ (m 123 41).toInt ∧ (m 123 41).toInt ≤ 16 := I 123 41
  refine PM.of 0 (lo := [.ref 123, .int x0, .int x1, .int x2]) rfl (by decide) rfl rfl (Nat.le_of_ble_eq_true rfl) ?_
  refine pv_aload_n (M := mX12_cheapestOf) 0 dX12_cheapestOf_0 1 rfl rfl rfl ?_
  refine pv_iload_n (M := mX12_cheapestOf) 1 dX12_cheapestOf_1 2 rfl rfl rfl ?_
  refine pv_iconst (M := mX12_cheapestOf) (v := 0) dX12_cheapestOf_2 3 rfl (by decide) ?_
  have z1 : (0 : Int32).toInt = 0 := by decide
  refine pv_callv (M := mX12_cheapestOf) (as := [.int x0, .int 0]) (st := []) (kc2 := 0) (ks2 := 0) dX12_cheapestOf_3 wd1563 YX12_laysBlank ⟨wd1565, wd88⟩ (mk_get (tl123 hT)) rfl rfl (s_X12_laysBlank_vn g hT I x0 (by omega) (by omega)) rfl rfl (Nat.le_of_ble_eq_true rfl) (by decide) rfl rfl 6 rfl (fun rv h1 q2 => ?_)
  obtain ⟨m3, n4, rfl, rfl, I5, K6, rm3⟩ := q2
  replace rm3 : (m3 123 40).toInt = nu m x0.toInt 0 ∧ ∀ p, p < (nu m x0.toInt 0).toNat → ∃ v, IsN (m 128) (40 * x0.toInt.toNat) (m 124 x0.toInt.toNat).toInt.toNat p v ∧ m3 149 p = m 125 (40 * x0.toInt.toNat + v) := by have q_ := rm3; (try rw [z1] at q_); exact q_
  have K6c := K6
  have kLX : LX m3 := LX_eq kLX (K6c 123 20 rfl) (fun j => K6c 136 j rfl) (fun j => K6c 138 j rfl) (fun j => K6c 139 j rfl) (fun j => K6c 140 j rfl)
  have u7 : nu m3 x0.toInt 0 = nu m x0.toInt 0 := nu_eq (fun j => K6c 124 j rfl) (fun j => K6c 128 j rfl) _ _
  have w8 : (m3 123 41).toInt = (m 123 41).toInt := congrArg Int32.toInt (K6 123 41 rfl)
  have K6 := Kp.trans (K6.sub (wl_sub (by decide)))
  show PV _ _ _ _ _ _ _ 6 [.ref 123, .int x0, .int x1, .int x2] [] _
  have k6 := rm3
  have k6a : m3 126 = m 126 := funext fun j => K6 126 j rfl
  have k6b : m3 127 = m 127 := funext fun j => K6 127 j rfl
  refine pv_aload_n (M := mX12_cheapestOf) 0 dX12_cheapestOf_6 7 rfl rfl rfl ?_
  refine pv_iload_n (M := mX12_cheapestOf) 2 dX12_cheapestOf_7 8 rfl rfl rfl ?_
  refine pv_callv (M := mX12_cheapestOf) (as := [.int x1]) (st := []) (kc2 := 0) (ks2 := 0) dX12_cheapestOf_8 wd1567 YX12_laysDeed ⟨wd1569, wd89⟩ (mk_get (tl123 hT)) rfl rfl (s_X12_laysDeed_vy g hT I5 x1 (by omega) (by omega)) rfl rfl (Nat.le_of_ble_eq_true rfl) (by decide) rfl rfl 11 rfl (fun rv h1 q12 => ?_)
  obtain ⟨m13, n14, rfl, rfl, I15, K16, rm13⟩ := q12
  replace rm13 : (m13 123 41).toInt = (m3 126 x1.toInt.toNat).toInt ∧ ∀ k : Nat, (k : Int) < (m3 126 x1.toInt.toNat).toInt → m13 150 k = m3 127 (16 * x1.toInt.toNat + k) := rm13
  have K16c := K16
  have kLX : LX m13 := LX_eq kLX (K16c 123 20 rfl) (fun j => K16c 136 j rfl) (fun j => K16c 138 j rfl) (fun j => K16c 139 j rfl) (fun j => K16c 140 j rfl)
  have u17 : nu m13 x0.toInt 0 = nu m3 x0.toInt 0 := nu_eq (fun j => K16c 124 j rfl) (fun j => K16c 128 j rfl) _ _
  have w18 : (m13 123 40).toInt = (m3 123 40).toInt := congrArg Int32.toInt (K16 123 40 rfl)
  have K16 := K6.trans (K16.sub (wl_sub (by decide)))
  show PV _ _ _ _ _ _ _ 11 [.ref 123, .int x0, .int x1, .int x2] [] _
  have k11 := rm13
  rw [k6a, k6b] at k11
  have k11c : (m13 123 40).toInt = nu m x0.toInt 0 := (congrArg Int32.toInt (K16c 123 40 rfl)).trans k6.1
  have k11r : ∀ j, m13 149 j = m3 149 j := fun j => K16c 149 j rfl
  have k11R : ∀ a j, isR a j = true → m13 a j = m a j := fun a j q => K16 a j (wl_nR (by decide) q)
  have k11p : ∀ j, m13 125 j = m 125 j := fun j => K16 125 j rfl
  have k11q : m13 123 1 = m 123 1 := K16 123 1 rfl
  refine pv_aload_n (M := mX12_cheapestOf) 0 dX12_cheapestOf_11 12 rfl rfl rfl ?_
  refine pv_iload_n (M := mX12_cheapestOf) 1 dX12_cheapestOf_12 13 rfl rfl rfl ?_
  refine pv_iload_n (M := mX12_cheapestOf) 3 dX12_cheapestOf_13 14 rfl rfl rfl ?_
  have kgR : ∀ a j, isR a j = true → m13 a j = m a j := fun a j q => K16 a j (wl_nR (by decide) q)
  have k14 : LAWr m13 t (m13 123 20).toInt.toNat := by rw [show m13 123 20 = m 123 20 from kgR 123 20 rfl]; exact LAWr_eq hp1 (fun a j h1 h2 => kgR a j (isR_cr h1 h2))
  have k14n : nu m13 x0.toInt 0 = nu m x0.toInt 0 := nu_eq (fun j => K16 124 j rfl) (fun j => K16 128 j rfl) _ _
  refine pv_callv (M := mX12_cheapestOf) (as := [.int x0, .int x2]) (st := []) (kc2 := 0) (ks2 := 0) dX12_cheapestOf_14 wd1579 YX12_laysPrices ⟨wd1581, wd91⟩ (mk_get (tl123 hT)) rfl rfl (s_X12_laysPrices_va g hT I15 x0 (by omega) (by omega) x2 t (by first | omega | assumption | exact (iv_rng _).2 | exact (iv_rng _).1 | decide) (by first | omega | assumption | exact (iv_rng _).2 | exact (iv_rng _).1 | decide) k14) rfl rfl (Nat.le_of_ble_eq_true rfl) (by decide) rfl rfl 17 rfl (fun rv h1 q29 => ?_)
  obtain ⟨m30, n31, rfl, rfl, I32, K33, rm30⟩ := q29
  replace rm30 : (∀ p : Nat, (p : Int) < (m13 123 40).toInt → (FFr m13 t x0.toInt.toNat p x2.toInt ∧ PRr m13 t x0.toInt.toNat p x2.toInt (m30 152 p)) ∨ (FBr m13 t x0.toInt.toNat p x2.toInt ∧ (m30 152 p).toInt = 1000000000)) ∧ ∀ a j, isR a j = true → m30 a j = m13 a j := rm30
  have K33c := K33
  have kLX : LX m30 := LX_eq kLX (K33c 123 20 rfl) (fun j => K33c 136 j rfl) (fun j => K33c 138 j rfl) (fun j => K33c 139 j rfl) (fun j => K33c 140 j rfl)
  have u34 : nu m30 x0.toInt 0 = nu m13 x0.toInt 0 := nu_eq (fun j => K33c 124 j rfl) (fun j => K33c 128 j rfl) _ _
  have w35 : (m30 123 40).toInt = (m13 123 40).toInt := congrArg Int32.toInt (K33 123 40 rfl)
  have w36 : (m30 123 41).toInt = (m13 123 41).toInt := congrArg Int32.toInt (K33 123 41 rfl)
  have K33 := K16.trans (K33.sub (wl_sub (by decide)))
  show PV _ _ _ _ _ _ _ 17 [.ref 123, .int x0, .int x1, .int x2] [] _
  have k17 := rm30
  have k17c : (m30 123 40).toInt = nu m x0.toInt 0 := (congrArg Int32.toInt (K33c 123 40 rfl)).trans k11c
  have k17d : (m30 123 41).toInt = (m 126 x1.toInt.toNat).toInt := (congrArg Int32.toInt (K33c 123 41 rfl)).trans k11.1
  have k17r : ∀ j, m30 149 j = m13 149 j := fun j => K33c 149 j rfl
  have k17s : ∀ j, m30 150 j = m13 150 j := fun j => K33c 150 j rfl
  have k17k := CKr_of (n0 := (nu m x0.toInt 0).toNat) (fun p hp => k17.1 p (by omega)) (fun p v => PRr_b)
  have k17g := k17k.2
  have k17m := CKr_m (m := m) k17k.1 (fun j => k11R 128 j rfl) k11p (fun j => k11R 124 j rfl) k11q (k11R 123 20 rfl)
  have k17i : (m30 123 40).toInt ≤ 40 := (I32 123 40).2
  refine pv_aload_n (M := mX12_cheapestOf) 0 dX12_cheapestOf_17 18 rfl rfl rfl ?_
  have k18 : GBr m30 (m30 123 40).toInt.toNat := by rw [show (m30 123 40).toInt.toNat = (nu m x0.toInt 0).toNat by omega]; exact k17g
  refine pv_callv (M := mX12_cheapestOf) (as := []) (st := []) (kc2 := 0) (ks2 := 0) dX12_cheapestOf_18 wd1584 YX12_laysCheap ⟨wd1586, wd92⟩ (mk_get (tl123 hT)) rfl rfl (s_X12_laysCheap_va g hT I32 k18) rfl rfl (Nat.le_of_ble_eq_true rfl) (by decide) rfl rfl 21 rfl (fun rv h1 q47 => ?_)
  obtain ⟨m48, n49, rfl, rfl, I50, K51, rm48⟩ := q47
  replace rm48 : ∀ p j, p ≤ (m30 123 40).toInt.toNat → j ≤ (m30 123 41).toInt.toNat → (m48 153 (17 * p + j)).toInt = enc 1000000000 (ctv (m30 149) (m30 150) (cRl m30) (m30 123 40).toInt.toNat (m30 123 41).toInt.toNat ((m30 123 40).toInt.toNat - p) j) := rm48
  have K51c := K51
  have kLX : LX m48 := LX_eq kLX (K51c 123 20 rfl) (fun j => K51c 136 j rfl) (fun j => K51c 138 j rfl) (fun j => K51c 139 j rfl) (fun j => K51c 140 j rfl)
  have u52 : nu m48 x0.toInt 0 = nu m30 x0.toInt 0 := nu_eq (fun j => K51c 124 j rfl) (fun j => K51c 128 j rfl) _ _
  have w53 : (m48 123 40).toInt = (m30 123 40).toInt := congrArg Int32.toInt (K51 123 40 rfl)
  have w54 : (m48 123 41).toInt = (m30 123 41).toInt := congrArg Int32.toInt (K51 123 41 rfl)
  have K51 := K33.trans (K51.sub (wl_sub (by decide)))
  show PV _ _ _ _ _ _ _ 21 [.ref 123, .int x0, .int x1, .int x2] [] _
  have k21 := rm48
  have e149 : m30 149 = m48 149 := funext fun j => (K51c 149 j rfl).symm
  have e150 : m30 150 = m48 150 := funext fun j => (K51c 150 j rfl).symm
  have e152 : m30 152 = m48 152 := funext fun j => (K51c 152 j rfl).symm
  have eC : cRl m30 = cRl m48 := funext fun p => by unfold cRl; rw [e152]
  have e40 : m30 123 40 = m48 123 40 := (K51c 123 40 rfl).symm
  have e41 : m30 123 41 = m48 123 41 := (K51c 123 41 rfl).symm
  rw [e149, e150, eC, e40, e41] at k21
  have k21c : (m48 123 40).toInt = nu m x0.toInt 0 := (congrArg Int32.toInt e40).symm.trans k17c
  have k21d : (m48 123 41).toInt = (m 126 x1.toInt.toNat).toInt := (congrArg Int32.toInt e41).symm.trans k17d
  have k21n : (m48 123 40).toInt.toNat = (nu m x0.toInt 0).toNat := by rw [k21c]
  have k21o : (m48 123 41).toInt.toNat = (m 126 x1.toInt.toNat).toInt.toNat := by rw [k21d]
  have k21B : CB (cRl m48) (m48 123 40).toInt.toNat := by rw [← eC, k21n]; exact CB_r k17g
  have k21z : (m48 153 0).toInt = enc 1000000000 (ctv (m48 149) (m48 150) (cRl m48) (m48 123 40).toInt.toNat (m48 123 41).toInt.toNat (m48 123 40).toInt.toNat 0) := k21 0 0 (Nat.zero_le _) (Nat.zero_le _)
  have k21k : CKr m t x0.toInt.toNat x2.toInt (nu m x0.toInt 0).toNat (cRl m48) (m48 152) := by rw [← eC, ← e152]; exact k17m
  have k21y : (m48 123 40).toInt ≤ 40 := (I50 123 40).2
  have kROW : ∀ p, p < (nu m x0.toInt 0).toNat → ∃ w, IsN (m 128) (40 * x0.toInt.toNat) (m 124 x0.toInt.toNat).toInt.toNat p w ∧ m48 149 p = m 125 (40 * x0.toInt.toNat + w) := fun p hp => by obtain ⟨w, w1, w2⟩ := k6.2 p hp; exact ⟨w, w1, ((K51c 149 p rfl).trans ((k17r p).trans (k11r p))).trans w2⟩
  have kDED : ∀ k, k < (m 126 x1.toInt.toNat).toInt.toNat → m48 150 k = m 127 (16 * x1.toInt.toNat + k) := fun k hk => ((K51c 150 k rfl).trans (k17s k)).trans (k11.2 k (by omega))
  refine pv_aload_n (M := mX12_cheapestOf) 0 dX12_cheapestOf_21 22 rfl rfl rfl ?_
  refine mv_get (M := mX12_cheapestOf) (v := .ref 153) dX12_cheapestOf_22 FX12 46 wd1219 (by decide) (tl123 hT) rfl rfl 25 rfl ?_
  refine pv_iconst (M := mX12_cheapestOf) (v := 0) dX12_cheapestOf_25 26 rfl (by decide) ?_
  refine iv_iald (M := mX12_cheapestOf) (X := 0) (l1 := 0) (l2 := 1999999998) dX12_cheapestOf_26 (tl153 hT) (by decide) (by omega) (by omega) I50 (fun _ => rfl) 27 rfl (fun v73 ev73 pv73 qv73 => ?_)
  have k27 : v73.toInt = (m48 153 0).toInt := congrArg Int32.toInt ev73
  refine pv_ldcw (M := mX12_cheapestOf) (v := 1000000000) dX12_cheapestOf_27 30 rfl wd1583 ?_
  refine pv_icmp_lt (M := mX12_cheapestOf) (tgt := 36) dX12_cheapestOf_30 33 rfl (by decide) (fun c75 => ?_) (fun c75 => ?_)
  · have c75 := iv_lt (X := v73.toInt) (Y := 1000000000) c75 rfl (by decide)
    obtain ⟨u, k36u⟩ := enc_lt k21z (by omega)
    have k36 : ctv (m48 149) (m48 150) (cRl m48) (m48 123 40).toInt.toNat (m48 123 41).toInt.toNat (m48 123 40).toInt.toNat 0 ≠ none := by rw [k36u]; exact fun q => by cases q
    have k36p : 0 ≤ u := (ctv_b k21B _ (Nat.le_refl _) _ u k36u).1
    have k36v : (m48 153 0).toInt = u := k21z.trans (by rw [k36u]; rfl)
    have k36w : ctv (m48 149) (m48 150) (cRl m48) (nu m x0.toInt 0).toNat (m 126 x1.toInt.toNat).toInt.toNat (nu m x0.toInt 0).toNat 0 = some u := by rw [← k21n, ← k21o]; exact k36u
    refine pv_aload_n (M := mX12_cheapestOf) 0 dX12_cheapestOf_36 37 rfl rfl rfl ?_
    refine pv_callv (M := mX12_cheapestOf) (as := []) (st := []) (kc2 := 0) (ks2 := 0) dX12_cheapestOf_37 wd1591 YX12_laysStays ⟨wd1593, wd93⟩ (mk_get (tl123 hT)) rfl rfl (s_X12_laysStays_va g hT I50 k21 k36 k21B) rfl rfl (Nat.le_of_ble_eq_true rfl) (by decide) rfl rfl 40 rfl (fun rv h1 q81 => ?_)
    obtain ⟨m82, n83, rfl, rfl, I84, K85, rm82⟩ := q81
    replace rm82 : STS (m48 149) (m48 150) (cRl m48) (m48 123 40).toInt.toNat (m48 123 41).toInt.toNat (m82 154) := rm82
    have K85c := K85
    have kLX : LX m82 := LX_eq kLX (K85c 123 20 rfl) (fun j => K85c 136 j rfl) (fun j => K85c 138 j rfl) (fun j => K85c 139 j rfl) (fun j => K85c 140 j rfl)
    have u86 : nu m82 x0.toInt 0 = nu m48 x0.toInt 0 := nu_eq (fun j => K85c 124 j rfl) (fun j => K85c 128 j rfl) _ _
    have w87 : (m82 123 40).toInt = (m48 123 40).toInt := congrArg Int32.toInt (K85 123 40 rfl)
    have w88 : (m82 123 41).toInt = (m48 123 41).toInt := congrArg Int32.toInt (K85 123 41 rfl)
    have K85 := K51.trans (K85.sub (wl_sub (by decide)))
    show PV _ _ _ _ _ _ _ 40 [.ref 123, .int x0, .int x1, .int x2] [] _
    have k40 := rm82
    rw [k21n, k21o] at k40
    have k40c : (m82 123 40).toInt = nu m x0.toInt 0 := (congrArg Int32.toInt (K85c 123 40 rfl)).trans k21c
    have k40d : (m82 123 41).toInt = (m 126 x1.toInt.toNat).toInt := (congrArg Int32.toInt (K85c 123 41 rfl)).trans k21d
    have k40p : m48 152 = m82 152 := funext fun j => (K85c 152 j rfl).symm
    have k40k : CKr m t x0.toInt.toNat x2.toInt (nu m x0.toInt 0).toNat (cRl m48) (m82 152) := by rw [← k40p]; exact k21k
    refine pv_aload_n (M := mX12_cheapestOf) 0 dX12_cheapestOf_40 41 rfl rfl rfl ?_
    refine mv_get (M := mX12_cheapestOf) (v := .ref 153) dX12_cheapestOf_41 FX12 46 wd1219 (by decide) (tl123 hT) rfl rfl 44 rfl ?_
    refine pv_iconst (M := mX12_cheapestOf) (v := 0) dX12_cheapestOf_44 45 rfl (by decide) ?_
    refine iv_iald (M := mX12_cheapestOf) (X := 0) (l1 := 0) (l2 := 1999999998) dX12_cheapestOf_45 (tl153 hT) (by decide) (by omega) (by omega) I84 (fun _ => rfl) 46 rfl (fun v95 ev95 pv95 qv95 => ?_)
    have k46 : v95.toInt = (m48 153 0).toInt := congrArg Int32.toInt (ev95.trans (K85c 153 0 rfl))
    exact pv_iret (M := mX12_cheapestOf) dX12_cheapestOf_46 rfl rfl ⟨_, _, _, rfl, rfl, I84, K85, by omega, by omega, ⟨k40c, k40d, cRl m48, m48 149, m48 150, k40k, kROW, kDED, Or.inr ⟨u, k36w, k36p, by omega, k40⟩⟩⟩
  · have c75 := iv_nlt (X := v73.toInt) (Y := 1000000000) c75 rfl (by decide)
    refine pv_bipush (M := mX12_cheapestOf) (v := (-2)) dX12_cheapestOf_33 35 rfl (by decide) ?_
    have z97 : ((-2) : Int32).toInt = (-2) := by decide
    exact pv_iret (M := mX12_cheapestOf) dX12_cheapestOf_35 rfl rfl ⟨_, _, _, rfl, rfl, I50, K51, by decide, by decide, ⟨k21c, k21d, cRl m48, m48 149, m48 150, k21k, kROW, kDED, Or.inl ⟨by rw [← k21n, ← k21o]; exact enc_ge k21z (by omega) (fun w q => by have y := ctv_b k21B _ (Nat.le_refl _) _ w q; omega), by decide⟩⟩⟩

set_option maxHeartbeats 2000000 in
set_option maxRecDepth 20000 in
theorem s_X12_strokesFor_va (g : pv_G) {T : List mv_T} {m : Nat → Nat → Int32} {n : Nat → Nat → Int64} {r : Nat → Value} (hT : TX T) (I : IV BB m) (hp0 : ∀ j : Nat, (j : Int) < (m 123 41).toInt → 0 ≤ (m 154 j).toInt ∧ (m 154 j).toInt < (m 123 40).toInt) (hp1 : ∀ j : Nat, (j : Int) + 1 < (m 123 41).toInt → (m 154 j).toInt < (m 154 (j + 1)).toInt) : PM g mX12_strokesFor yX12_strokesFor (sqP (mk T m n r) 0 200 (fun v => v.toInt = (dn (fun k => (m 154 k).toInt.toNat) (m 123 41).toInt.toNat (m 123 40).toInt.toNat).length)) 1 0 0 [.ref 123] (mk T m n r) := by
  have Kp : fr (wl []) m m := fr.rf
  have z70 : 0 ≤ (m 123 40).toInt ∧ (m 123 40).toInt ≤ 40 := I 123 40
  have z71 : 0 ≤ (m 123 41).toInt ∧ (m 123 41).toInt ≤ 16 := I 123 41
  refine PM.of 4 (lo := [.ref 123, pv_U, pv_U, pv_U, pv_U]) rfl (by decide) rfl rfl (Nat.le_of_ble_eq_true rfl) ?_
  have kn0 : 0 ≤ (m 123 40).toInt ∧ (m 123 40).toInt ≤ 40 := I 123 40
  have kn1 : 0 ≤ (m 123 41).toInt ∧ (m 123 41).toInt ≤ 16 := I 123 41
  refine pv_iconst (M := mX12_strokesFor) (v := 0) dX12_strokesFor_0 1 rfl (by decide) ?_
  refine pv_istore_n (M := mX12_strokesFor) 1 (lo2 := [.ref 123, .int 0, pv_U, pv_U, pv_U]) dX12_strokesFor_1 2 rfl rfl (by decide) rfl rfl ?_
  refine pv_iconst (M := mX12_strokesFor) (v := 0) dX12_strokesFor_2 3 rfl (by decide) ?_
  refine pv_istore_n (M := mX12_strokesFor) 2 (lo2 := [.ref 123, .int 0, .int 0, pv_U, pv_U]) dX12_strokesFor_3 4 rfl rfl (by decide) rfl rfl ?_
  refine pv_iconst (M := mX12_strokesFor) (v := 0) dX12_strokesFor_4 5 rfl (by decide) ?_
  refine pv_istore_n (M := mX12_strokesFor) 3 (lo2 := [.ref 123, .int 0, .int 0, .int 0, pv_U]) dX12_strokesFor_5 6 rfl rfl (by decide) rfl rfl ?_
  have lp11 : ∀ (fuel10 : Nat) (y3 : Int32) (y4 : Int32) (y5 : Int32), (0 ≤ y3.toInt) → (y3.toInt ≤ 200) → (0 ≤ y4.toInt) → (y4.toInt ≤ 41) → (0 ≤ y5.toInt) → (y5.toInt ≤ 17) → (y5.toInt ≤ (m 123 41).toInt + 1) → (y3.toInt ≤ 5 * y5.toInt) → (y5.toInt ≤ (m 123 41).toInt → ((y5.toInt = 0 → y4.toInt = 0) ∧ (0 < y5.toInt → y4.toInt = (m 154 (y5.toInt.toNat - 1)).toInt + 1))) → (y5.toInt ≤ (m 123 41).toInt → CGI (fun k => (m 154 k).toInt.toNat) y5.toInt.toNat y3.toInt y4.toInt) → (y5.toInt = (m 123 41).toInt + 1 → y3.toInt = (dn (fun k => (m 154 k).toInt.toNat) (m 123 41).toInt.toNat (m 123 40).toInt.toNat).length) → ((17 - y5.toInt) : Int).toNat < fuel10 → PV none g mX12_strokesFor (sqP (mk T m n r) 0 200 (fun v => v.toInt = (dn (fun k => (m 154 k).toInt.toNat) (m 123 41).toInt.toNat (m 123 40).toInt.toNat).length)) 1 0 0 6 [.ref 123, .int y3, .int y4, .int y5, pv_U] [] (mk T m n r) := by
    intro fuel10
    induction fuel10 with
    | zero => intro y3 y4 y5 b13 b14 b15 b16 b17 b18 b19 b20 b21 b22 b23 z24; omega
    | succ fuel10 ih12 =>
      intro y3 y4 y5 b13 b14 b15 b16 b17 b18 b19 b20 b21 b22 b23 z24
      have kgG := (show y5.toInt ≤ (m 123 41).toInt → CGI (fun k => (m 154 k).toInt.toNat) y5.toInt.toNat y3.toInt y4.toInt by assumption)
      have kgf := (show y5.toInt ≤ (m 123 41).toInt → ((y5.toInt = 0 → y4.toInt = 0) ∧ (0 < y5.toInt → y4.toInt = (m 154 (y5.toInt.toNat - 1)).toInt + 1)) by assumption)
      have kgE := (show y5.toInt = (m 123 41).toInt + 1 → y3.toInt = (dn (fun k => (m 154 k).toInt.toNat) (m 123 41).toInt.toNat (m 123 40).toInt.toNat).length by assumption)
      have kJ := hp0 y5.toInt.toNat
      have kI := hp0 (y5.toInt.toNat - 1)
      have kU := hp1 (y5.toInt.toNat - 1)
      refine pv_iload_n (M := mX12_strokesFor) 3 dX12_strokesFor_6 7 rfl rfl rfl ?_
      refine pv_aload_n (M := mX12_strokesFor) 0 dX12_strokesFor_7 8 rfl rfl rfl ?_
      refine iv_get (M := mX12_strokesFor) (l1 := 0) (l2 := 16) dX12_strokesFor_8 FX12 41 wd1214 (by decide) (tl123 hT) rfl I rfl 11 rfl (fun v31 ev31 pv31 qv31 => ?_)
      have wv31 : v31.toInt = (m 123 41).toInt := congrArg Int32.toInt ev31
      refine pv_icmp_gt (M := mX12_strokesFor) (tgt := 61) dX12_strokesFor_11 14 rfl (by decide) (fun c32 => ?_) (fun c32 => ?_)
      · have c32 := iv_lt (X := v31.toInt) (Y := y5.toInt) c32 rfl rfl
        refine pv_iload_n (M := mX12_strokesFor) 1 dX12_strokesFor_61 62 rfl rfl rfl ?_
        exact pv_iret (M := mX12_strokesFor) dX12_strokesFor_62 rfl rfl ⟨_, rfl, rfl, by omega, by omega, (kgE (by omega))⟩
      · have c32 := iv_nlt (X := v31.toInt) (Y := y5.toInt) c32 rfl rfl
        have kgf2 := kgf (by omega)
        have kgG2 := kgG (by omega)
        have kfr : (y5.toInt = 0 → y4.toInt = 0) ∧ (0 < y5.toInt → y4.toInt = (m 154 (y5.toInt.toNat - 1)).toInt + 1 ∧ y4.toInt ≤ (m 123 40).toInt) := ⟨kgf2.1, fun q => ⟨kgf2.2 q, by have a := kgf2.2 q; have b := kI (by omega); omega⟩⟩
        have kfs : y5.toInt < (m 123 41).toInt → 0 ≤ (m 154 y5.toInt.toNat).toInt ∧ (m 154 y5.toInt.toNat).toInt < (m 123 40).toInt ∧ y4.toInt ≤ (m 154 y5.toInt.toNat).toInt := fun q => by have a := kJ (by omega); by_cases z : y5.toInt = 0; (have b := kgf2.1 z; omega); (have b := kgf2.2 (by omega); have y := kU (by omega); rw [show y5.toInt.toNat - 1 + 1 = y5.toInt.toNat by omega] at y; omega)
        refine pv_iload_n (M := mX12_strokesFor) 3 dX12_strokesFor_14 15 rfl rfl rfl ?_
        refine pv_aload_n (M := mX12_strokesFor) 0 dX12_strokesFor_15 16 rfl rfl rfl ?_
        refine iv_get (M := mX12_strokesFor) (l1 := 0) (l2 := 16) dX12_strokesFor_16 FX12 41 wd1214 (by decide) (tl123 hT) rfl I rfl 19 rfl (fun v37 ev37 pv37 qv37 => ?_)
        have wv37 : v37.toInt = (m 123 41).toInt := congrArg Int32.toInt ev37
        refine pv_icmp_ne (M := mX12_strokesFor) (tgt := 29) dX12_strokesFor_19 22 rfl (by decide) (fun c38 => ?_) (fun c38 => ?_)
        · have c38 := iv_ne (X := y5.toInt) (Y := v37.toInt) c38 rfl rfl
          refine pv_aload_n (M := mX12_strokesFor) 0 dX12_strokesFor_29 30 rfl rfl rfl ?_
          refine mv_get (M := mX12_strokesFor) (v := .ref 154) dX12_strokesFor_30 FX12 47 wd1220 (by decide) (tl123 hT) rfl rfl 33 rfl ?_
          refine pv_iload_n (M := mX12_strokesFor) 3 dX12_strokesFor_33 34 rfl rfl rfl ?_
          refine iv_iald (M := mX12_strokesFor) (X := y5.toInt) (l1 := 0) (l2 := 39) dX12_strokesFor_34 (tl154 hT) rfl (by omega) (by omega) I (fun _ => rfl) 35 rfl (fun v39 ev39 pv39 qv39 => ?_)
          try have k35 : v39.toInt = (m 154 y5.toInt.toNat).toInt := congrArg Int32.toInt (ev39.trans (Kp 154 _ rfl))
          try have k35b := kfs (by omega)
          have k35c : y4.toInt ≤ v39.toInt := by by_cases z : y5.toInt = 0; (have b := kgf2.1 z; omega); (have b := kfr.2 (by omega); omega)
          refine pv_istore (M := mX12_strokesFor) (lo2 := [.ref 123, .int y3, .int y4, .int y5, .int v39]) dX12_strokesFor_35 37 rfl (by decide) rfl rfl ?_
          refine pv_iload_n (M := mX12_strokesFor) 1 dX12_strokesFor_37 38 rfl rfl rfl ?_
          refine pv_iload (M := mX12_strokesFor) dX12_strokesFor_38 40 rfl rfl ?_
          refine pv_iload_n (M := mX12_strokesFor) 2 dX12_strokesFor_40 41 rfl rfl rfl ?_
          refine iv_isub (M := mX12_strokesFor) (X := v39.toInt) (Y := y4.toInt) dX12_strokesFor_41 42 rfl rfl rfl (by omega) (by omega) (fun v43 ev43 => ?_)
          refine pv_bipush (M := mX12_strokesFor) (v := 8) dX12_strokesFor_42 44 rfl (by decide) ?_
          refine iv_iadd (M := mX12_strokesFor) (X := v43.toInt) (Y := 8) dX12_strokesFor_44 45 rfl rfl (by decide) (by omega) (by omega) (fun v44 ev44 => ?_)
          refine pv_bipush (M := mX12_strokesFor) (v := 9) dX12_strokesFor_45 47 rfl (by decide) ?_
          refine iv_idiv (M := mX12_strokesFor) (X := v44.toInt) (Y := 9) dX12_strokesFor_47 48 rfl rfl (by decide) (by omega) (by omega) (fun v45 ev45 => ?_)
          refine iv_iadd (M := mX12_strokesFor) (X := y3.toInt) (Y := v45.toInt) dX12_strokesFor_48 49 rfl rfl rfl (by omega) (by omega) (fun v46 ev46 => ?_)
          refine pv_istore_n (M := mX12_strokesFor) 1 (lo2 := [.ref 123, .int v46, .int y4, .int y5, .int v39]) dX12_strokesFor_49 50 rfl rfl (by decide) rfl rfl ?_
          refine pv_iload (M := mX12_strokesFor) dX12_strokesFor_50 52 rfl rfl ?_
          refine pv_iconst (M := mX12_strokesFor) (v := 1) dX12_strokesFor_52 53 rfl (by decide) ?_
          refine iv_iadd (M := mX12_strokesFor) (X := v39.toInt) (Y := 1) dX12_strokesFor_53 54 rfl rfl (by decide) (by omega) (by omega) (fun v47 ev47 => ?_)
          refine pv_istore_n (M := mX12_strokesFor) 2 (lo2 := [.ref 123, .int v46, .int v47, .int y5, .int v39]) dX12_strokesFor_54 55 rfl rfl (by decide) rfl rfl ?_
          refine iv_inc (M := mX12_strokesFor) (C := 1) dX12_strokesFor_55 58 rfl rfl (by decide) rfl rfl (by decide) (by omega) (by omega) (fun v48 ev48 => ?_)
          show PV _ _ _ _ _ _ _ 58 [.ref 123, .int v46, .int v47, .int v48, .int v39] [] _
          refine pv_goto (M := mX12_strokesFor) (tgt := 6) dX12_strokesFor_58 (by decide) ?_
          refine pv_fg (lo2 := [.ref 123, .int v46, .int v47, .int v48, pv_U]) ⟨Or.inr rfl, ⟨Or.inr rfl, ⟨Or.inr rfl, ⟨Or.inr rfl, ⟨Or.inl rfl, trivial⟩⟩⟩⟩⟩ ?_
          try have kbf1 : (y5.toInt) < (m 123 41).toInt → v47.toInt = (m 154 (y5.toInt).toNat).toInt + 1 := fun q => by omega
          have kbf : v48.toInt ≤ (m 123 41).toInt → ((v48.toInt = 0 → v47.toInt = 0) ∧ (0 < v48.toInt → v47.toInt = (m 154 (v48.toInt.toNat - 1)).toInt + 1)) := fun q => ⟨fun z => by omega, fun _ => by rw [show v48.toInt.toNat - 1 = (y5.toInt).toNat by omega]; omega⟩
          have kbG : v48.toInt ≤ (m 123 41).toInt → CGI (fun k => (m 154 k).toInt.toNat) v48.toInt.toNat v46.toInt v47.toInt := fun q => CGI_s kgG2 (by omega) (g := v46.toInt - y3.toInt) (by show _ = (((m 154 (y5.toInt).toNat).toInt.toNat : Int) - _ + 8) / 9; omega) (by show 0 ≤ ((m 154 (y5.toInt).toNat).toInt.toNat : Int) - _; omega) (by omega) (by show _ = ((m 154 (y5.toInt).toNat).toInt.toNat : Int) + 1; omega)
          have kbE : v48.toInt = (m 123 41).toInt + 1 → v46.toInt = (dn (fun k => (m 154 k).toInt.toNat) (m 123 41).toInt.toNat (m 123 40).toInt.toNat).length := fun q => (by have z := CGI_e0 (n := (m 123 40).toInt.toNat) (g := v46.toInt - y3.toInt) (tot2 := v46.toInt) kgG2 (by omega) (by omega) (by omega); rw [show (y5.toInt).toNat = (m 123 41).toInt.toNat by omega] at z; exact z)
          exact ih12 v46 v47 v48 (by first | omega | assumption | exact (iv_rng _).2 | exact (iv_rng _).1 | decide) (by first | omega | assumption | exact (iv_rng _).2 | exact (iv_rng _).1 | decide) (by first | omega | assumption | exact (iv_rng _).2 | exact (iv_rng _).1 | decide) (by first | omega | assumption | exact (iv_rng _).2 | exact (iv_rng _).1 | decide) (by first | omega | assumption | exact (iv_rng _).2 | exact (iv_rng _).1 | decide) (by first | omega | assumption | exact (iv_rng _).2 | exact (iv_rng _).1 | decide) (by first | omega | assumption | (show v48.toInt ≤ (m 123 41).toInt + 1; omega) | decide) (by first | omega | assumption | (show v46.toInt ≤ 5 * v48.toInt; omega) | decide) kbf kbG kbE (by omega)
        · have c38 := iv_eq (X := y5.toInt) (Y := v37.toInt) c38 rfl rfl
          refine pv_aload_n (M := mX12_strokesFor) 0 dX12_strokesFor_22 23 rfl rfl rfl ?_
          refine iv_get (M := mX12_strokesFor) (l1 := 0) (l2 := 40) dX12_strokesFor_23 FX12 40 wd1213 (by decide) (tl123 hT) rfl I rfl 26 rfl (fun v53 ev53 pv53 qv53 => ?_)
          have wv53 : v53.toInt = (m 123 40).toInt := congrArg Int32.toInt ev53
          refine pv_goto (M := mX12_strokesFor) (tgt := 35) dX12_strokesFor_26 (by decide) ?_
          try have k35 : v53.toInt = (m 154 y5.toInt.toNat).toInt := congrArg Int32.toInt (ev53.trans (Kp 154 _ rfl))
          try have k35b := kfs (by omega)
          have k35c : y4.toInt ≤ v53.toInt := by by_cases z : y5.toInt = 0; (have b := kgf2.1 z; omega); (have b := kfr.2 (by omega); omega)
          refine pv_istore (M := mX12_strokesFor) (lo2 := [.ref 123, .int y3, .int y4, .int y5, .int v53]) dX12_strokesFor_35 37 rfl (by decide) rfl rfl ?_
          refine pv_iload_n (M := mX12_strokesFor) 1 dX12_strokesFor_37 38 rfl rfl rfl ?_
          refine pv_iload (M := mX12_strokesFor) dX12_strokesFor_38 40 rfl rfl ?_
          refine pv_iload_n (M := mX12_strokesFor) 2 dX12_strokesFor_40 41 rfl rfl rfl ?_
          refine iv_isub (M := mX12_strokesFor) (X := v53.toInt) (Y := y4.toInt) dX12_strokesFor_41 42 rfl rfl rfl (by omega) (by omega) (fun v57 ev57 => ?_)
          refine pv_bipush (M := mX12_strokesFor) (v := 8) dX12_strokesFor_42 44 rfl (by decide) ?_
          refine iv_iadd (M := mX12_strokesFor) (X := v57.toInt) (Y := 8) dX12_strokesFor_44 45 rfl rfl (by decide) (by omega) (by omega) (fun v58 ev58 => ?_)
          refine pv_bipush (M := mX12_strokesFor) (v := 9) dX12_strokesFor_45 47 rfl (by decide) ?_
          refine iv_idiv (M := mX12_strokesFor) (X := v58.toInt) (Y := 9) dX12_strokesFor_47 48 rfl rfl (by decide) (by omega) (by omega) (fun v59 ev59 => ?_)
          refine iv_iadd (M := mX12_strokesFor) (X := y3.toInt) (Y := v59.toInt) dX12_strokesFor_48 49 rfl rfl rfl (by omega) (by omega) (fun v60 ev60 => ?_)
          refine pv_istore_n (M := mX12_strokesFor) 1 (lo2 := [.ref 123, .int v60, .int y4, .int y5, .int v53]) dX12_strokesFor_49 50 rfl rfl (by decide) rfl rfl ?_
          refine pv_iload (M := mX12_strokesFor) dX12_strokesFor_50 52 rfl rfl ?_
          refine pv_iconst (M := mX12_strokesFor) (v := 1) dX12_strokesFor_52 53 rfl (by decide) ?_
          refine iv_iadd (M := mX12_strokesFor) (X := v53.toInt) (Y := 1) dX12_strokesFor_53 54 rfl rfl (by decide) (by omega) (by omega) (fun v61 ev61 => ?_)
          refine pv_istore_n (M := mX12_strokesFor) 2 (lo2 := [.ref 123, .int v60, .int v61, .int y5, .int v53]) dX12_strokesFor_54 55 rfl rfl (by decide) rfl rfl ?_
          refine iv_inc (M := mX12_strokesFor) (C := 1) dX12_strokesFor_55 58 rfl rfl (by decide) rfl rfl (by decide) (by omega) (by omega) (fun v62 ev62 => ?_)
          show PV _ _ _ _ _ _ _ 58 [.ref 123, .int v60, .int v61, .int v62, .int v53] [] _
          refine pv_goto (M := mX12_strokesFor) (tgt := 6) dX12_strokesFor_58 (by decide) ?_
          refine pv_fg (lo2 := [.ref 123, .int v60, .int v61, .int v62, pv_U]) ⟨Or.inr rfl, ⟨Or.inr rfl, ⟨Or.inr rfl, ⟨Or.inr rfl, ⟨Or.inl rfl, trivial⟩⟩⟩⟩⟩ ?_
          try have kbf1 : (y5.toInt) < (m 123 41).toInt → v61.toInt = (m 154 (y5.toInt).toNat).toInt + 1 := fun q => by omega
          have kbf : v62.toInt ≤ (m 123 41).toInt → ((v62.toInt = 0 → v61.toInt = 0) ∧ (0 < v62.toInt → v61.toInt = (m 154 (v62.toInt.toNat - 1)).toInt + 1)) := fun q => ⟨fun z => by omega, fun _ => by rw [show v62.toInt.toNat - 1 = (y5.toInt).toNat by omega]; omega⟩
          have kbG : v62.toInt ≤ (m 123 41).toInt → CGI (fun k => (m 154 k).toInt.toNat) v62.toInt.toNat v60.toInt v61.toInt := fun q => CGI_s kgG2 (by omega) (g := v60.toInt - y3.toInt) (by show _ = (((m 154 (y5.toInt).toNat).toInt.toNat : Int) - _ + 8) / 9; omega) (by show 0 ≤ ((m 154 (y5.toInt).toNat).toInt.toNat : Int) - _; omega) (by omega) (by show _ = ((m 154 (y5.toInt).toNat).toInt.toNat : Int) + 1; omega)
          have kbE : v62.toInt = (m 123 41).toInt + 1 → v60.toInt = (dn (fun k => (m 154 k).toInt.toNat) (m 123 41).toInt.toNat (m 123 40).toInt.toNat).length := fun q => (by have z := CGI_e0 (n := (m 123 40).toInt.toNat) (g := v60.toInt - y3.toInt) (tot2 := v60.toInt) kgG2 (by omega) (by omega) (by omega); rw [show (y5.toInt).toNat = (m 123 41).toInt.toNat by omega] at z; exact z)
          exact ih12 v60 v61 v62 (by first | omega | assumption | exact (iv_rng _).2 | exact (iv_rng _).1 | decide) (by first | omega | assumption | exact (iv_rng _).2 | exact (iv_rng _).1 | decide) (by first | omega | assumption | exact (iv_rng _).2 | exact (iv_rng _).1 | decide) (by first | omega | assumption | exact (iv_rng _).2 | exact (iv_rng _).1 | decide) (by first | omega | assumption | exact (iv_rng _).2 | exact (iv_rng _).1 | decide) (by first | omega | assumption | exact (iv_rng _).2 | exact (iv_rng _).1 | decide) (by first | omega | assumption | (show v62.toInt ≤ (m 123 41).toInt + 1; omega) | decide) (by first | omega | assumption | (show v60.toInt ≤ 5 * v62.toInt; omega) | decide) kbf kbG kbE (by omega)
  have z67 : (0 : Int32).toInt = 0 := by decide
  have z68 : (0 : Int32).toInt = 0 := by decide
  have z69 : (0 : Int32).toInt = 0 := by decide
  exact lp11 (((17 - 0) : Int).toNat + 1) 0 0 0 (by first | omega | assumption | exact (iv_rng _).2 | exact (iv_rng _).1 | decide) (by first | omega | assumption | exact (iv_rng _).2 | exact (iv_rng _).1 | decide) (by first | omega | assumption | exact (iv_rng _).2 | exact (iv_rng _).1 | decide) (by first | omega | assumption | exact (iv_rng _).2 | exact (iv_rng _).1 | decide) (by first | omega | assumption | exact (iv_rng _).2 | exact (iv_rng _).1 | decide) (by first | omega | assumption | exact (iv_rng _).2 | exact (iv_rng _).1 | decide) (by first | omega | assumption | (show 0 ≤ (m 123 41).toInt + 1; omega) | decide) (by first | omega | assumption | (show 0 ≤ 5 * 0; omega) | decide) (fun _ => by rw [Int32.toInt_zero]; exact ⟨fun _ => rfl, fun q => by omega⟩) (fun _ => Or.inl ⟨by rw [Int32.toInt_zero]; rfl, by rw [Int32.toInt_zero], by rw [Int32.toInt_zero]⟩) (fun q => by rw [Int32.toInt_zero] at q; omega) (by omega)
