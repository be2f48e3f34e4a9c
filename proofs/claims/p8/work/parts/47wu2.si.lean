set_option maxHeartbeats 2000000 in
set_option maxRecDepth 20000 in
theorem s_X12_done_va (g : pv_G) {T : List mv_T} {m : Nat → Nat → Int32} {n : Nat → Nat → Int64} {r : Nat → Value} (hT : TX T) (I : IV BB m) (x0 : Int32) (x1 : Int32) (x2 : Int32) (t : Int → Int) (hp0 : LX m) (hp1 : LAWr m t (m 123 20).toInt.toNat) : PM g mX12_done yX12_done (sqI T BB (wl [(123, 123, some 3), (123, 123, some 40), (123, 123, some 41), (128, 128, none), (141, 141, none), (142, 142, none), (143, 143, none), (144, 144, none), (145, 145, none), (146, 146, none), (147, 147, none), (148, 148, none), (149, 149, none), (150, 150, none), (152, 152, none), (153, 153, none), (154, 154, none)]) r m (-2147483648) 2147483647 (fun m' v => DONr ((0 ≤ x0.toInt ∧ x0.toInt < (m 123 0).toInt) ∧ (idr m x1).toInt = 1 ∧ 0 ≤ x2.toInt ∧ x2.toInt ≤ 7) (∀ a j, isR a j = true → m' a j = m a j) m m' t x0.toInt.toNat x2 (nu m x0.toInt 0).toNat (m 126 x1.toInt.toNat).toInt.toNat x1.toInt.toNat v.toInt)) 6 0 0 [.ref 123, .int x0, .int x1, .int x2] (mk T m n r) := by
  have Kp : fr (wl [(123, 123, some 3), (123, 123, some 40), (123, 123, some 41), (128, 128, none), (141, 141, none), (142, 142, none), (143, 143, none), (144, 144, none), (145, 145, none), (146, 146, none), (147, 147, none), (148, 148, none), (149, 149, none), (150, 150, none), (152, 152, none), (153, 153, none), (154, 154, none)]) m m := fr.rf
  have kLX := hp0
  have z353 : 0 ≤ (m 123 3).toInt ∧ (m 123 3).toInt ≤ 60 := I 123 3
  have z354 : 0 ≤ (m 123 40).toInt ∧ (m 123 40).toInt ≤ 40 := I 123 40
  have z355 : 0 ≤ (m 123 41).toInt ∧ (m 123 41).toInt ≤ 16 := I 123 41
  have z356 : 0 ≤ (m 123 0).toInt ∧ (m 123 0).toInt ≤ 8 := I 123 0
  refine PM.of 7 (lo := [.ref 123, .int x0, .int x1, .int x2, pv_U, pv_U, pv_U, pv_U, pv_U, pv_U, pv_U]) rfl (by decide) rfl rfl (Nat.le_of_ble_eq_true rfl) ?_
  refine pv_aload_n (M := mX12_done) 0 dX12_done_0 1 rfl rfl rfl ?_
  refine pv_iload_n (M := mX12_done) 1 dX12_done_1 2 rfl rfl rfl ?_
  refine pv_iload_n (M := mX12_done) 2 dX12_done_2 3 rfl rfl rfl ?_
  refine pv_callv (M := mX12_done) (as := [.int x0, .int x1]) (st := []) (kc2 := 0) (ks2 := 0) dX12_done_3 wd1554 YX12_isAsked ⟨wd1556, wd86⟩ (mk_get (tl123 hT)) rfl rfl (s_X12_isAsked_va g hT I x0 x1) rfl rfl (Nat.le_of_ble_eq_true rfl) (by decide) rfl rfl 6 rfl (fun rv h1 q1 => ?_)
  obtain ⟨v2, rfl, rfl, pv2, qv2, rv2⟩ := q1
  replace rv2 : (v2 = 0 ∨ ((0 ≤ x0.toInt ∧ x0.toInt ≤ 7) ∧ (0 ≤ x1.toInt ∧ x1.toInt ≤ 7))) ∧ ((v2.toInt = 1 ∧ (0 ≤ x0.toInt ∧ x0.toInt < (m 123 0).toInt) ∧ (idr m x1).toInt = 1) ∨ (v2.toInt = 0 ∧ ¬ ((0 ≤ x0.toInt ∧ x0.toInt < (m 123 0).toInt) ∧ (idr m x1).toInt = 1))) := rv2
  show PV _ _ _ _ _ _ _ 6 [.ref 123, .int x0, .int x1, .int x2, pv_U, pv_U, pv_U, pv_U, pv_U, pv_U, pv_U] [.int v2] _
  have k6 := rv2.2
  refine pv_if_eq (M := mX12_done) (tgt := 16) dX12_done_6 9 rfl (by decide) (fun c4 => ?_) (fun c4 => ?_)
  · have c4 := iv_eq (X := v2.toInt) (Y := 0) c4 rfl (by decide)
    refine pv_iconst (M := mX12_done) (v := (-1)) dX12_done_16 17 rfl (by decide) ?_
    have z5 : ((-1) : Int32).toInt = (-1) := by decide
    exact pv_iret (M := mX12_done) dX12_done_17 rfl rfl ⟨_, _, _, rfl, rfl, I, Kp, by decide, by decide, (Or.inl ⟨by omega, by decide, fun _ _ _ => rfl⟩)⟩
  · have pc4 := rv2.1.resolve_left c4
    have c4 := iv_ne (X := v2.toInt) (Y := 0) c4 rfl (by decide)
    refine pv_iload_n (M := mX12_done) 3 dX12_done_9 10 rfl rfl rfl ?_
    refine pv_calls (M := mX12_done) (as := [.int x2]) (st := []) (kc2 := 0) (ks2 := 0) dX12_done_10 wd1496 YX12_isClerk wd1497 (s_X12_isClerk_va g hT I x2) rfl rfl (Nat.le_of_ble_eq_true rfl) (by decide) rfl rfl 13 rfl (fun rv h1 q6 => ?_)
    obtain ⟨v7, rfl, rfl, pv7, qv7, rv7⟩ := q6
    replace rv7 : (v7 = 0 ∨ (0 ≤ x2.toInt ∧ x2.toInt ≤ 7)) ∧ ((v7.toInt = 1 ∧ 0 ≤ x2.toInt ∧ x2.toInt ≤ 7) ∨ (v7.toInt = 0 ∧ (x2.toInt < 0 ∨ 7 < x2.toInt))) := rv7
    show PV _ _ _ _ _ _ _ 13 [.ref 123, .int x0, .int x1, .int x2, pv_U, pv_U, pv_U, pv_U, pv_U, pv_U, pv_U] [.int v7] _
    have k13 := rv7.2
    refine pv_if_ne (M := mX12_done) (tgt := 18) dX12_done_13 16 rfl (by decide) (fun c9 => ?_) (fun c9 => ?_)
    · have pc9 := rv7.1.resolve_left c9
      have c9 := iv_ne (X := v7.toInt) (Y := 0) c9 rfl (by decide)
      refine pv_aload_n (M := mX12_done) 0 dX12_done_18 19 rfl rfl rfl ?_
      refine pv_iload_n (M := mX12_done) 1 dX12_done_19 20 rfl rfl rfl ?_
      refine pv_iload_n (M := mX12_done) 2 dX12_done_20 21 rfl rfl rfl ?_
      refine pv_iload_n (M := mX12_done) 3 dX12_done_21 22 rfl rfl rfl ?_
      have kgR : ∀ a j, isR a j = true → m a j = m a j := fun _ _ _ => rfl
      have k22 : LAWr m t (m 123 20).toInt.toNat := by rw [show m 123 20 = m 123 20 from kgR 123 20 rfl]; exact LAWr_eq hp1 (fun a j h1 h2 => kgR a j (isR_cr h1 h2))
      refine pv_callv (M := mX12_done) (as := [.int x0, .int x1, .int x2]) (st := []) (kc2 := 0) (ks2 := 0) dX12_done_22 wd1575 YX12_cheapestOf ⟨wd1577, wd90⟩ (mk_get (tl123 hT)) rfl rfl (s_X12_cheapestOf_va g hT I x0 (by omega) (by omega) x1 (by omega) (by omega) x2 t (by first | omega | assumption | exact (iv_rng _).2 | exact (iv_rng _).1 | decide) k22) rfl rfl (Nat.le_of_ble_eq_true rfl) (by decide) rfl rfl 25 rfl (fun rv h1 q12 => ?_)
      obtain ⟨m13, n14, v17, rfl, rfl, I15, K16, pv17, qv17, rv17⟩ := q12
      replace rv17 : (m13 123 40).toInt = nu m x0.toInt 0 ∧ (m13 123 41).toInt = (m 126 x1.toInt.toNat).toInt ∧ CHE m m13 t x0.toInt.toNat x2.toInt (nu m x0.toInt 0).toNat (m 126 x1.toInt.toNat).toInt.toNat x1.toInt.toNat v17.toInt := rv17
      have K16c := K16
      have kLX : LX m13 := LX_eq kLX (K16c 123 20 rfl) (fun j => K16c 136 j rfl) (fun j => K16c 138 j rfl) (fun j => K16c 139 j rfl) (fun j => K16c 140 j rfl)
      have u18 : nu m13 x0.toInt 0 = nu m x0.toInt 0 := nu_eq (fun j => K16c 124 j rfl) (fun j => K16c 128 j rfl) _ _
      have w19 : (m13 123 3).toInt = (m 123 3).toInt := congrArg Int32.toInt (K16 123 3 rfl)
      have w20 : (m13 123 0).toInt = (m 123 0).toInt := congrArg Int32.toInt (K16 123 0 rfl)
      have K16 := Kp.trans (K16.sub (wl_sub (by decide)))
      show PV _ _ _ _ _ _ _ 25 [.ref 123, .int x0, .int x1, .int x2, pv_U, pv_U, pv_U, pv_U, pv_U, pv_U, pv_U] [.int v17] _
      have k25 := rv17
      have k25R : ∀ a j, isR a j = true → m13 a j = m a j := fun a j q => K16c a j (wl_nR (by decide) q)
      have k25p : ∀ j, m13 125 j = m 125 j := fun j => K16 125 j rfl
      have k25q : m13 123 1 = m 123 1 := K16 123 1 rfl
      refine pv_bipush (M := mX12_done) (v := (-2)) dX12_done_25 27 rfl (by decide) ?_
      refine pv_icmp_ne (M := mX12_done) (tgt := 33) dX12_done_27 30 rfl (by decide) (fun c25 => ?_) (fun c25 => ?_)
      · have c25 := iv_ne (X := v17.toInt) (Y := (-2)) c25 rfl (by decide)
        obtain ⟨k33c, k33d, kc, kr, kd, kCK, kRW, kDD, k33⟩ := k25
        obtain ⟨u, ku1, ku0, ku2, kST⟩ := k33.resolve_left (fun q => by have q2 := q.2; omega)
        clear k33
        have kne : ctv kr kd kc (nu m x0.toInt 0).toNat (m 126 x1.toInt.toNat).toInt.toNat (nu m x0.toInt 0).toNat 0 ≠ none := by rw [ku1]; exact fun q => by cases q
        have kst : ∀ j : Nat, (j : Int) < (m13 123 41).toInt → 0 ≤ (m13 154 j).toInt ∧ (m13 154 j).toInt < (m13 123 40).toInt := fun j hj => by obtain ⟨p, p1, _, _, p4⟩ := STS_at kne kST (j := j) (by omega); omega
        have ksu : ∀ j : Nat, (j : Int) + 1 < (m13 123 41).toInt → (m13 154 j).toInt < (m13 154 (j + 1)).toInt := fun j hj => STS_up kne kST (by omega)
        have kn40 : 0 ≤ (m13 123 40).toInt ∧ (m13 123 40).toInt ≤ 40 := I15 123 40
        have kn41 : 0 ≤ (m13 123 41).toInt ∧ (m13 123 41).toInt ≤ 16 := I15 123 41
        refine pv_aload_n (M := mX12_done) 0 dX12_done_33 34 rfl rfl rfl ?_
        refine pv_callv (M := mX12_done) (as := []) (st := []) (kc2 := 0) (ks2 := 0) dX12_done_34 wd1599 YX12_strokesFor ⟨wd1601, wd94⟩ (mk_get (tl123 hT)) rfl rfl (s_X12_strokesFor_va g hT I15 kst ksu) rfl rfl (Nat.le_of_ble_eq_true rfl) (by decide) rfl rfl 37 rfl (fun rv h1 q34 => ?_)
        obtain ⟨v35, rfl, rfl, pv35, qv35, rv35⟩ := q34
        replace rv35 : v35.toInt = (dn (fun k => (m13 154 k).toInt.toNat) (m13 123 41).toInt.toNat (m13 123 40).toInt.toNat).length := rv35
        show PV _ _ _ _ _ _ _ 37 [.ref 123, .int x0, .int x1, .int x2, pv_U, pv_U, pv_U, pv_U, pv_U, pv_U, pv_U] [.int v35] _
        have k37 := rv35
        rw [show (m13 123 40).toInt.toNat = (nu m x0.toInt 0).toNat by rw [k33c], show (m13 123 41).toInt.toNat = (m 126 x1.toInt.toNat).toInt.toNat by rw [k33d]] at k37
        have k37s : (m13 123 3).toInt = (m 123 3).toInt := congrArg Int32.toInt (k25R 123 3 rfl)
        have k37u : nu m13 x0.toInt 0 = nu m x0.toInt 0 := nu_eq (fun j => k25R 124 j rfl) (fun j => k25R 128 j rfl) _ _
        refine pv_istore (M := mX12_done) (lo2 := [.ref 123, .int x0, .int x1, .int x2, .int v35, pv_U, pv_U, pv_U, pv_U, pv_U, pv_U]) dX12_done_37 39 rfl (by decide) rfl rfl ?_
        refine pv_aload_n (M := mX12_done) 0 dX12_done_39 40 rfl rfl rfl ?_
        refine iv_get (M := mX12_done) (l1 := 0) (l2 := 60) dX12_done_40 FX12 3 wd1176 (by decide) (tl123 hT) rfl I15 rfl 43 rfl (fun v40 ev40 pv40 qv40 => ?_)
        have wv40 : v40.toInt = (m13 123 3).toInt := congrArg Int32.toInt ev40
        refine pv_iload (M := mX12_done) dX12_done_43 45 rfl rfl ?_
        refine iv_iadd (M := mX12_done) (X := v40.toInt) (Y := v35.toInt) dX12_done_45 46 rfl rfl rfl (by omega) (by omega) (fun v41 ev41 => ?_)
        refine pv_bipush (M := mX12_done) (v := 60) dX12_done_46 48 rfl (by decide) ?_
        refine pv_icmp_le (M := mX12_done) (tgt := 54) dX12_done_48 51 rfl (by decide) (fun c42 => ?_) (fun c42 => ?_)
        · have c42 := iv_le (X := v41.toInt) (Y := 60) c42 rfl (by decide)
          refine pv_aload_n (M := mX12_done) 0 dX12_done_54 55 rfl rfl rfl ?_
          refine iv_get (M := mX12_done) (l1 := 0) (l2 := 40) dX12_done_55 FX12 40 wd1213 (by decide) (tl123 hT) rfl I15 rfl 58 rfl (fun v43 ev43 pv43 qv43 => ?_)
          have wv43 : v43.toInt = (m13 123 40).toInt := congrArg Int32.toInt ev43
          refine pv_istore (M := mX12_done) (lo2 := [.ref 123, .int x0, .int x1, .int x2, .int v35, .int v43, pv_U, pv_U, pv_U, pv_U, pv_U]) dX12_done_58 60 rfl (by decide) rfl rfl ?_
          refine pv_aload_n (M := mX12_done) 0 dX12_done_60 61 rfl rfl rfl ?_
          refine iv_get (M := mX12_done) (l1 := 0) (l2 := 16) dX12_done_61 FX12 41 wd1214 (by decide) (tl123 hT) rfl I15 rfl 64 rfl (fun v44 ev44 pv44 qv44 => ?_)
          have wv44 : v44.toInt = (m13 123 41).toInt := congrArg Int32.toInt ev44
          refine pv_iconst (M := mX12_done) (v := 1) dX12_done_64 65 rfl (by decide) ?_
          refine iv_isub (M := mX12_done) (X := v44.toInt) (Y := 1) dX12_done_65 66 rfl rfl (by decide) (by omega) (by omega) (fun v45 ev45 => ?_)
          refine pv_istore (M := mX12_done) (lo2 := [.ref 123, .int x0, .int x1, .int x2, .int v35, .int v43, .int v45, pv_U, pv_U, pv_U, pv_U]) dX12_done_66 68 rfl (by decide) rfl rfl ?_
          have lp53 : ∀ (fuel52 : Nat) (y46 : Int32) (y47 : Int32) (m48 : Nat → Nat → Int32) (n49 : Nat → Nat → Int64), (-1 ≤ y46.toInt) → (y46.toInt ≤ 40) → (-2 ≤ y47.toInt) → (y47.toInt ≤ 15) → (y47.toInt < (m13 123 41).toInt) → (y46.toInt ≤ (m13 123 40).toInt) → (DNR m13 m48 x0.toInt.toNat x2 (fun i => m13 152 i) (fun k => (m13 154 k).toInt.toNat) (m 126 x1.toInt.toNat).toInt.toNat (nu m x0.toInt 0).toNat y47.toInt y46.toInt) → (0 ≤ y47.toInt → (m13 154 y47.toInt.toNat).toInt < y46.toInt) → (∃ K : List (Nat × Nat), SQr x0.toInt.toNat x2 (fun i => m13 152 i) K m13 m48) → (LX m48) → IV BB m48 → fr (wl [(123, 123, some 3), (123, 123, some 40), (123, 123, some 41), (128, 128, none), (141, 141, none), (142, 142, none), (143, 143, none), (144, 144, none), (145, 145, none), (146, 146, none), (147, 147, none), (148, 148, none), (149, 149, none), (150, 150, none), (152, 152, none), (153, 153, none), (154, 154, none)]) m m48 → ((y47.toInt + 2) : Int).toNat < fuel52 → PV none g mX12_done (sqI T BB (wl [(123, 123, some 3), (123, 123, some 40), (123, 123, some 41), (128, 128, none), (141, 141, none), (142, 142, none), (143, 143, none), (144, 144, none), (145, 145, none), (146, 146, none), (147, 147, none), (148, 148, none), (149, 149, none), (150, 150, none), (152, 152, none), (153, 153, none), (154, 154, none)]) r m (-2147483648) 2147483647 (fun m' v => DONr ((0 ≤ x0.toInt ∧ x0.toInt < (m 123 0).toInt) ∧ (idr m x1).toInt = 1 ∧ 0 ≤ x2.toInt ∧ x2.toInt ≤ 7) (∀ a j, isR a j = true → m' a j = m a j) m m' t x0.toInt.toNat x2 (nu m x0.toInt 0).toNat (m 126 x1.toInt.toNat).toInt.toNat x1.toInt.toNat v.toInt)) 6 0 0 68 [.ref 123, .int x0, .int x1, .int x2, .int v35, .int y46, .int y47, pv_U, pv_U, pv_U, pv_U] [] (mk T m48 n49 r) := by
            intro fuel52
            induction fuel52 with
            | zero => intro y46 y47 m48 n49 b55 b56 b57 b58 b59 b60 b61 b62 b63 b64 I50 K51 z65; omega
            | succ fuel52 ih54 =>
              intro y46 y47 m48 n49 b55 b56 b57 b58 b59 b60 b61 b62 b63 b64 I50 K51 z65
              have z66 : 0 ≤ (m48 123 3).toInt ∧ (m48 123 3).toInt ≤ 60 := I50 123 3
              have z67 : 0 ≤ (m48 123 40).toInt ∧ (m48 123 40).toInt ≤ 40 := I50 123 40
              have z68 : 0 ≤ (m48 123 41).toInt ∧ (m48 123 41).toInt ≤ 16 := I50 123 41
              have z69 : 0 ≤ (m48 123 0).toInt ∧ (m48 123 0).toInt ≤ 8 := I50 123 0
              have kLX := (show LX m48 by assumption)
              have kgD := (show DNR m13 m48 x0.toInt.toNat x2 (fun i => m13 152 i) (fun k => (m13 154 k).toInt.toNat) (m 126 x1.toInt.toNat).toInt.toNat (nu m x0.toInt 0).toNat y47.toInt y46.toInt by assumption)
              have kgL := (show 0 ≤ y47.toInt → (m13 154 y47.toInt.toNat).toInt < y46.toInt by assumption)
              have kgQ := (show ∃ K : List (Nat × Nat), SQr x0.toInt.toNat x2 (fun i => m13 152 i) K m13 m48 by assumption)
              obtain ⟨kK, kgK⟩ := kgQ
              have kfK := SQr_fr kgK
              have kexx : ((x0.toInt.toNat : Nat) : Int) = x0.toInt := by omega
              have kg74 : -1 ≤ y47.toInt → 0 ≤ y46.toInt ∧ y46.toInt ≤ nu m48 x0.toInt 0 := fun q => by have a := kgD.1 q; have b := a.2.2; rw [kexx] at b; exact ⟨a.1, b⟩
              refine pv_iload (M := mX12_done) dX12_done_68 70 rfl rfl ?_
              refine pv_iconst (M := mX12_done) (v := (-1)) dX12_done_70 71 rfl (by decide) ?_
              refine pv_icmp_lt (M := mX12_done) (tgt := 195) dX12_done_71 74 rfl (by decide) (fun c77 => ?_) (fun c77 => ?_)
              · have c77 := iv_lt (X := y47.toInt) (Y := (-1)) c77 rfl (by decide)
                refine pv_iload (M := mX12_done) dX12_done_195 197 rfl rfl ?_
                exact pv_iret (M := mX12_done) dX12_done_197 rfl rfl ⟨_, _, _, rfl, rfl, I50, K51, (iv_rng v35).1, (iv_rng v35).2, (Or.inr ⟨by omega, kc, m13 152, kr, kd, kCK, kRW, kDD, Or.inr ⟨u, (m13 154), ku1, kST, Or.inr ⟨by rw [← k37, ← k37s]; omega, k37, m13, k25R, k25q, k25p, kgD.2 (by omega)⟩⟩⟩)⟩
              · have c77 := iv_nlt (X := y47.toInt) (Y := (-1)) c77 rfl (by decide)
                have kg74b := kg74 (by omega)
                refine pv_iload (M := mX12_done) dX12_done_74 76 rfl rfl ?_
                refine pv_if_ge (M := mX12_done) (tgt := 83) dX12_done_76 79 rfl (by decide) (fun c79 => ?_) (fun c79 => ?_)
                · have c79 := iv_le (X := 0) (Y := y47.toInt) c79 (by decide) rfl
                  refine pv_aload_n (M := mX12_done) 0 dX12_done_83 84 rfl rfl rfl ?_
                  refine mv_get (M := mX12_done) (v := .ref 154) dX12_done_84 FX12 47 wd1220 (by decide) (tl123 hT) rfl rfl 87 rfl ?_
                  refine pv_iload (M := mX12_done) dX12_done_87 89 rfl rfl ?_
                  refine iv_iald (M := mX12_done) (X := y47.toInt) (l1 := 0) (l2 := 39) dX12_done_89 (tl154 hT) rfl (by omega) (by omega) I50 (fun _ => rfl) 90 rfl (fun v80 ev80 pv80 qv80 => ?_)
                  have k90 : v80.toInt = (m13 154 y47.toInt.toNat).toInt := congrArg Int32.toInt (ev80.trans (kfK 154 _ (by omega) (by omega) (by omega)))
                  have k90b := kst y47.toInt.toNat (by omega)
                  have k90c := kgL (by omega)
                  refine pv_iconst (M := mX12_done) (v := 1) dX12_done_90 91 rfl (by decide) ?_
                  refine iv_iadd (M := mX12_done) (X := v80.toInt) (Y := 1) dX12_done_91 92 rfl rfl (by decide) (by omega) (by omega) (fun v84 ev84 => ?_)
                  refine pv_istore (M := mX12_done) (lo2 := [.ref 123, .int x0, .int x1, .int x2, .int v35, .int y46, .int y47, .int v84, pv_U, pv_U, pv_U]) dX12_done_92 94 rfl (by decide) rfl rfl ?_
                  have lp91 : ∀ (fuel90 : Nat) (y85 : Int32) (m86 : Nat → Nat → Int32) (n87 : Nat → Nat → Int64), (0 ≤ y85.toInt) → (y85.toInt ≤ 40) → (v84.toInt ≤ y85.toInt) → (y85.toInt ≤ (m13 123 40).toInt) → (((y47.toInt < 0 ∧ v84.toInt.toNat = 0) ∨ (0 ≤ y47.toInt ∧ v84.toInt.toNat = (fun k => (m13 154 k).toInt.toNat) y47.toInt.toNat + 1))) → (DGR m13 m86 x0.toInt.toNat x2 (fun i => m13 152 i) (fun k => (m13 154 k).toInt.toNat) (m 126 x1.toInt.toNat).toInt.toNat (nu m x0.toInt 0).toNat y47.toInt v84.toInt.toNat y85.toInt.toNat) → (∃ K : List (Nat × Nat), SQr x0.toInt.toNat x2 (fun i => m13 152 i) K m13 m86) → (LX m86) → IV BB m86 → fr (wl [(123, 123, some 3), (123, 123, some 40), (123, 123, some 41), (128, 128, none), (141, 141, none), (142, 142, none), (143, 143, none), (144, 144, none), (145, 145, none), (146, 146, none), (147, 147, none), (148, 148, none), (149, 149, none), (150, 150, none), (152, 152, none), (153, 153, none), (154, 154, none)]) m m86 → ((y85.toInt - v84.toInt) : Int).toNat < fuel90 → PV none g mX12_done (sqI T BB (wl [(123, 123, some 3), (123, 123, some 40), (123, 123, some 41), (128, 128, none), (141, 141, none), (142, 142, none), (143, 143, none), (144, 144, none), (145, 145, none), (146, 146, none), (147, 147, none), (148, 148, none), (149, 149, none), (150, 150, none), (152, 152, none), (153, 153, none), (154, 154, none)]) r m (-2147483648) 2147483647 (fun m' v => DONr ((0 ≤ x0.toInt ∧ x0.toInt < (m 123 0).toInt) ∧ (idr m x1).toInt = 1 ∧ 0 ≤ x2.toInt ∧ x2.toInt ≤ 7) (∀ a j, isR a j = true → m' a j = m a j) m m' t x0.toInt.toNat x2 (nu m x0.toInt 0).toNat (m 126 x1.toInt.toNat).toInt.toNat x1.toInt.toNat v.toInt)) 6 0 0 94 [.ref 123, .int x0, .int x1, .int x2, .int v35, .int y85, .int y47, .int v84, pv_U, pv_U, pv_U] [] (mk T m86 n87 r) := by
                    intro fuel90
                    induction fuel90 with
                    | zero => intro y85 m86 n87 b93 b94 b95 b96 b97 b98 b99 b100 I88 K89 z101; omega
                    | succ fuel90 ih92 =>
                      intro y85 m86 n87 b93 b94 b95 b96 b97 b98 b99 b100 I88 K89 z101
                      have z102 : 0 ≤ (m86 123 3).toInt ∧ (m86 123 3).toInt ≤ 60 := I88 123 3
                      have z103 : 0 ≤ (m86 123 40).toInt ∧ (m86 123 40).toInt ≤ 40 := I88 123 40
                      have z104 : 0 ≤ (m86 123 41).toInt ∧ (m86 123 41).toInt ≤ 16 := I88 123 41
                      have z105 : 0 ≤ (m86 123 0).toInt ∧ (m86 123 0).toInt ≤ 8 := I88 123 0
                      have kLX := (show LX m86 by assumption)
                      have kgG := (show DGR m13 m86 x0.toInt.toNat x2 (fun i => m13 152 i) (fun k => (m13 154 k).toInt.toNat) (m 126 x1.toInt.toNat).toInt.toNat (nu m x0.toInt 0).toNat y47.toInt v84.toInt.toNat y85.toInt.toNat by assumption)
                      have kgA := (show ((y47.toInt < 0 ∧ v84.toInt.toNat = 0) ∨ (0 ≤ y47.toInt ∧ v84.toInt.toNat = (fun k => (m13 154 k).toInt.toNat) y47.toInt.toNat + 1)) by assumption)
                      have kgQ2 := (show ∃ K : List (Nat × Nat), SQr x0.toInt.toNat x2 (fun i => m13 152 i) K m13 m86 by assumption)
                      obtain ⟨kK2, kgK2⟩ := kgQ2
                      have kfK2 := SQr_fr kgK2
                      have kg94 : ((y85.toInt.toNat : Nat) : Int) ≤ nu m86 x0.toInt 0 := by have q := kgG.2; rw [kexx] at q; exact q
                      refine pv_iload (M := mX12_done) dX12_done_94 96 rfl rfl ?_
                      refine pv_iload (M := mX12_done) dX12_done_96 98 rfl rfl ?_
                      refine pv_icmp_le (M := mX12_done) (tgt := 183) dX12_done_98 101 rfl (by decide) (fun c112 => ?_) (fun c112 => ?_)
                      · have c112 := iv_le (X := y85.toInt) (Y := v84.toInt) c112 rfl rfl
                        refine pv_iload (M := mX12_done) dX12_done_183 185 rfl rfl ?_
                        refine pv_iconst (M := mX12_done) (v := 1) dX12_done_185 186 rfl (by decide) ?_
                        refine iv_isub (M := mX12_done) (X := v84.toInt) (Y := 1) dX12_done_186 187 rfl rfl (by decide) (by omega) (by omega) (fun v113 ev113 => ?_)
                        refine pv_istore (M := mX12_done) (lo2 := [.ref 123, .int x0, .int x1, .int x2, .int v35, .int v113, .int y47, .int v84, pv_U, pv_U, pv_U]) dX12_done_187 189 rfl (by decide) rfl rfl ?_
                        refine iv_inc (M := mX12_done) (C := (-1)) dX12_done_189 192 rfl rfl (by decide) rfl rfl (by decide) (by omega) (by omega) (fun v114 ev114 => ?_)
                        show PV _ _ _ _ _ _ _ 192 [.ref 123, .int x0, .int x1, .int x2, .int v35, .int v113, .int v114, .int v84, pv_U, pv_U, pv_U] [] _
                        refine pv_goto (M := mX12_done) (tgt := 68) dX12_done_192 (by decide) ?_
                        refine pv_fg (lo2 := [.ref 123, .int x0, .int x1, .int x2, .int v35, .int v113, .int v114, pv_U, pv_U, pv_U, pv_U]) ⟨Or.inr rfl, ⟨Or.inr rfl, ⟨Or.inr rfl, ⟨Or.inr rfl, ⟨Or.inr rfl, ⟨Or.inr rfl, ⟨Or.inr rfl, ⟨Or.inl rfl, ⟨Or.inl rfl, ⟨Or.inl rfl, ⟨Or.inl rfl, trivial⟩⟩⟩⟩⟩⟩⟩⟩⟩⟩⟩ ?_
                        have kb68 : DNR m13 m86 x0.toInt.toNat x2 (fun i => m13 152 i) (fun k => (m13 154 k).toInt.toNat) (m 126 x1.toInt.toNat).toInt.toNat (nu m x0.toInt 0).toNat v114.toInt v113.toInt := DGR_out kgG (by omega) kgA (by omega) (by omega) (by omega)
                        have kb68s : 0 ≤ v114.toInt → (m13 154 v114.toInt.toNat).toInt < v113.toInt := fun q => by have z := ksu v114.toInt.toNat (by omega); rw [show v114.toInt.toNat + 1 = (y47.toInt).toNat by omega] at z; omega
                        have kb68q : ∃ K : List (Nat × Nat), SQr x0.toInt.toNat x2 (fun i => m13 152 i) K m13 m86 := ⟨kK2, kgK2⟩
                        exact ih54 v113 v114 m86 n87 (by first | omega | assumption | exact (iv_rng _).2 | exact (iv_rng _).1 | decide) (by first | omega | assumption | exact (iv_rng _).2 | exact (iv_rng _).1 | decide) (by first | omega | assumption | exact (iv_rng _).2 | exact (iv_rng _).1 | decide) (by first | omega | assumption | exact (iv_rng _).2 | exact (iv_rng _).1 | decide) (by first | omega | assumption | (show v114.toInt < (m13 123 41).toInt; omega) | decide) (by first | omega | assumption | (show v113.toInt ≤ (m13 123 40).toInt; omega) | decide) kb68 kb68s kb68q kLX I88 K89 (by omega)
                      · have c112 := iv_nle (X := y85.toInt) (Y := v84.toInt) c112 rfl rfl
                        have k101 := DGR_room kgG (by omega) (by omega)
                        refine pv_iload (M := mX12_done) dX12_done_101 103 rfl rfl ?_
                        refine pv_iload (M := mX12_done) dX12_done_103 105 rfl rfl ?_
                        refine iv_isub (M := mX12_done) (X := y85.toInt) (Y := v84.toInt) dX12_done_105 106 rfl rfl rfl (by omega) (by omega) (fun v119 ev119 => ?_)
                        refine pv_bipush (M := mX12_done) (v := 9) dX12_done_106 108 rfl (by decide) ?_
                        refine pv_icmp_le (M := mX12_done) (tgt := 116) dX12_done_108 111 rfl (by decide) (fun c120 => ?_) (fun c120 => ?_)
                        · have c120 := iv_le (X := v119.toInt) (Y := 9) c120 rfl (by decide)
                          refine pv_iload (M := mX12_done) dX12_done_116 118 rfl rfl ?_
                          refine pv_iload (M := mX12_done) dX12_done_118 120 rfl rfl ?_
                          refine iv_isub (M := mX12_done) (X := y85.toInt) (Y := v84.toInt) dX12_done_120 121 rfl rfl rfl (by omega) (by omega) (fun v121 ev121 => ?_)
                          refine pv_istore (M := mX12_done) (lo2 := [.ref 123, .int x0, .int x1, .int x2, .int v35, .int y85, .int y47, .int v84, .int v121, pv_U, pv_U]) dX12_done_121 123 rfl (by decide) rfl rfl ?_
                          refine pv_iconst (M := mX12_done) (v := 0) dX12_done_123 124 rfl (by decide) ?_
                          refine pv_istore (M := mX12_done) (lo2 := [.ref 123, .int x0, .int x1, .int x2, .int v35, .int y85, .int y47, .int v84, .int v121, .int 0, pv_U]) dX12_done_124 126 rfl (by decide) rfl rfl ?_
                          refine pv_iload (M := mX12_done) dX12_done_126 128 rfl rfl ?_
                          refine pv_iload (M := mX12_done) dX12_done_128 130 rfl rfl ?_
                          refine iv_isub (M := mX12_done) (X := y85.toInt) (Y := v121.toInt) dX12_done_130 131 rfl rfl rfl (by omega) (by omega) (fun v122 ev122 => ?_)
                          refine pv_istore (M := mX12_done) (lo2 := [.ref 123, .int x0, .int x1, .int x2, .int v35, .int y85, .int y47, .int v84, .int v121, .int 0, .int v122]) dX12_done_131 133 rfl (by decide) rfl rfl ?_
                          have lp130 : ∀ (fuel129 : Nat) (y123 : Int32) (y124 : Int32), (0 ≤ y124.toInt) → (y124.toInt ≤ 40) → (y85.toInt - v121.toInt ≤ y124.toInt) → (y124.toInt ≤ y85.toInt) → (y123 = smc (fun i => m13 152 (y85.toInt.toNat - v121.toInt.toNat + i)) (y124.toInt.toNat - (y85.toInt.toNat - v121.toInt.toNat))) → ((y85.toInt - y124.toInt) : Int).toNat < fuel129 → PV none g mX12_done (sqI T BB (wl [(123, 123, some 3), (123, 123, some 40), (123, 123, some 41), (128, 128, none), (141, 141, none), (142, 142, none), (143, 143, none), (144, 144, none), (145, 145, none), (146, 146, none), (147, 147, none), (148, 148, none), (149, 149, none), (150, 150, none), (152, 152, none), (153, 153, none), (154, 154, none)]) r m (-2147483648) 2147483647 (fun m' v => DONr ((0 ≤ x0.toInt ∧ x0.toInt < (m 123 0).toInt) ∧ (idr m x1).toInt = 1 ∧ 0 ≤ x2.toInt ∧ x2.toInt ≤ 7) (∀ a j, isR a j = true → m' a j = m a j) m m' t x0.toInt.toNat x2 (nu m x0.toInt 0).toNat (m 126 x1.toInt.toNat).toInt.toNat x1.toInt.toNat v.toInt)) 6 0 0 133 [.ref 123, .int x0, .int x1, .int x2, .int v35, .int y85, .int y47, .int v84, .int v121, .int y123, .int y124] [] (mk T m86 n87 r) := by
                            intro fuel129
                            induction fuel129 with
                            | zero => intro y123 y124 b132 b133 b134 b135 b136 z137; omega
                            | succ fuel129 ih131 =>
                              intro y123 y124 b132 b133 b134 b135 b136 z137
                              have kgS := (show y123 = smc (fun i => m13 152 (y85.toInt.toNat - v121.toInt.toNat + i)) (y124.toInt.toNat - (y85.toInt.toNat - v121.toInt.toNat)) by assumption)
                              refine pv_iload (M := mX12_done) dX12_done_133 135 rfl rfl ?_
                              refine pv_iload (M := mX12_done) dX12_done_135 137 rfl rfl ?_
                              refine pv_icmp_ge (M := mX12_done) (tgt := 158) dX12_done_137 140 rfl (by decide) (fun c139 => ?_) (fun c139 => ?_)
                              · have c139 := iv_le (X := y85.toInt) (Y := y124.toInt) c139 rfl rfl
                                have k158 : y124.toInt.toNat - (y85.toInt.toNat - v121.toInt.toNat) = v121.toInt.toNat := by omega
                                rw [k158] at kgS
                                refine pv_aload_n (M := mX12_done) 0 dX12_done_158 159 rfl rfl rfl ?_
                                refine pv_iload_n (M := mX12_done) 1 dX12_done_159 160 rfl rfl rfl ?_
                                refine pv_iload (M := mX12_done) dX12_done_160 162 rfl rfl ?_
                                refine pv_iload (M := mX12_done) dX12_done_162 164 rfl rfl ?_
                                refine iv_isub (M := mX12_done) (X := y85.toInt) (Y := v121.toInt) dX12_done_164 165 rfl rfl rfl (by omega) (by omega) (fun v142 ev142 => ?_)
                                have k165 : v142.toInt.toNat = y85.toInt.toNat - v121.toInt.toNat := by omega
                                refine pv_iload (M := mX12_done) dX12_done_165 167 rfl rfl ?_
                                refine pv_iload_n (M := mX12_done) 3 dX12_done_167 168 rfl rfl rfl ?_
                                refine pv_iload (M := mX12_done) dX12_done_168 170 rfl rfl ?_
                                refine pv_callv (M := mX12_done) (as := [.int x0, .int v142, .int v121, .int x2, .int y123]) (st := []) (kc2 := 0) (ks2 := 0) dX12_done_170 wd1530 YX12_makes ⟨wd1532, wd83⟩ (mk_get (tl123 hT)) rfl rfl (s_X12_makes_va g hT I88 x0 (by omega) (by omega) v142 (by omega) (by omega) v121 (by omega) (by omega) x2 (by omega) (by omega) y123 (by first | omega | assumption | exact (iv_rng _).2 | exact (iv_rng _).1 | decide) (by first | omega | assumption | exact (iv_rng _).2 | exact (iv_rng _).1 | decide)) rfl rfl (Nat.le_of_ble_eq_true rfl) (by decide) rfl rfl 173 rfl (fun rv h1 q144 => ?_)
                                obtain ⟨m145, n146, rfl, rfl, I147, K148, rm145⟩ := q144
                                replace rm145 : (nu m145 x0.toInt 0 = nu m86 x0.toInt 0 - v121.toInt ∧ (m145 123 3).toInt = (m86 123 3).toInt + 1) ∧ STKr m86 m145 x0.toInt.toNat v142.toInt.toNat v121.toInt.toNat x2 y123 := rm145
                                have K148c := K148
                                have kLX : LX m145 := LX_eq kLX (K148c 123 20 rfl) (fun j => K148c 136 j rfl) (fun j => K148c 138 j rfl) (fun j => K148c 139 j rfl) (fun j => K148c 140 j rfl)
                                have w149 : (m145 123 40).toInt = (m86 123 40).toInt := congrArg Int32.toInt (K148 123 40 rfl)
                                have w150 : (m145 123 41).toInt = (m86 123 41).toInt := congrArg Int32.toInt (K148 123 41 rfl)
                                have w151 : (m145 123 0).toInt = (m86 123 0).toInt := congrArg Int32.toInt (K148 123 0 rfl)
                                have K148 := K89.trans (K148.sub (wl_sub (by decide)))
                                show PV _ _ _ _ _ _ _ 173 [.ref 123, .int x0, .int x1, .int x2, .int v35, .int y85, .int y47, .int v84, .int v121, .int y123, .int y124] [] _
                                have k173 := rm145
                                have k173p : STKr m86 m145 x0.toInt.toNat (y85.toInt.toNat - v121.toInt.toNat) v121.toInt.toNat x2 y123 := by have q := k173.2; rw [k165] at q; exact q
                                have k173f : frK m86 m145 := fun a i q1 q2 q3 => K148c a i (mk_frK q1 q2 q3)
                                have k173u : nu m145 ((x0.toInt.toNat : Nat) : Int) 0 = nu m86 ((x0.toInt.toNat : Nat) : Int) 0 - (v121.toInt.toNat : Nat) := by rw [kexx]; have q := k173.1.1; omega
                                refine pv_iload (M := mX12_done) dX12_done_173 175 rfl rfl ?_
                                refine pv_iload (M := mX12_done) dX12_done_175 177 rfl rfl ?_
                                refine iv_isub (M := mX12_done) (X := y85.toInt) (Y := v121.toInt) dX12_done_177 178 rfl rfl rfl (by omega) (by omega) (fun v156 ev156 => ?_)
                                refine pv_istore (M := mX12_done) (lo2 := [.ref 123, .int x0, .int x1, .int x2, .int v35, .int v156, .int y47, .int v84, .int v121, .int y123, .int y124]) dX12_done_178 180 rfl (by decide) rfl rfl ?_
                                refine pv_goto (M := mX12_done) (tgt := 94) dX12_done_180 (by decide) ?_
                                refine pv_fg (lo2 := [.ref 123, .int x0, .int x1, .int x2, .int v35, .int v156, .int y47, .int v84, pv_U, pv_U, pv_U]) ⟨Or.inr rfl, ⟨Or.inr rfl, ⟨Or.inr rfl, ⟨Or.inr rfl, ⟨Or.inr rfl, ⟨Or.inr rfl, ⟨Or.inr rfl, ⟨Or.inr rfl, ⟨Or.inl rfl, ⟨Or.inl rfl, ⟨Or.inl rfl, trivial⟩⟩⟩⟩⟩⟩⟩⟩⟩⟩⟩ ?_
                                have kb94 : DGR m13 m145 x0.toInt.toNat x2 (fun i => m13 152 i) (fun k => (m13 154 k).toInt.toNat) (m 126 x1.toInt.toNat).toInt.toNat (nu m x0.toInt 0).toNat y47.toInt v84.toInt.toNat v156.toInt.toNat := DGR_s kgG (by omega) (p := (y85.toInt).toNat - v121.toInt.toNat) (n := v121.toInt.toNat) (by omega) (by omega) k173p kgS k173f k173u (by omega)
                                have kb94q : ∃ K : List (Nat × Nat), SQr x0.toInt.toNat x2 (fun i => m13 152 i) K m13 m145 := ⟨kK2 ++ [((y85.toInt).toNat - v121.toInt.toNat, v121.toInt.toNat)], SQr_app kgK2 ⟨m145, by rw [kgS] at k173p; exact k173p, k173f, rfl⟩⟩
                                exact ih92 v156 m145 n146 (by first | omega | assumption | exact (iv_rng _).2 | exact (iv_rng _).1 | decide) (by first | omega | assumption | exact (iv_rng _).2 | exact (iv_rng _).1 | decide) (by first | omega | assumption | (show v84.toInt ≤ v156.toInt; omega) | decide) (by first | omega | assumption | (show v156.toInt ≤ (m13 123 40).toInt; omega) | decide) kgA kb94 kb94q kLX I147 K148 (by omega)
                              · have c139 := iv_nle (X := y85.toInt) (Y := y124.toInt) c139 rfl rfl
                                refine pv_iload (M := mX12_done) dX12_done_140 142 rfl rfl ?_
                                refine pv_aload_n (M := mX12_done) 0 dX12_done_142 143 rfl rfl rfl ?_
                                refine mv_get (M := mX12_done) (v := .ref 152) dX12_done_143 FX12 45 wd1218 (by decide) (tl123 hT) rfl rfl 146 rfl ?_
                                refine pv_iload (M := mX12_done) dX12_done_146 148 rfl rfl ?_
                                refine iv_iald (M := mX12_done) (X := y124.toInt) (l1 := 0) (l2 := 1999999998) dX12_done_148 (tl152 hT) rfl (by omega) (by omega) I88 (fun _ => rfl) 149 rfl (fun v159 ev159 pv159 qv159 => ?_)
                                have k149 : v159 = m13 152 y124.toInt.toNat := ev159.trans (kfK2 152 _ (by omega) (by omega) (by omega))
                                refine iv_addU (M := mX12_done) dX12_done_149 150 rfl (fun v161 ev161 => ?_)
                                have k150 := ev161
                                refine pv_istore (M := mX12_done) (lo2 := [.ref 123, .int x0, .int x1, .int x2, .int v35, .int y85, .int y47, .int v84, .int v121, .int v161, .int y124]) dX12_done_150 152 rfl (by decide) rfl rfl ?_
                                refine iv_inc (M := mX12_done) (C := 1) dX12_done_152 155 rfl rfl (by decide) rfl rfl (by decide) (by omega) (by omega) (fun v163 ev163 => ?_)
                                show PV _ _ _ _ _ _ _ 155 [.ref 123, .int x0, .int x1, .int x2, .int v35, .int y85, .int y47, .int v84, .int v121, .int v161, .int v163] [] _
                                refine pv_goto (M := mX12_done) (tgt := 133) dX12_done_155 (by decide) ?_
                                have kb133 : v161 = smc (fun i => m13 152 (y85.toInt.toNat - v121.toInt.toNat + i)) (v163.toInt.toNat - (y85.toInt.toNat - v121.toInt.toNat)) := by rw [show v163.toInt.toNat - (y85.toInt.toNat - v121.toInt.toNat) = ((y124.toInt).toNat - (y85.toInt.toNat - v121.toInt.toNat)) + 1 by omega, smc_s, ← kgS, k150, k149]; congr 2; omega
                                exact ih131 v161 v163 (by first | omega | assumption | exact (iv_rng _).2 | exact (iv_rng _).1 | decide) (by first | omega | assumption | exact (iv_rng _).2 | exact (iv_rng _).1 | decide) (by first | omega | assumption | (show y85.toInt - v121.toInt ≤ v163.toInt; omega) | decide) (by first | omega | assumption | (show v163.toInt ≤ y85.toInt; omega) | decide) kb133 (by omega)
                          have z165 : (0 : Int32).toInt = 0 := by decide
                          have kin133 : (0 : Int32) = smc (fun i => m13 152 (y85.toInt.toNat - v121.toInt.toNat + i)) (v122.toInt.toNat - (y85.toInt.toNat - v121.toInt.toNat)) := by rw [show v122.toInt.toNat - (y85.toInt.toNat - v121.toInt.toNat) = 0 by omega]; rfl
                          exact lp130 (((y85.toInt - v122.toInt) : Int).toNat + 1) 0 v122 (by first | omega | assumption | exact (iv_rng _).2 | exact (iv_rng _).1 | decide) (by first | omega | assumption | exact (iv_rng _).2 | exact (iv_rng _).1 | decide) (by first | omega | assumption | (show y85.toInt - v121.toInt ≤ v122.toInt; omega) | decide) (by first | omega | assumption | (show v122.toInt ≤ y85.toInt; omega) | decide) kin133 (by omega)
                        · have c120 := iv_nle (X := v119.toInt) (Y := 9) c120 rfl (by decide)
                          refine pv_bipush (M := mX12_done) (v := 9) dX12_done_111 113 rfl (by decide) ?_
                          refine pv_goto (M := mX12_done) (tgt := 121) dX12_done_113 (by decide) ?_
                          refine pv_istore (M := mX12_done) (lo2 := [.ref 123, .int x0, .int x1, .int x2, .int v35, .int y85, .int y47, .int v84, .int 9, pv_U, pv_U]) dX12_done_121 123 rfl (by decide) rfl rfl ?_
                          refine pv_iconst (M := mX12_done) (v := 0) dX12_done_123 124 rfl (by decide) ?_
                          refine pv_istore (M := mX12_done) (lo2 := [.ref 123, .int x0, .int x1, .int x2, .int v35, .int y85, .int y47, .int v84, .int 9, .int 0, pv_U]) dX12_done_124 126 rfl (by decide) rfl rfl ?_
                          refine pv_iload (M := mX12_done) dX12_done_126 128 rfl rfl ?_
                          refine pv_iload (M := mX12_done) dX12_done_128 130 rfl rfl ?_
                          refine iv_isub (M := mX12_done) (X := y85.toInt) (Y := 9) dX12_done_130 131 rfl rfl (by decide) (by omega) (by omega) (fun v167 ev167 => ?_)
                          refine pv_istore (M := mX12_done) (lo2 := [.ref 123, .int x0, .int x1, .int x2, .int v35, .int y85, .int y47, .int v84, .int 9, .int 0, .int v167]) dX12_done_131 133 rfl (by decide) rfl rfl ?_
                          have lp175 : ∀ (fuel174 : Nat) (y168 : Int32) (y169 : Int32), (0 ≤ y169.toInt) → (y169.toInt ≤ 40) → (y85.toInt - 9 ≤ y169.toInt) → (y169.toInt ≤ y85.toInt) → (y168 = smc (fun i => m13 152 (y85.toInt.toNat - (9 : Int).toNat + i)) (y169.toInt.toNat - (y85.toInt.toNat - (9 : Int).toNat))) → ((y85.toInt - y169.toInt) : Int).toNat < fuel174 → PV none g mX12_done (sqI T BB (wl [(123, 123, some 3), (123, 123, some 40), (123, 123, some 41), (128, 128, none), (141, 141, none), (142, 142, none), (143, 143, none), (144, 144, none), (145, 145, none), (146, 146, none), (147, 147, none), (148, 148, none), (149, 149, none), (150, 150, none), (152, 152, none), (153, 153, none), (154, 154, none)]) r m (-2147483648) 2147483647 (fun m' v => DONr ((0 ≤ x0.toInt ∧ x0.toInt < (m 123 0).toInt) ∧ (idr m x1).toInt = 1 ∧ 0 ≤ x2.toInt ∧ x2.toInt ≤ 7) (∀ a j, isR a j = true → m' a j = m a j) m m' t x0.toInt.toNat x2 (nu m x0.toInt 0).toNat (m 126 x1.toInt.toNat).toInt.toNat x1.toInt.toNat v.toInt)) 6 0 0 133 [.ref 123, .int x0, .int x1, .int x2, .int v35, .int y85, .int y47, .int v84, .int 9, .int y168, .int y169] [] (mk T m86 n87 r) := by
                            intro fuel174
                            induction fuel174 with
                            | zero => intro y168 y169 b177 b178 b179 b180 b181 z182; omega
                            | succ fuel174 ih176 =>
                              intro y168 y169 b177 b178 b179 b180 b181 z182
                              have kgS := (show y168 = smc (fun i => m13 152 (y85.toInt.toNat - (9 : Int).toNat + i)) (y169.toInt.toNat - (y85.toInt.toNat - (9 : Int).toNat)) by assumption)
                              refine pv_iload (M := mX12_done) dX12_done_133 135 rfl rfl ?_
                              refine pv_iload (M := mX12_done) dX12_done_135 137 rfl rfl ?_
                              refine pv_icmp_ge (M := mX12_done) (tgt := 158) dX12_done_137 140 rfl (by decide) (fun c184 => ?_) (fun c184 => ?_)
                              · have c184 := iv_le (X := y85.toInt) (Y := y169.toInt) c184 rfl rfl
                                have k158 : y169.toInt.toNat - (y85.toInt.toNat - (9 : Int).toNat) = (9 : Int).toNat := by omega
                                rw [k158] at kgS
                                refine pv_aload_n (M := mX12_done) 0 dX12_done_158 159 rfl rfl rfl ?_
                                refine pv_iload_n (M := mX12_done) 1 dX12_done_159 160 rfl rfl rfl ?_
                                refine pv_iload (M := mX12_done) dX12_done_160 162 rfl rfl ?_
                                refine pv_iload (M := mX12_done) dX12_done_162 164 rfl rfl ?_
                                refine iv_isub (M := mX12_done) (X := y85.toInt) (Y := 9) dX12_done_164 165 rfl rfl (by decide) (by omega) (by omega) (fun v187 ev187 => ?_)
                                have k165 : v187.toInt.toNat = y85.toInt.toNat - (9 : Int).toNat := by omega
                                refine pv_iload (M := mX12_done) dX12_done_165 167 rfl rfl ?_
                                refine pv_iload_n (M := mX12_done) 3 dX12_done_167 168 rfl rfl rfl ?_
                                refine pv_iload (M := mX12_done) dX12_done_168 170 rfl rfl ?_
                                have z189 : (9 : Int32).toInt = 9 := by decide
                                refine pv_callv (M := mX12_done) (as := [.int x0, .int v187, .int 9, .int x2, .int y168]) (st := []) (kc2 := 0) (ks2 := 0) dX12_done_170 wd1530 YX12_makes ⟨wd1532, wd83⟩ (mk_get (tl123 hT)) rfl rfl (s_X12_makes_va g hT I88 x0 (by omega) (by omega) v187 (by omega) (by omega) 9 (by decide) (by decide) x2 (by omega) (by omega) y168 (by first | omega | assumption | exact (iv_rng _).2 | exact (iv_rng _).1 | decide) (by first | omega | assumption | exact (iv_rng _).2 | exact (iv_rng _).1 | decide)) rfl rfl (Nat.le_of_ble_eq_true rfl) (by decide) rfl rfl 173 rfl (fun rv h1 q190 => ?_)
                                obtain ⟨m191, n192, rfl, rfl, I193, K194, rm191⟩ := q190
                                replace rm191 : (nu m191 x0.toInt 0 = nu m86 x0.toInt 0 - (9 : Int) ∧ (m191 123 3).toInt = (m86 123 3).toInt + 1) ∧ STKr m86 m191 x0.toInt.toNat v187.toInt.toNat (9 : Int).toNat x2 y168 := by have q_ := rm191; (try rw [z189] at q_); exact q_
                                have K194c := K194
                                have kLX : LX m191 := LX_eq kLX (K194c 123 20 rfl) (fun j => K194c 136 j rfl) (fun j => K194c 138 j rfl) (fun j => K194c 139 j rfl) (fun j => K194c 140 j rfl)
                                have w195 : (m191 123 40).toInt = (m86 123 40).toInt := congrArg Int32.toInt (K194 123 40 rfl)
                                have w196 : (m191 123 41).toInt = (m86 123 41).toInt := congrArg Int32.toInt (K194 123 41 rfl)
                                have w197 : (m191 123 0).toInt = (m86 123 0).toInt := congrArg Int32.toInt (K194 123 0 rfl)
                                have K194 := K89.trans (K194.sub (wl_sub (by decide)))
                                show PV _ _ _ _ _ _ _ 173 [.ref 123, .int x0, .int x1, .int x2, .int v35, .int y85, .int y47, .int v84, .int 9, .int y168, .int y169] [] _
                                have k173 := rm191
                                have k173p : STKr m86 m191 x0.toInt.toNat (y85.toInt.toNat - (9 : Int).toNat) (9 : Int).toNat x2 y168 := by have q := k173.2; rw [k165] at q; exact q
                                have k173f : frK m86 m191 := fun a i q1 q2 q3 => K194c a i (mk_frK q1 q2 q3)
                                have k173u : nu m191 ((x0.toInt.toNat : Nat) : Int) 0 = nu m86 ((x0.toInt.toNat : Nat) : Int) 0 - ((9 : Int).toNat : Nat) := by rw [kexx]; have q := k173.1.1; omega
                                refine pv_iload (M := mX12_done) dX12_done_173 175 rfl rfl ?_
                                refine pv_iload (M := mX12_done) dX12_done_175 177 rfl rfl ?_
                                refine iv_isub (M := mX12_done) (X := y85.toInt) (Y := 9) dX12_done_177 178 rfl rfl (by decide) (by omega) (by omega) (fun v202 ev202 => ?_)
                                refine pv_istore (M := mX12_done) (lo2 := [.ref 123, .int x0, .int x1, .int x2, .int v35, .int v202, .int y47, .int v84, .int 9, .int y168, .int y169]) dX12_done_178 180 rfl (by decide) rfl rfl ?_
                                refine pv_goto (M := mX12_done) (tgt := 94) dX12_done_180 (by decide) ?_
                                refine pv_fg (lo2 := [.ref 123, .int x0, .int x1, .int x2, .int v35, .int v202, .int y47, .int v84, pv_U, pv_U, pv_U]) ⟨Or.inr rfl, ⟨Or.inr rfl, ⟨Or.inr rfl, ⟨Or.inr rfl, ⟨Or.inr rfl, ⟨Or.inr rfl, ⟨Or.inr rfl, ⟨Or.inr rfl, ⟨Or.inl rfl, ⟨Or.inl rfl, ⟨Or.inl rfl, trivial⟩⟩⟩⟩⟩⟩⟩⟩⟩⟩⟩ ?_
                                have kb94 : DGR m13 m191 x0.toInt.toNat x2 (fun i => m13 152 i) (fun k => (m13 154 k).toInt.toNat) (m 126 x1.toInt.toNat).toInt.toNat (nu m x0.toInt 0).toNat y47.toInt v84.toInt.toNat v202.toInt.toNat := DGR_s kgG (by omega) (p := (y85.toInt).toNat - (9 : Int).toNat) (n := (9 : Int).toNat) (by omega) (by omega) k173p kgS k173f k173u (by omega)
                                have kb94q : ∃ K : List (Nat × Nat), SQr x0.toInt.toNat x2 (fun i => m13 152 i) K m13 m191 := ⟨kK2 ++ [((y85.toInt).toNat - (9 : Int).toNat, (9 : Int).toNat)], SQr_app kgK2 ⟨m191, by rw [kgS] at k173p; exact k173p, k173f, rfl⟩⟩
                                exact ih92 v202 m191 n192 (by first | omega | assumption | exact (iv_rng _).2 | exact (iv_rng _).1 | decide) (by first | omega | assumption | exact (iv_rng _).2 | exact (iv_rng _).1 | decide) (by first | omega | assumption | (show v84.toInt ≤ v202.toInt; omega) | decide) (by first | omega | assumption | (show v202.toInt ≤ (m13 123 40).toInt; omega) | decide) kgA kb94 kb94q kLX I193 K194 (by omega)
                              · have c184 := iv_nle (X := y85.toInt) (Y := y169.toInt) c184 rfl rfl
                                refine pv_iload (M := mX12_done) dX12_done_140 142 rfl rfl ?_
                                refine pv_aload_n (M := mX12_done) 0 dX12_done_142 143 rfl rfl rfl ?_
                                refine mv_get (M := mX12_done) (v := .ref 152) dX12_done_143 FX12 45 wd1218 (by decide) (tl123 hT) rfl rfl 146 rfl ?_
                                refine pv_iload (M := mX12_done) dX12_done_146 148 rfl rfl ?_
                                refine iv_iald (M := mX12_done) (X := y169.toInt) (l1 := 0) (l2 := 1999999998) dX12_done_148 (tl152 hT) rfl (by omega) (by omega) I88 (fun _ => rfl) 149 rfl (fun v205 ev205 pv205 qv205 => ?_)
                                have k149 : v205 = m13 152 y169.toInt.toNat := ev205.trans (kfK2 152 _ (by omega) (by omega) (by omega))
                                refine iv_addU (M := mX12_done) dX12_done_149 150 rfl (fun v207 ev207 => ?_)
                                have k150 := ev207
                                refine pv_istore (M := mX12_done) (lo2 := [.ref 123, .int x0, .int x1, .int x2, .int v35, .int y85, .int y47, .int v84, .int 9, .int v207, .int y169]) dX12_done_150 152 rfl (by decide) rfl rfl ?_
                                refine iv_inc (M := mX12_done) (C := 1) dX12_done_152 155 rfl rfl (by decide) rfl rfl (by decide) (by omega) (by omega) (fun v209 ev209 => ?_)
                                show PV _ _ _ _ _ _ _ 155 [.ref 123, .int x0, .int x1, .int x2, .int v35, .int y85, .int y47, .int v84, .int 9, .int v207, .int v209] [] _
                                refine pv_goto (M := mX12_done) (tgt := 133) dX12_done_155 (by decide) ?_
                                have kb133 : v207 = smc (fun i => m13 152 (y85.toInt.toNat - (9 : Int).toNat + i)) (v209.toInt.toNat - (y85.toInt.toNat - (9 : Int).toNat)) := by rw [show v209.toInt.toNat - (y85.toInt.toNat - (9 : Int).toNat) = ((y169.toInt).toNat - (y85.toInt.toNat - (9 : Int).toNat)) + 1 by omega, smc_s, ← kgS, k150, k149]; congr 2; omega
                                exact ih176 v207 v209 (by first | omega | assumption | exact (iv_rng _).2 | exact (iv_rng _).1 | decide) (by first | omega | assumption | exact (iv_rng _).2 | exact (iv_rng _).1 | decide) (by first | omega | assumption | (show y85.toInt - 9 ≤ v209.toInt; omega) | decide) (by first | omega | assumption | (show v209.toInt ≤ y85.toInt; omega) | decide) kb133 (by omega)
                          have z211 : (0 : Int32).toInt = 0 := by decide
                          have kin133 : (0 : Int32) = smc (fun i => m13 152 (y85.toInt.toNat - (9 : Int).toNat + i)) (v167.toInt.toNat - (y85.toInt.toNat - (9 : Int).toNat)) := by rw [show v167.toInt.toNat - (y85.toInt.toNat - (9 : Int).toNat) = 0 by omega]; rfl
                          exact lp175 (((y85.toInt - v167.toInt) : Int).toNat + 1) 0 v167 (by first | omega | assumption | exact (iv_rng _).2 | exact (iv_rng _).1 | decide) (by first | omega | assumption | exact (iv_rng _).2 | exact (iv_rng _).1 | decide) (by first | omega | assumption | (show y85.toInt - 9 ≤ v167.toInt; omega) | decide) (by first | omega | assumption | (show v167.toInt ≤ y85.toInt; omega) | decide) kin133 (by omega)
                  have kAA : ((y47.toInt < 0 ∧ v84.toInt.toNat = 0) ∨ (0 ≤ y47.toInt ∧ v84.toInt.toNat = (fun k => (m13 154 k).toInt.toNat) y47.toInt.toNat + 1)) := by first | exact Or.inl ⟨by omega, by decide⟩ | exact Or.inr ⟨by omega, by show _ = (m13 154 y47.toInt.toNat).toInt.toNat + 1; omega⟩
                  have kin94 : DGR m13 m48 x0.toInt.toNat x2 (fun i => m13 152 i) (fun k => (m13 154 k).toInt.toNat) (m 126 x1.toInt.toNat).toInt.toNat (nu m x0.toInt 0).toNat y47.toInt v84.toInt.toNat y46.toInt.toNat := DGR_in kgD (by omega) kAA (by omega)
                  have kin94q : ∃ K : List (Nat × Nat), SQr x0.toInt.toNat x2 (fun i => m13 152 i) K m13 m48 := ⟨kK, kgK⟩
                  exact lp91 (((y46.toInt - v84.toInt) : Int).toNat + 1) y46 m48 n49 (by first | omega | assumption | exact (iv_rng _).2 | exact (iv_rng _).1 | decide) (by first | omega | assumption | exact (iv_rng _).2 | exact (iv_rng _).1 | decide) (by first | omega | assumption | (show v84.toInt ≤ y46.toInt; omega) | decide) (by first | omega | assumption | (show y46.toInt ≤ (m13 123 40).toInt; omega) | decide) kAA kin94 kin94q kLX I50 K51 (by omega)
                · have c79 := iv_nle (X := 0) (Y := y47.toInt) c79 (by decide) rfl
                  refine pv_iconst (M := mX12_done) (v := 0) dX12_done_79 80 rfl (by decide) ?_
                  refine pv_goto (M := mX12_done) (tgt := 92) dX12_done_80 (by decide) ?_
                  refine pv_istore (M := mX12_done) (lo2 := [.ref 123, .int x0, .int x1, .int x2, .int v35, .int y46, .int y47, .int 0, pv_U, pv_U, pv_U]) dX12_done_92 94 rfl (by decide) rfl rfl ?_
                  have lp222 : ∀ (fuel221 : Nat) (y216 : Int32) (m217 : Nat → Nat → Int32) (n218 : Nat → Nat → Int64), (0 ≤ y216.toInt) → (y216.toInt ≤ 40) → (0 ≤ y216.toInt) → (y216.toInt ≤ (m13 123 40).toInt) → (((y47.toInt < 0 ∧ (0 : Int).toNat = 0) ∨ (0 ≤ y47.toInt ∧ (0 : Int).toNat = (fun k => (m13 154 k).toInt.toNat) y47.toInt.toNat + 1))) → (DGR m13 m217 x0.toInt.toNat x2 (fun i => m13 152 i) (fun k => (m13 154 k).toInt.toNat) (m 126 x1.toInt.toNat).toInt.toNat (nu m x0.toInt 0).toNat y47.toInt (0 : Int).toNat y216.toInt.toNat) → (∃ K : List (Nat × Nat), SQr x0.toInt.toNat x2 (fun i => m13 152 i) K m13 m217) → (LX m217) → IV BB m217 → fr (wl [(123, 123, some 3), (123, 123, some 40), (123, 123, some 41), (128, 128, none), (141, 141, none), (142, 142, none), (143, 143, none), (144, 144, none), (145, 145, none), (146, 146, none), (147, 147, none), (148, 148, none), (149, 149, none), (150, 150, none), (152, 152, none), (153, 153, none), (154, 154, none)]) m m217 → ((y216.toInt - 0) : Int).toNat < fuel221 → PV none g mX12_done (sqI T BB (wl [(123, 123, some 3), (123, 123, some 40), (123, 123, some 41), (128, 128, none), (141, 141, none), (142, 142, none), (143, 143, none), (144, 144, none), (145, 145, none), (146, 146, none), (147, 147, none), (148, 148, none), (149, 149, none), (150, 150, none), (152, 152, none), (153, 153, none), (154, 154, none)]) r m (-2147483648) 2147483647 (fun m' v => DONr ((0 ≤ x0.toInt ∧ x0.toInt < (m 123 0).toInt) ∧ (idr m x1).toInt = 1 ∧ 0 ≤ x2.toInt ∧ x2.toInt ≤ 7) (∀ a j, isR a j = true → m' a j = m a j) m m' t x0.toInt.toNat x2 (nu m x0.toInt 0).toNat (m 126 x1.toInt.toNat).toInt.toNat x1.toInt.toNat v.toInt)) 6 0 0 94 [.ref 123, .int x0, .int x1, .int x2, .int v35, .int y216, .int y47, .int 0, pv_U, pv_U, pv_U] [] (mk T m217 n218 r) := by
                    intro fuel221
                    induction fuel221 with
                    | zero => intro y216 m217 n218 b224 b225 b226 b227 b228 b229 b230 b231 I219 K220 z232; omega
                    | succ fuel221 ih223 =>
                      intro y216 m217 n218 b224 b225 b226 b227 b228 b229 b230 b231 I219 K220 z232
                      have z233 : 0 ≤ (m217 123 3).toInt ∧ (m217 123 3).toInt ≤ 60 := I219 123 3
                      have z234 : 0 ≤ (m217 123 40).toInt ∧ (m217 123 40).toInt ≤ 40 := I219 123 40
                      have z235 : 0 ≤ (m217 123 41).toInt ∧ (m217 123 41).toInt ≤ 16 := I219 123 41
                      have z236 : 0 ≤ (m217 123 0).toInt ∧ (m217 123 0).toInt ≤ 8 := I219 123 0
                      have kLX := (show LX m217 by assumption)
                      have kgG := (show DGR m13 m217 x0.toInt.toNat x2 (fun i => m13 152 i) (fun k => (m13 154 k).toInt.toNat) (m 126 x1.toInt.toNat).toInt.toNat (nu m x0.toInt 0).toNat y47.toInt (0 : Int).toNat y216.toInt.toNat by assumption)
                      have kgA := (show ((y47.toInt < 0 ∧ (0 : Int).toNat = 0) ∨ (0 ≤ y47.toInt ∧ (0 : Int).toNat = (fun k => (m13 154 k).toInt.toNat) y47.toInt.toNat + 1)) by assumption)
                      have kgQ2 := (show ∃ K : List (Nat × Nat), SQr x0.toInt.toNat x2 (fun i => m13 152 i) K m13 m217 by assumption)
                      obtain ⟨kK2, kgK2⟩ := kgQ2
                      have kfK2 := SQr_fr kgK2
                      have kg94 : ((y216.toInt.toNat : Nat) : Int) ≤ nu m217 x0.toInt 0 := by have q := kgG.2; rw [kexx] at q; exact q
                      refine pv_iload (M := mX12_done) dX12_done_94 96 rfl rfl ?_
                      refine pv_iload (M := mX12_done) dX12_done_96 98 rfl rfl ?_
                      refine pv_icmp_le (M := mX12_done) (tgt := 183) dX12_done_98 101 rfl (by decide) (fun c243 => ?_) (fun c243 => ?_)
                      · have c243 := iv_le (X := y216.toInt) (Y := 0) c243 rfl (by decide)
                        refine pv_iload (M := mX12_done) dX12_done_183 185 rfl rfl ?_
                        refine pv_iconst (M := mX12_done) (v := 1) dX12_done_185 186 rfl (by decide) ?_
                        refine pv_isub (M := mX12_done) (v := (-1)) dX12_done_186 187 rfl (by decide) ?_
                        refine pv_istore (M := mX12_done) (lo2 := [.ref 123, .int x0, .int x1, .int x2, .int v35, .int (-1), .int y47, .int 0, pv_U, pv_U, pv_U]) dX12_done_187 189 rfl (by decide) rfl rfl ?_
                        refine iv_inc (M := mX12_done) (C := (-1)) dX12_done_189 192 rfl rfl (by decide) rfl rfl (by decide) (by omega) (by omega) (fun v245 ev245 => ?_)
                        show PV _ _ _ _ _ _ _ 192 [.ref 123, .int x0, .int x1, .int x2, .int v35, .int (-1), .int v245, .int 0, pv_U, pv_U, pv_U] [] _
                        refine pv_goto (M := mX12_done) (tgt := 68) dX12_done_192 (by decide) ?_
                        have z246 : ((-1) : Int32).toInt = (-1) := by decide
                        refine pv_fg (lo2 := [.ref 123, .int x0, .int x1, .int x2, .int v35, .int (-1), .int v245, pv_U, pv_U, pv_U, pv_U]) ⟨Or.inr rfl, ⟨Or.inr rfl, ⟨Or.inr rfl, ⟨Or.inr rfl, ⟨Or.inr rfl, ⟨Or.inr rfl, ⟨Or.inr rfl, ⟨Or.inl rfl, ⟨Or.inl rfl, ⟨Or.inl rfl, ⟨Or.inl rfl, trivial⟩⟩⟩⟩⟩⟩⟩⟩⟩⟩⟩ ?_
                        have kb68 : DNR m13 m217 x0.toInt.toNat x2 (fun i => m13 152 i) (fun k => (m13 154 k).toInt.toNat) (m 126 x1.toInt.toNat).toInt.toNat (nu m x0.toInt 0).toNat v245.toInt (-1) := DGR_out kgG (by omega) kgA (by omega) (by omega) (by omega)
                        have kb68s : 0 ≤ v245.toInt → (m13 154 v245.toInt.toNat).toInt < (-1) := fun q => by have z := ksu v245.toInt.toNat (by omega); rw [show v245.toInt.toNat + 1 = (y47.toInt).toNat by omega] at z; omega
                        have kb68q : ∃ K : List (Nat × Nat), SQr x0.toInt.toNat x2 (fun i => m13 152 i) K m13 m217 := ⟨kK2, kgK2⟩
                        exact ih54 (-1) v245 m217 n218 (by first | omega | assumption | exact (iv_rng _).2 | exact (iv_rng _).1 | decide) (by first | omega | assumption | exact (iv_rng _).2 | exact (iv_rng _).1 | decide) (by first | omega | assumption | exact (iv_rng _).2 | exact (iv_rng _).1 | decide) (by first | omega | assumption | exact (iv_rng _).2 | exact (iv_rng _).1 | decide) (by first | omega | assumption | (show v245.toInt < (m13 123 41).toInt; omega) | decide) (by first | omega | assumption | (show (-1) ≤ (m13 123 40).toInt; omega) | decide) kb68 kb68s kb68q kLX I219 K220 (by omega)
                      · have c243 := iv_nle (X := y216.toInt) (Y := 0) c243 rfl (by decide)
                        have k101 := DGR_room kgG (by omega) (by omega)
                        refine pv_iload (M := mX12_done) dX12_done_101 103 rfl rfl ?_
                        refine pv_iload (M := mX12_done) dX12_done_103 105 rfl rfl ?_
                        refine iv_isub (M := mX12_done) (X := y216.toInt) (Y := 0) dX12_done_105 106 rfl rfl (by decide) (by omega) (by omega) (fun v251 ev251 => ?_)
                        refine pv_bipush (M := mX12_done) (v := 9) dX12_done_106 108 rfl (by decide) ?_
                        refine pv_icmp_le (M := mX12_done) (tgt := 116) dX12_done_108 111 rfl (by decide) (fun c252 => ?_) (fun c252 => ?_)
                        · have c252 := iv_le (X := v251.toInt) (Y := 9) c252 rfl (by decide)
                          refine pv_iload (M := mX12_done) dX12_done_116 118 rfl rfl ?_
                          refine pv_iload (M := mX12_done) dX12_done_118 120 rfl rfl ?_
                          refine iv_isub (M := mX12_done) (X := y216.toInt) (Y := 0) dX12_done_120 121 rfl rfl (by decide) (by omega) (by omega) (fun v253 ev253 => ?_)
                          refine pv_istore (M := mX12_done) (lo2 := [.ref 123, .int x0, .int x1, .int x2, .int v35, .int y216, .int y47, .int 0, .int v253, pv_U, pv_U]) dX12_done_121 123 rfl (by decide) rfl rfl ?_
                          refine pv_iconst (M := mX12_done) (v := 0) dX12_done_123 124 rfl (by decide) ?_
                          refine pv_istore (M := mX12_done) (lo2 := [.ref 123, .int x0, .int x1, .int x2, .int v35, .int y216, .int y47, .int 0, .int v253, .int 0, pv_U]) dX12_done_124 126 rfl (by decide) rfl rfl ?_
                          refine pv_iload (M := mX12_done) dX12_done_126 128 rfl rfl ?_
                          refine pv_iload (M := mX12_done) dX12_done_128 130 rfl rfl ?_
                          refine iv_isub (M := mX12_done) (X := y216.toInt) (Y := v253.toInt) dX12_done_130 131 rfl rfl rfl (by omega) (by omega) (fun v254 ev254 => ?_)
                          refine pv_istore (M := mX12_done) (lo2 := [.ref 123, .int x0, .int x1, .int x2, .int v35, .int y216, .int y47, .int 0, .int v253, .int 0, .int v254]) dX12_done_131 133 rfl (by decide) rfl rfl ?_
                          have lp262 : ∀ (fuel261 : Nat) (y255 : Int32) (y256 : Int32), (0 ≤ y256.toInt) → (y256.toInt ≤ 40) → (y216.toInt - v253.toInt ≤ y256.toInt) → (y256.toInt ≤ y216.toInt) → (y255 = smc (fun i => m13 152 (y216.toInt.toNat - v253.toInt.toNat + i)) (y256.toInt.toNat - (y216.toInt.toNat - v253.toInt.toNat))) → ((y216.toInt - y256.toInt) : Int).toNat < fuel261 → PV none g mX12_done (sqI T BB (wl [(123, 123, some 3), (123, 123, some 40), (123, 123, some 41), (128, 128, none), (141, 141, none), (142, 142, none), (143, 143, none), (144, 144, none), (145, 145, none), (146, 146, none), (147, 147, none), (148, 148, none), (149, 149, none), (150, 150, none), (152, 152, none), (153, 153, none), (154, 154, none)]) r m (-2147483648) 2147483647 (fun m' v => DONr ((0 ≤ x0.toInt ∧ x0.toInt < (m 123 0).toInt) ∧ (idr m x1).toInt = 1 ∧ 0 ≤ x2.toInt ∧ x2.toInt ≤ 7) (∀ a j, isR a j = true → m' a j = m a j) m m' t x0.toInt.toNat x2 (nu m x0.toInt 0).toNat (m 126 x1.toInt.toNat).toInt.toNat x1.toInt.toNat v.toInt)) 6 0 0 133 [.ref 123, .int x0, .int x1, .int x2, .int v35, .int y216, .int y47, .int 0, .int v253, .int y255, .int y256] [] (mk T m217 n218 r) := by
                            intro fuel261
                            induction fuel261 with
                            | zero => intro y255 y256 b264 b265 b266 b267 b268 z269; omega
                            | succ fuel261 ih263 =>
                              intro y255 y256 b264 b265 b266 b267 b268 z269
                              have kgS := (show y255 = smc (fun i => m13 152 (y216.toInt.toNat - v253.toInt.toNat + i)) (y256.toInt.toNat - (y216.toInt.toNat - v253.toInt.toNat)) by assumption)
                              refine pv_iload (M := mX12_done) dX12_done_133 135 rfl rfl ?_
                              refine pv_iload (M := mX12_done) dX12_done_135 137 rfl rfl ?_
                              refine pv_icmp_ge (M := mX12_done) (tgt := 158) dX12_done_137 140 rfl (by decide) (fun c271 => ?_) (fun c271 => ?_)
                              · have c271 := iv_le (X := y216.toInt) (Y := y256.toInt) c271 rfl rfl
                                have k158 : y256.toInt.toNat - (y216.toInt.toNat - v253.toInt.toNat) = v253.toInt.toNat := by omega
                                rw [k158] at kgS
                                refine pv_aload_n (M := mX12_done) 0 dX12_done_158 159 rfl rfl rfl ?_
                                refine pv_iload_n (M := mX12_done) 1 dX12_done_159 160 rfl rfl rfl ?_
                                refine pv_iload (M := mX12_done) dX12_done_160 162 rfl rfl ?_
                                refine pv_iload (M := mX12_done) dX12_done_162 164 rfl rfl ?_
                                refine iv_isub (M := mX12_done) (X := y216.toInt) (Y := v253.toInt) dX12_done_164 165 rfl rfl rfl (by omega) (by omega) (fun v274 ev274 => ?_)
                                have k165 : v274.toInt.toNat = y216.toInt.toNat - v253.toInt.toNat := by omega
                                refine pv_iload (M := mX12_done) dX12_done_165 167 rfl rfl ?_
                                refine pv_iload_n (M := mX12_done) 3 dX12_done_167 168 rfl rfl rfl ?_
                                refine pv_iload (M := mX12_done) dX12_done_168 170 rfl rfl ?_
                                refine pv_callv (M := mX12_done) (as := [.int x0, .int v274, .int v253, .int x2, .int y255]) (st := []) (kc2 := 0) (ks2 := 0) dX12_done_170 wd1530 YX12_makes ⟨wd1532, wd83⟩ (mk_get (tl123 hT)) rfl rfl (s_X12_makes_va g hT I219 x0 (by omega) (by omega) v274 (by omega) (by omega) v253 (by omega) (by omega) x2 (by omega) (by omega) y255 (by first | omega | assumption | exact (iv_rng _).2 | exact (iv_rng _).1 | decide) (by first | omega | assumption | exact (iv_rng _).2 | exact (iv_rng _).1 | decide)) rfl rfl (Nat.le_of_ble_eq_true rfl) (by decide) rfl rfl 173 rfl (fun rv h1 q276 => ?_)
                                obtain ⟨m277, n278, rfl, rfl, I279, K280, rm277⟩ := q276
                                replace rm277 : (nu m277 x0.toInt 0 = nu m217 x0.toInt 0 - v253.toInt ∧ (m277 123 3).toInt = (m217 123 3).toInt + 1) ∧ STKr m217 m277 x0.toInt.toNat v274.toInt.toNat v253.toInt.toNat x2 y255 := rm277
                                have K280c := K280
                                have kLX : LX m277 := LX_eq kLX (K280c 123 20 rfl) (fun j => K280c 136 j rfl) (fun j => K280c 138 j rfl) (fun j => K280c 139 j rfl) (fun j => K280c 140 j rfl)
                                have w281 : (m277 123 40).toInt = (m217 123 40).toInt := congrArg Int32.toInt (K280 123 40 rfl)
                                have w282 : (m277 123 41).toInt = (m217 123 41).toInt := congrArg Int32.toInt (K280 123 41 rfl)
                                have w283 : (m277 123 0).toInt = (m217 123 0).toInt := congrArg Int32.toInt (K280 123 0 rfl)
                                have K280 := K220.trans (K280.sub (wl_sub (by decide)))
                                show PV _ _ _ _ _ _ _ 173 [.ref 123, .int x0, .int x1, .int x2, .int v35, .int y216, .int y47, .int 0, .int v253, .int y255, .int y256] [] _
                                have k173 := rm277
                                have k173p : STKr m217 m277 x0.toInt.toNat (y216.toInt.toNat - v253.toInt.toNat) v253.toInt.toNat x2 y255 := by have q := k173.2; rw [k165] at q; exact q
                                have k173f : frK m217 m277 := fun a i q1 q2 q3 => K280c a i (mk_frK q1 q2 q3)
                                have k173u : nu m277 ((x0.toInt.toNat : Nat) : Int) 0 = nu m217 ((x0.toInt.toNat : Nat) : Int) 0 - (v253.toInt.toNat : Nat) := by rw [kexx]; have q := k173.1.1; omega
                                refine pv_iload (M := mX12_done) dX12_done_173 175 rfl rfl ?_
                                refine pv_iload (M := mX12_done) dX12_done_175 177 rfl rfl ?_
                                refine iv_isub (M := mX12_done) (X := y216.toInt) (Y := v253.toInt) dX12_done_177 178 rfl rfl rfl (by omega) (by omega) (fun v288 ev288 => ?_)
                                refine pv_istore (M := mX12_done) (lo2 := [.ref 123, .int x0, .int x1, .int x2, .int v35, .int v288, .int y47, .int 0, .int v253, .int y255, .int y256]) dX12_done_178 180 rfl (by decide) rfl rfl ?_
                                refine pv_goto (M := mX12_done) (tgt := 94) dX12_done_180 (by decide) ?_
                                refine pv_fg (lo2 := [.ref 123, .int x0, .int x1, .int x2, .int v35, .int v288, .int y47, .int 0, pv_U, pv_U, pv_U]) ⟨Or.inr rfl, ⟨Or.inr rfl, ⟨Or.inr rfl, ⟨Or.inr rfl, ⟨Or.inr rfl, ⟨Or.inr rfl, ⟨Or.inr rfl, ⟨Or.inr rfl, ⟨Or.inl rfl, ⟨Or.inl rfl, ⟨Or.inl rfl, trivial⟩⟩⟩⟩⟩⟩⟩⟩⟩⟩⟩ ?_
                                have kb94 : DGR m13 m277 x0.toInt.toNat x2 (fun i => m13 152 i) (fun k => (m13 154 k).toInt.toNat) (m 126 x1.toInt.toNat).toInt.toNat (nu m x0.toInt 0).toNat y47.toInt (0 : Int).toNat v288.toInt.toNat := DGR_s kgG (by omega) (p := (y216.toInt).toNat - v253.toInt.toNat) (n := v253.toInt.toNat) (by omega) (by omega) k173p kgS k173f k173u (by omega)
                                have kb94q : ∃ K : List (Nat × Nat), SQr x0.toInt.toNat x2 (fun i => m13 152 i) K m13 m277 := ⟨kK2 ++ [((y216.toInt).toNat - v253.toInt.toNat, v253.toInt.toNat)], SQr_app kgK2 ⟨m277, by rw [kgS] at k173p; exact k173p, k173f, rfl⟩⟩
                                exact ih223 v288 m277 n278 (by first | omega | assumption | exact (iv_rng _).2 | exact (iv_rng _).1 | decide) (by first | omega | assumption | exact (iv_rng _).2 | exact (iv_rng _).1 | decide) (by first | omega | assumption | (show 0 ≤ v288.toInt; omega) | decide) (by first | omega | assumption | (show v288.toInt ≤ (m13 123 40).toInt; omega) | decide) kgA kb94 kb94q kLX I279 K280 (by omega)
                              · have c271 := iv_nle (X := y216.toInt) (Y := y256.toInt) c271 rfl rfl
                                refine pv_iload (M := mX12_done) dX12_done_140 142 rfl rfl ?_
                                refine pv_aload_n (M := mX12_done) 0 dX12_done_142 143 rfl rfl rfl ?_
                                refine mv_get (M := mX12_done) (v := .ref 152) dX12_done_143 FX12 45 wd1218 (by decide) (tl123 hT) rfl rfl 146 rfl ?_
                                refine pv_iload (M := mX12_done) dX12_done_146 148 rfl rfl ?_
                                refine iv_iald (M := mX12_done) (X := y256.toInt) (l1 := 0) (l2 := 1999999998) dX12_done_148 (tl152 hT) rfl (by omega) (by omega) I219 (fun _ => rfl) 149 rfl (fun v291 ev291 pv291 qv291 => ?_)
                                have k149 : v291 = m13 152 y256.toInt.toNat := ev291.trans (kfK2 152 _ (by omega) (by omega) (by omega))
                                refine iv_addU (M := mX12_done) dX12_done_149 150 rfl (fun v293 ev293 => ?_)
                                have k150 := ev293
                                refine pv_istore (M := mX12_done) (lo2 := [.ref 123, .int x0, .int x1, .int x2, .int v35, .int y216, .int y47, .int 0, .int v253, .int v293, .int y256]) dX12_done_150 152 rfl (by decide) rfl rfl ?_
                                refine iv_inc (M := mX12_done) (C := 1) dX12_done_152 155 rfl rfl (by decide) rfl rfl (by decide) (by omega) (by omega) (fun v295 ev295 => ?_)
                                show PV _ _ _ _ _ _ _ 155 [.ref 123, .int x0, .int x1, .int x2, .int v35, .int y216, .int y47, .int 0, .int v253, .int v293, .int v295] [] _
                                refine pv_goto (M := mX12_done) (tgt := 133) dX12_done_155 (by decide) ?_
                                have kb133 : v293 = smc (fun i => m13 152 (y216.toInt.toNat - v253.toInt.toNat + i)) (v295.toInt.toNat - (y216.toInt.toNat - v253.toInt.toNat)) := by rw [show v295.toInt.toNat - (y216.toInt.toNat - v253.toInt.toNat) = ((y256.toInt).toNat - (y216.toInt.toNat - v253.toInt.toNat)) + 1 by omega, smc_s, ← kgS, k150, k149]; congr 2; omega
                                exact ih263 v293 v295 (by first | omega | assumption | exact (iv_rng _).2 | exact (iv_rng _).1 | decide) (by first | omega | assumption | exact (iv_rng _).2 | exact (iv_rng _).1 | decide) (by first | omega | assumption | (show y216.toInt - v253.toInt ≤ v295.toInt; omega) | decide) (by first | omega | assumption | (show v295.toInt ≤ y216.toInt; omega) | decide) kb133 (by omega)
                          have z297 : (0 : Int32).toInt = 0 := by decide
                          have kin133 : (0 : Int32) = smc (fun i => m13 152 (y216.toInt.toNat - v253.toInt.toNat + i)) (v254.toInt.toNat - (y216.toInt.toNat - v253.toInt.toNat)) := by rw [show v254.toInt.toNat - (y216.toInt.toNat - v253.toInt.toNat) = 0 by omega]; rfl
                          exact lp262 (((y216.toInt - v254.toInt) : Int).toNat + 1) 0 v254 (by first | omega | assumption | exact (iv_rng _).2 | exact (iv_rng _).1 | decide) (by first | omega | assumption | exact (iv_rng _).2 | exact (iv_rng _).1 | decide) (by first | omega | assumption | (show y216.toInt - v253.toInt ≤ v254.toInt; omega) | decide) (by first | omega | assumption | (show v254.toInt ≤ y216.toInt; omega) | decide) kin133 (by omega)
                        · have c252 := iv_nle (X := v251.toInt) (Y := 9) c252 rfl (by decide)
                          refine pv_bipush (M := mX12_done) (v := 9) dX12_done_111 113 rfl (by decide) ?_
                          refine pv_goto (M := mX12_done) (tgt := 121) dX12_done_113 (by decide) ?_
                          refine pv_istore (M := mX12_done) (lo2 := [.ref 123, .int x0, .int x1, .int x2, .int v35, .int y216, .int y47, .int 0, .int 9, pv_U, pv_U]) dX12_done_121 123 rfl (by decide) rfl rfl ?_
                          refine pv_iconst (M := mX12_done) (v := 0) dX12_done_123 124 rfl (by decide) ?_
                          refine pv_istore (M := mX12_done) (lo2 := [.ref 123, .int x0, .int x1, .int x2, .int v35, .int y216, .int y47, .int 0, .int 9, .int 0, pv_U]) dX12_done_124 126 rfl (by decide) rfl rfl ?_
                          refine pv_iload (M := mX12_done) dX12_done_126 128 rfl rfl ?_
                          refine pv_iload (M := mX12_done) dX12_done_128 130 rfl rfl ?_
                          refine iv_isub (M := mX12_done) (X := y216.toInt) (Y := 9) dX12_done_130 131 rfl rfl (by decide) (by omega) (by omega) (fun v299 ev299 => ?_)
                          refine pv_istore (M := mX12_done) (lo2 := [.ref 123, .int x0, .int x1, .int x2, .int v35, .int y216, .int y47, .int 0, .int 9, .int 0, .int v299]) dX12_done_131 133 rfl (by decide) rfl rfl ?_
                          have lp307 : ∀ (fuel306 : Nat) (y300 : Int32) (y301 : Int32), (0 ≤ y301.toInt) → (y301.toInt ≤ 40) → (y216.toInt - 9 ≤ y301.toInt) → (y301.toInt ≤ y216.toInt) → (y300 = smc (fun i => m13 152 (y216.toInt.toNat - (9 : Int).toNat + i)) (y301.toInt.toNat - (y216.toInt.toNat - (9 : Int).toNat))) → ((y216.toInt - y301.toInt) : Int).toNat < fuel306 → PV none g mX12_done (sqI T BB (wl [(123, 123, some 3), (123, 123, some 40), (123, 123, some 41), (128, 128, none), (141, 141, none), (142, 142, none), (143, 143, none), (144, 144, none), (145, 145, none), (146, 146, none), (147, 147, none), (148, 148, none), (149, 149, none), (150, 150, none), (152, 152, none), (153, 153, none), (154, 154, none)]) r m (-2147483648) 2147483647 (fun m' v => DONr ((0 ≤ x0.toInt ∧ x0.toInt < (m 123 0).toInt) ∧ (idr m x1).toInt = 1 ∧ 0 ≤ x2.toInt ∧ x2.toInt ≤ 7) (∀ a j, isR a j = true → m' a j = m a j) m m' t x0.toInt.toNat x2 (nu m x0.toInt 0).toNat (m 126 x1.toInt.toNat).toInt.toNat x1.toInt.toNat v.toInt)) 6 0 0 133 [.ref 123, .int x0, .int x1, .int x2, .int v35, .int y216, .int y47, .int 0, .int 9, .int y300, .int y301] [] (mk T m217 n218 r) := by
                            intro fuel306
                            induction fuel306 with
                            | zero => intro y300 y301 b309 b310 b311 b312 b313 z314; omega
                            | succ fuel306 ih308 =>
                              intro y300 y301 b309 b310 b311 b312 b313 z314
                              have kgS := (show y300 = smc (fun i => m13 152 (y216.toInt.toNat - (9 : Int).toNat + i)) (y301.toInt.toNat - (y216.toInt.toNat - (9 : Int).toNat)) by assumption)
                              refine pv_iload (M := mX12_done) dX12_done_133 135 rfl rfl ?_
                              refine pv_iload (M := mX12_done) dX12_done_135 137 rfl rfl ?_
                              refine pv_icmp_ge (M := mX12_done) (tgt := 158) dX12_done_137 140 rfl (by decide) (fun c316 => ?_) (fun c316 => ?_)
                              · have c316 := iv_le (X := y216.toInt) (Y := y301.toInt) c316 rfl rfl
                                have k158 : y301.toInt.toNat - (y216.toInt.toNat - (9 : Int).toNat) = (9 : Int).toNat := by omega
                                rw [k158] at kgS
                                refine pv_aload_n (M := mX12_done) 0 dX12_done_158 159 rfl rfl rfl ?_
                                refine pv_iload_n (M := mX12_done) 1 dX12_done_159 160 rfl rfl rfl ?_
                                refine pv_iload (M := mX12_done) dX12_done_160 162 rfl rfl ?_
                                refine pv_iload (M := mX12_done) dX12_done_162 164 rfl rfl ?_
                                refine iv_isub (M := mX12_done) (X := y216.toInt) (Y := 9) dX12_done_164 165 rfl rfl (by decide) (by omega) (by omega) (fun v319 ev319 => ?_)
                                have k165 : v319.toInt.toNat = y216.toInt.toNat - (9 : Int).toNat := by omega
                                refine pv_iload (M := mX12_done) dX12_done_165 167 rfl rfl ?_
                                refine pv_iload_n (M := mX12_done) 3 dX12_done_167 168 rfl rfl rfl ?_
                                refine pv_iload (M := mX12_done) dX12_done_168 170 rfl rfl ?_
                                have z321 : (9 : Int32).toInt = 9 := by decide
                                refine pv_callv (M := mX12_done) (as := [.int x0, .int v319, .int 9, .int x2, .int y300]) (st := []) (kc2 := 0) (ks2 := 0) dX12_done_170 wd1530 YX12_makes ⟨wd1532, wd83⟩ (mk_get (tl123 hT)) rfl rfl (s_X12_makes_va g hT I219 x0 (by omega) (by omega) v319 (by omega) (by omega) 9 (by decide) (by decide) x2 (by omega) (by omega) y300 (by first | omega | assumption | exact (iv_rng _).2 | exact (iv_rng _).1 | decide) (by first | omega | assumption | exact (iv_rng _).2 | exact (iv_rng _).1 | decide)) rfl rfl (Nat.le_of_ble_eq_true rfl) (by decide) rfl rfl 173 rfl (fun rv h1 q322 => ?_)
                                obtain ⟨m323, n324, rfl, rfl, I325, K326, rm323⟩ := q322
                                replace rm323 : (nu m323 x0.toInt 0 = nu m217 x0.toInt 0 - (9 : Int) ∧ (m323 123 3).toInt = (m217 123 3).toInt + 1) ∧ STKr m217 m323 x0.toInt.toNat v319.toInt.toNat (9 : Int).toNat x2 y300 := by have q_ := rm323; (try rw [z321] at q_); exact q_
                                have K326c := K326
                                have kLX : LX m323 := LX_eq kLX (K326c 123 20 rfl) (fun j => K326c 136 j rfl) (fun j => K326c 138 j rfl) (fun j => K326c 139 j rfl) (fun j => K326c 140 j rfl)
                                have w327 : (m323 123 40).toInt = (m217 123 40).toInt := congrArg Int32.toInt (K326 123 40 rfl)
                                have w328 : (m323 123 41).toInt = (m217 123 41).toInt := congrArg Int32.toInt (K326 123 41 rfl)
                                have w329 : (m323 123 0).toInt = (m217 123 0).toInt := congrArg Int32.toInt (K326 123 0 rfl)
                                have K326 := K220.trans (K326.sub (wl_sub (by decide)))
                                show PV _ _ _ _ _ _ _ 173 [.ref 123, .int x0, .int x1, .int x2, .int v35, .int y216, .int y47, .int 0, .int 9, .int y300, .int y301] [] _
                                have k173 := rm323
                                have k173p : STKr m217 m323 x0.toInt.toNat (y216.toInt.toNat - (9 : Int).toNat) (9 : Int).toNat x2 y300 := by have q := k173.2; rw [k165] at q; exact q
                                have k173f : frK m217 m323 := fun a i q1 q2 q3 => K326c a i (mk_frK q1 q2 q3)
                                have k173u : nu m323 ((x0.toInt.toNat : Nat) : Int) 0 = nu m217 ((x0.toInt.toNat : Nat) : Int) 0 - ((9 : Int).toNat : Nat) := by rw [kexx]; have q := k173.1.1; omega
                                refine pv_iload (M := mX12_done) dX12_done_173 175 rfl rfl ?_
                                refine pv_iload (M := mX12_done) dX12_done_175 177 rfl rfl ?_
                                refine iv_isub (M := mX12_done) (X := y216.toInt) (Y := 9) dX12_done_177 178 rfl rfl (by decide) (by omega) (by omega) (fun v334 ev334 => ?_)
                                refine pv_istore (M := mX12_done) (lo2 := [.ref 123, .int x0, .int x1, .int x2, .int v35, .int v334, .int y47, .int 0, .int 9, .int y300, .int y301]) dX12_done_178 180 rfl (by decide) rfl rfl ?_
                                refine pv_goto (M := mX12_done) (tgt := 94) dX12_done_180 (by decide) ?_
                                refine pv_fg (lo2 := [.ref 123, .int x0, .int x1, .int x2, .int v35, .int v334, .int y47, .int 0, pv_U, pv_U, pv_U]) ⟨Or.inr rfl, ⟨Or.inr rfl, ⟨Or.inr rfl, ⟨Or.inr rfl, ⟨Or.inr rfl, ⟨Or.inr rfl, ⟨Or.inr rfl, ⟨Or.inr rfl, ⟨Or.inl rfl, ⟨Or.inl rfl, ⟨Or.inl rfl, trivial⟩⟩⟩⟩⟩⟩⟩⟩⟩⟩⟩ ?_
                                have kb94 : DGR m13 m323 x0.toInt.toNat x2 (fun i => m13 152 i) (fun k => (m13 154 k).toInt.toNat) (m 126 x1.toInt.toNat).toInt.toNat (nu m x0.toInt 0).toNat y47.toInt (0 : Int).toNat v334.toInt.toNat := DGR_s kgG (by omega) (p := (y216.toInt).toNat - (9 : Int).toNat) (n := (9 : Int).toNat) (by omega) (by omega) k173p kgS k173f k173u (by omega)
                                have kb94q : ∃ K : List (Nat × Nat), SQr x0.toInt.toNat x2 (fun i => m13 152 i) K m13 m323 := ⟨kK2 ++ [((y216.toInt).toNat - (9 : Int).toNat, (9 : Int).toNat)], SQr_app kgK2 ⟨m323, by rw [kgS] at k173p; exact k173p, k173f, rfl⟩⟩
                                exact ih223 v334 m323 n324 (by first | omega | assumption | exact (iv_rng _).2 | exact (iv_rng _).1 | decide) (by first | omega | assumption | exact (iv_rng _).2 | exact (iv_rng _).1 | decide) (by first | omega | assumption | (show 0 ≤ v334.toInt; omega) | decide) (by first | omega | assumption | (show v334.toInt ≤ (m13 123 40).toInt; omega) | decide) kgA kb94 kb94q kLX I325 K326 (by omega)
                              · have c316 := iv_nle (X := y216.toInt) (Y := y301.toInt) c316 rfl rfl
                                refine pv_iload (M := mX12_done) dX12_done_140 142 rfl rfl ?_
                                refine pv_aload_n (M := mX12_done) 0 dX12_done_142 143 rfl rfl rfl ?_
                                refine mv_get (M := mX12_done) (v := .ref 152) dX12_done_143 FX12 45 wd1218 (by decide) (tl123 hT) rfl rfl 146 rfl ?_
                                refine pv_iload (M := mX12_done) dX12_done_146 148 rfl rfl ?_
                                refine iv_iald (M := mX12_done) (X := y301.toInt) (l1 := 0) (l2 := 1999999998) dX12_done_148 (tl152 hT) rfl (by omega) (by omega) I219 (fun _ => rfl) 149 rfl (fun v337 ev337 pv337 qv337 => ?_)
                                have k149 : v337 = m13 152 y301.toInt.toNat := ev337.trans (kfK2 152 _ (by omega) (by omega) (by omega))
                                refine iv_addU (M := mX12_done) dX12_done_149 150 rfl (fun v339 ev339 => ?_)
                                have k150 := ev339
                                refine pv_istore (M := mX12_done) (lo2 := [.ref 123, .int x0, .int x1, .int x2, .int v35, .int y216, .int y47, .int 0, .int 9, .int v339, .int y301]) dX12_done_150 152 rfl (by decide) rfl rfl ?_
                                refine iv_inc (M := mX12_done) (C := 1) dX12_done_152 155 rfl rfl (by decide) rfl rfl (by decide) (by omega) (by omega) (fun v341 ev341 => ?_)
                                show PV _ _ _ _ _ _ _ 155 [.ref 123, .int x0, .int x1, .int x2, .int v35, .int y216, .int y47, .int 0, .int 9, .int v339, .int v341] [] _
                                refine pv_goto (M := mX12_done) (tgt := 133) dX12_done_155 (by decide) ?_
                                have kb133 : v339 = smc (fun i => m13 152 (y216.toInt.toNat - (9 : Int).toNat + i)) (v341.toInt.toNat - (y216.toInt.toNat - (9 : Int).toNat)) := by rw [show v341.toInt.toNat - (y216.toInt.toNat - (9 : Int).toNat) = ((y301.toInt).toNat - (y216.toInt.toNat - (9 : Int).toNat)) + 1 by omega, smc_s, ← kgS, k150, k149]; congr 2; omega
                                exact ih308 v339 v341 (by first | omega | assumption | exact (iv_rng _).2 | exact (iv_rng _).1 | decide) (by first | omega | assumption | exact (iv_rng _).2 | exact (iv_rng _).1 | decide) (by first | omega | assumption | (show y216.toInt - 9 ≤ v341.toInt; omega) | decide) (by first | omega | assumption | (show v341.toInt ≤ y216.toInt; omega) | decide) kb133 (by omega)
                          have z343 : (0 : Int32).toInt = 0 := by decide
                          have kin133 : (0 : Int32) = smc (fun i => m13 152 (y216.toInt.toNat - (9 : Int).toNat + i)) (v299.toInt.toNat - (y216.toInt.toNat - (9 : Int).toNat)) := by rw [show v299.toInt.toNat - (y216.toInt.toNat - (9 : Int).toNat) = 0 by omega]; rfl
                          exact lp307 (((y216.toInt - v299.toInt) : Int).toNat + 1) 0 v299 (by first | omega | assumption | exact (iv_rng _).2 | exact (iv_rng _).1 | decide) (by first | omega | assumption | exact (iv_rng _).2 | exact (iv_rng _).1 | decide) (by first | omega | assumption | (show y216.toInt - 9 ≤ v299.toInt; omega) | decide) (by first | omega | assumption | (show v299.toInt ≤ y216.toInt; omega) | decide) kin133 (by omega)
                  have kAA : ((y47.toInt < 0 ∧ (0 : Int).toNat = 0) ∨ (0 ≤ y47.toInt ∧ (0 : Int).toNat = (fun k => (m13 154 k).toInt.toNat) y47.toInt.toNat + 1)) := by first | exact Or.inl ⟨by omega, by decide⟩ | exact Or.inr ⟨by omega, by show _ = (m13 154 y47.toInt.toNat).toInt.toNat + 1; omega⟩
                  have kin94 : DGR m13 m48 x0.toInt.toNat x2 (fun i => m13 152 i) (fun k => (m13 154 k).toInt.toNat) (m 126 x1.toInt.toNat).toInt.toNat (nu m x0.toInt 0).toNat y47.toInt (0 : Int).toNat y46.toInt.toNat := DGR_in kgD (by omega) kAA (by omega)
                  have kin94q : ∃ K : List (Nat × Nat), SQr x0.toInt.toNat x2 (fun i => m13 152 i) K m13 m48 := ⟨kK, kgK⟩
                  exact lp222 (((y46.toInt - 0) : Int).toNat + 1) y46 m48 n49 (by first | omega | assumption | exact (iv_rng _).2 | exact (iv_rng _).1 | decide) (by first | omega | assumption | exact (iv_rng _).2 | exact (iv_rng _).1 | decide) (by first | omega | assumption | (show 0 ≤ y46.toInt; omega) | decide) (by first | omega | assumption | (show y46.toInt ≤ (m13 123 40).toInt; omega) | decide) kAA kin94 kin94q kLX I50 K51 (by omega)
          have kin68 : DNR m13 m13 x0.toInt.toNat x2 (fun i => m13 152 i) (fun k => (m13 154 k).toInt.toNat) (m 126 x1.toInt.toNat).toInt.toNat (nu m x0.toInt 0).toNat v45.toInt v43.toInt := DNR_0 (by omega) (by omega) (by rw [show ((x0.toInt.toNat : Nat) : Int) = x0.toInt by omega, k37u]; omega)
          have kin68s : 0 ≤ v45.toInt → (m13 154 v45.toInt.toNat).toInt < v43.toInt := fun q => by have z := kst v45.toInt.toNat (by omega); omega
          exact lp53 (((v45.toInt + 2) : Int).toNat + 1) v43 v45 m13 n14 (by first | omega | assumption | exact (iv_rng _).2 | exact (iv_rng _).1 | decide) (by first | omega | assumption | exact (iv_rng _).2 | exact (iv_rng _).1 | decide) (by first | omega | assumption | exact (iv_rng _).2 | exact (iv_rng _).1 | decide) (by first | omega | assumption | exact (iv_rng _).2 | exact (iv_rng _).1 | decide) (by first | omega | assumption | (show v45.toInt < (m13 123 41).toInt; omega) | decide) (by first | omega | assumption | (show v43.toInt ≤ (m13 123 40).toInt; omega) | decide) kin68 kin68s ⟨[], rfl⟩ kLX I15 K16 (by omega)
        · have c42 := iv_nle (X := v41.toInt) (Y := 60) c42 rfl (by decide)
          refine pv_bipush (M := mX12_done) (v := (-3)) dX12_done_51 53 rfl (by decide) ?_
          have z350 : ((-3) : Int32).toInt = (-3) := by decide
          exact pv_iret (M := mX12_done) dX12_done_53 rfl rfl ⟨_, _, _, rfl, rfl, I15, K16, by decide, by decide, (Or.inr ⟨by omega, kc, m13 152, kr, kd, kCK, kRW, kDD, Or.inr ⟨u, (m13 154), ku1, kST, Or.inl ⟨by rw [← k37, ← k37s]; omega, by decide, k25R⟩⟩⟩)⟩
      · have c25 := iv_eq (X := v17.toInt) (Y := (-2)) c25 rfl (by decide)
        refine pv_bipush (M := mX12_done) (v := (-2)) dX12_done_30 32 rfl (by decide) ?_
        have z351 : ((-2) : Int32).toInt = (-2) := by decide
        exact pv_iret (M := mX12_done) dX12_done_32 rfl rfl ⟨_, _, _, rfl, rfl, I15, K16, by decide, by decide, (by obtain ⟨k33c, k33d, kc, kr, kd, kCK, kRW, kDD, k33⟩ := k25; exact Or.inr ⟨by clear k33; omega, kc, m13 152, kr, kd, kCK, kRW, kDD, Or.inl ⟨(k33.resolve_right (fun q => by clear k33; obtain ⟨u, _, q0, q2, _⟩ := q; omega)).1, by decide, k25R⟩⟩)⟩
    · have c9 := iv_eq (X := v7.toInt) (Y := 0) c9 rfl (by decide)
      refine pv_iconst (M := mX12_done) (v := (-1)) dX12_done_16 17 rfl (by decide) ?_
      have z352 : ((-1) : Int32).toInt = (-1) := by decide
      exact pv_iret (M := mX12_done) dX12_done_17 rfl rfl ⟨_, _, _, rfl, rfl, I, Kp, by decide, by decide, (Or.inl ⟨by omega, by decide, fun _ _ _ => rfl⟩)⟩
